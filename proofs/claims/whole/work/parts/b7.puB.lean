/-! ===== costs upward only fall, and a step's bound stays ===== -/
theorem fcI_low {AS : Nat → Nat → Int32} {pr : Nat → Int32} {n N h : Nat} (hA : gUp AS n N) (hN : N ≤ 256) (hh : h < N) (g : Nat → Int32) {j : Nat} (hj : j ≤ h) : ∀ i, i ≤ n → p_fcI AS pr h g i j = g j
  | 0, _ => rfl
  | i + 1, hi => by
    have ih := fcI_low hA hN hh g hj i (pr := pr) (by omega)
    rw [p_fcI, p_fcS]
    split
    · rcases hA h i hh (by omega) with q | ⟨b, h1, h2, q⟩
      · rw [if_pos q, ih]
      · rw [q, if_neg (nI_n4 (by omega)), nI_clamp (by omega), upd, if_neg (by omega), ih]
    · exact ih
theorem fcS_dec (AS : Nat → Nat → Int32) (pr : Nat → Int32) (h k : Nat) (g : Nat → Int32) (j : Nat) : (p_fcS AS pr h k g j).toInt ≤ (g j).toInt := by
  unfold p_fcS
  split
  · split
    · exact Int.le_refl _
    · unfold upd
      split
      · next e =>
        split
        · next w =>
          rw [Int32.lt_iff_toInt_lt] at w
          rw [e]; omega
        · rw [e]; exact Int.le_refl _
      · exact Int.le_refl _
  · exact Int.le_refl _
theorem fcI_dec (AS : Nat → Nat → Int32) (pr : Nat → Int32) (h : Nat) (g : Nat → Int32) (j : Nat) : ∀ i d, (p_fcI AS pr h g (i + d) j).toInt ≤ (p_fcI AS pr h g i j).toInt
  | i, 0 => Int.le_refl _
  | i, d + 1 => Int.le_trans (fcS_dec AS pr h (i + d) (p_fcI AS pr h g (i + d)) j) (fcI_dec AS pr h g j i d)

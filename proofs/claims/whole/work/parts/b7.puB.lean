/-! ===== costs upward only fall, and a step's bound stays ===== -/
theorem fcI_low {AS : Nat → Nat → Int32} {pr : Nat → Int32} {n N h : Nat} (hA : gUp AS n N) (hN : N ≤ 256) (hh : h < N) (g : Nat → Int32) {j : Nat} (hj : j ≤ h) : ∀ i, i ≤ n → p_fcI AS pr h g i j = g j
  | 0, _ => rfl
  | i + 1, hi => by
    have ih := fcI_low hA hN hh g hj i (pr := pr) (by omega)
    rw [p_fcI, p_fcS]
    split
    · rcases hA h i hh (by omega) with q | ⟨b, h1, h2, q⟩
      · rw [if_pos q, ih]
      · rw [q, if_neg (nI_n4 (by omega)), nI_clamp (by omega), upd, if_neg (by omega), ih]
    · exact ih
theorem fcS_dec (AS : Nat → Nat → Int32) (pr : Nat → Int32) (h k : Nat) (g : Nat → Int32) (j : Nat) : (p_fcS AS pr h k g j).toInt ≤ (g j).toInt := by
  unfold p_fcS
  split
  · split
    · exact Int.le_refl _
    · unfold upd
      split
      · next e =>
        split
        · next w =>
          rw [Int32.lt_iff_toInt_lt] at w
          rw [e]; omega
        · rw [e]; exact Int.le_refl _
      · exact Int.le_refl _
  · exact Int.le_refl _
theorem fcI_dec (AS : Nat → Nat → Int32) (pr : Nat → Int32) (h : Nat) (g : Nat → Int32) (j : Nat) : ∀ i d, (p_fcI AS pr h g (i + d) j).toInt ≤ (p_fcI AS pr h g i j).toInt
  | i, 0 => Int.le_refl _
  | i, d + 1 => Int.le_trans (fcS_dec AS pr h (i + d) (p_fcI AS pr h g (i + d)) j) (fcI_dec AS pr h g j i d)
theorem fc_low {AS : Nat → Nat → Int32} {pr : Nat → Int32} {h0 n N h : Nat} (hA : gUp AS n N) (hN : N ≤ 256) : ∀ d, h + d ≤ N → p_fc AS pr h0 n (h + d) h = p_fc AS pr h0 n h h
  | 0, _ => rfl
  | d + 1, hd => by
    have ih := fc_low (pr := pr) (h0 := h0) hA hN d (h := h) (by omega)
    show p_fcI AS pr (h + d) (p_fc AS pr h0 n (h + d)) n h = _
    rw [fcI_low hA hN (by omega) _ (by omega) n (Nat.le_refl _), ih]
/-- no state costs more than one before it and the step -/
theorem fc_edge {AS : Nat → Nat → Int32} {pr : Nat → Int32} {h0 n N h w b : Nat} (hA : gUp AS n N) (hN : N ≤ 256) (hh : h < N) (hw : w < n) (hb : AS h w = nI b) (hbN : b < N) (hlt : p_fc AS pr h0 n h h < 1000000) : ∀ d, h + 1 + d ≤ N → (p_fc AS pr h0 n (h + 1 + d) b).toInt ≤ (p_fc AS pr h0 n h h + pr w).toInt
  | 0, _ => by
    have low := fcI_low hA hN hh (p_fc AS pr h0 n h) (pr := pr) (Nat.le_refl h) w (by omega)
    have st : (p_fcI AS pr h (p_fc AS pr h0 n h) (w + 1) b).toInt ≤ (p_fc AS pr h0 n h h + pr w).toInt := by
      rw [p_fcI, p_fcS, low, if_pos hlt, hb, if_neg (nI_n4 (by omega)), nI_clamp (by omega), upd, if_pos rfl]
      split
      · exact Int.le_refl _
      · next q =>
        rw [Int32.lt_iff_toInt_lt] at q
        omega
    have k := fcI_dec AS pr h (p_fc AS pr h0 n h) b (w + 1) (n - (w + 1))
    rw [show w + 1 + (n - (w + 1)) = n by omega] at k
    exact Int.le_trans k st
  | d + 1, hd => by
    have ih := fc_edge hA hN hh hw hb hbN hlt d (by omega)
    have k := fcI_dec AS pr (h + 1 + d) (p_fc AS pr h0 n (h + 1 + d)) b 0 n
    rw [Nat.zero_add] at k
    exact Int.le_trans k ih

/-! ===== cheap, first half: no row costs less than the class says ===== -/
theorem dD_step {AS : Nat → Nat → Int32} {LB : Nat → Int32} {p : Int32} {pr : Nat → Nat} {n N h w b : Nat} (hA : gUp AS n N) (hN : N ≤ 256) (hh : h < N) (hw : w < n) (hb : AS h w = nI b) (hbN : b < N) : dD AS LB p pr n N h ≤ pr w + dD AS LB p pr n N b := by
  rw [dD_eq hA hN hh]
  split
  · have k := dM_ge AS pr (dD AS LB p pr n N) h w (by rw [hb]; exact nI_n4 (by omega)) n hw
    rw [hb, nI_clamp (by omega)] at k
    exact k
  · exact Nat.zero_le _
theorem cheap_lo {AS : Nat → Nat → Int32} {LB prI : Nat → Int32} {p : Int32} {pr : Nat → Nat} {h0 n N : Nat} (hA : gUp AS n N) (hN : N ≤ 256) (hh : h0 < N) (hpr : ∀ w, w < n → pr w ≤ 9 ∧ prI w = nI (pr w)) : ∀ j, j < N → p_mk AS h0 n N j = 1 → ∃ c : Nat, c ≤ 9 * j ∧ dD AS LB p pr n N h0 ≤ c + dD AS LB p pr n N j ∧ p_fc AS prI h0 n 256 j = nI c := by
  refine fc_gen hA hN hh (fun w hw => ⟨pr w, (hpr w hw).1, (hpr w hw).2⟩) (fun j c => dD AS LB p pr n N h0 ≤ c + dD AS LB p pr n N j) ?_ ?_
  · show dD AS LB p pr n N h0 ≤ 0 + dD AS LB p pr n N h0
    omega
  · intro h w b c q hh2 hw hb hbN hq hq9 hQ
    show dD AS LB p pr n N h0 ≤ (c + q) + dD AS LB p pr n N b
    have e : q = pr w := by
      have := (hpr w hw).2
      rw [hq] at this
      exact (nI_eq (by omega) (by have := (hpr w hw).1; omega)).mp this
    have k := dD_step (LB := LB) (p := p) (pr := pr) hA hN hh2 hw hb hbN
    have hQ : dD AS LB p pr n N h0 ≤ c + dD AS LB p pr n N h := hQ
    omega
/-- the least cost is some state's where he lives -/
theorem cb_wit (c LB : Nat → Int32) (p : Int32) : ∀ k, p_cb c LB p k = 1000000 ∨ ∃ j, j < k ∧ ¬ p_hb (LB j) p = 0 ∧ p_cb c LB p k = c j
  | 0 => Or.inl rfl
  | k + 1 => by
    have ih := cb_wit c LB p k
    have go : p_cb c LB p k = 1000000 ∨ ∃ j, j < k + 1 ∧ ¬ p_hb (LB j) p = 0 ∧ p_cb c LB p k = c j := ih.imp id (fun ⟨j, h1, h2⟩ => ⟨j, by omega, h2⟩)
    rw [p_cb]
    by_cases w : c k < p_cb c LB p k
    · rw [if_pos w]
      by_cases w2 : p_hb (LB k) p = 0
      · rw [if_pos w2]; exact go
      · rw [if_neg w2]; exact Or.inr ⟨k, by omega, w2, rfl⟩
    · rw [if_neg w]; exact go
/-- the least cost is no more than any state's where he lives -/
theorem cb_min (c LB : Nat → Int32) (p : Int32) {j : Nat} (hj : ¬ p_hb (LB j) p = 0) : ∀ k, j < k → ¬ c j < p_cb c LB p k
  | 0, h => by omega
  | k + 1, h => by
    rw [p_cb]
    rcases Nat.lt_or_eq_of_le (Nat.le_of_lt_succ h) with q | q
    · have ih := cb_min c LB p hj k q
      by_cases w : c k < p_cb c LB p k
      · rw [if_pos w]
        by_cases w2 : p_hb (LB k) p = 0
        · rw [if_pos w2]; exact ih
        · rw [if_neg w2]
          intro z
          apply ih
          rw [Int32.lt_iff_toInt_lt] at w z ⊢
          omega
      · rw [if_neg w]; exact ih
    · rw [← q]
      by_cases w : c j < p_cb c LB p j
      · rw [if_pos w, if_neg hj]
        intro z
        rw [Int32.lt_iff_toInt_lt] at z
        omega
      · rw [if_neg w]; exact w

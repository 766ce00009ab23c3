/-! ===== the fewest struck: by size and number against the running least ===== -/
/-- the best set below k: of least size, the first of that size -/
def bst (good : Nat → Prop) (b : Nat → Nat) (k j : Nat) : Prop := j < k ∧ good j ∧ ∀ i, i < k → good i → b j ≤ b i ∧ (b i = b j → j ≤ i)
theorem fe_char {c : Nat → Int32} {li : Int32} {good : Nat → Prop} {b : Nat → Nat} {N : Nat} (hg : ∀ k, k < N → (good k ↔ nI k &&& li = 0 ∧ c k = -4)) (hb : ∀ k, k < N → b k ≤ 8 ∧ p_bo (nI k) 8 = nI (b k)) : ∀ k, k ≤ N → ((∀ i, i < k → ¬ good i) ∧ p_fe c li k = (1000000, 0)) ∨ ∃ j, bst good b k j ∧ p_fe c li k = (nI (b j), nI j)
  | 0, _ => Or.inl ⟨fun i hi => by omega, rfl⟩
  | k + 1, hk => by
    have e0 : (1000000 : Int32) = nI 1000000 := rfl
    have ih := fe_char hg hb k (by omega)
    obtain ⟨hb8, hbe⟩ := hb k (by omega)
    have hgk := hg k (by omega)
    rw [p_fe, p_feS, hbe]
    by_cases gk : good k
    · obtain ⟨g1, g2⟩ := hgk.mp gk
      rw [if_pos g1]
      rcases ih with ⟨n1, n2⟩ | ⟨j, ⟨j1, j2, j3⟩, j4⟩
      · rw [n2, if_pos (by show nI (b k) < 1000000; rw [e0, nI_ltI (by omega) (by omega)]; omega), if_pos g2]
        refine Or.inr ⟨k, ⟨by omega, gk, fun i hi gi => ?_⟩, rfl⟩
        rcases Nat.lt_or_eq_of_le (Nat.le_of_lt_succ hi) with q | q
        · exact absurd gi (n1 i q)
        · rw [q]; exact ⟨Nat.le_refl _, fun _ => Nat.le_refl _⟩
      · obtain ⟨hbj, _⟩ := hb j (by omega)
        rw [j4]
        by_cases w : b k < b j
        · rw [if_pos (by show nI (b k) < nI (b j); rw [nI_ltI (by omega) (by omega)]; exact w), if_pos g2]
          refine Or.inr ⟨k, ⟨by omega, gk, fun i hi gi => ?_⟩, rfl⟩
          rcases Nat.lt_or_eq_of_le (Nat.le_of_lt_succ hi) with q | q
          · have := j3 i q gi
            exact ⟨by omega, fun z => by omega⟩
          · rw [q]; exact ⟨Nat.le_refl _, fun _ => Nat.le_refl _⟩
        · rw [if_neg (by show ¬ nI (b k) < nI (b j); rw [nI_ltI (by omega) (by omega)]; exact w)]
          refine Or.inr ⟨j, ⟨by omega, j2, fun i hi gi => ?_⟩, rfl⟩
          rcases Nat.lt_or_eq_of_le (Nat.le_of_lt_succ hi) with q | q
          · exact j3 i q gi
          · rw [q]; exact ⟨by omega, fun _ => by omega⟩
    · have same : (if nI k &&& li = 0 then (if nI (b k) < (p_fe c li k).1 then (if c k = -4 then (nI (b k), nI k) else p_fe c li k) else p_fe c li k) else p_fe c li k) = p_fe c li k := by
        by_cases g1 : nI k &&& li = 0
        · rw [if_pos g1, if_neg (show ¬ c k = -4 from fun z => gk (hgk.mpr ⟨g1, z⟩))]
          split <;> rfl
        · rw [if_neg g1]
      rw [same]
      rcases ih with ⟨n1, n2⟩ | ⟨j, ⟨j1, j2, j3⟩, j4⟩
      · refine Or.inl ⟨fun i hi gi => ?_, n2⟩
        rcases Nat.lt_or_eq_of_le (Nat.le_of_lt_succ hi) with q | q
        · exact n1 i q gi
        · rw [q] at gi; exact gk gi
      · refine Or.inr ⟨j, ⟨by omega, j2, fun i hi gi => ?_⟩, j4⟩
        rcases Nat.lt_or_eq_of_le (Nat.le_of_lt_succ hi) with q | q
        · exact j3 i q gi
        · rw [q] at gi; exact absurd gi gk
theorem lsI_no {T : Nat → Int32} : ∀ f k, (∀ i, k ≤ i → i < k + f → ¬ T i = 1) → p_lsI T f k = -4
  | 0, _, _ => rfl
  | f + 1, k, h => by
    rw [p_lsI, if_neg (h k (Nat.le_refl _) (by omega))]
    exact lsI_no f (k + 1) (fun i h1 h2 => h i (by omega) (by omega))
theorem lsI_yes {T : Nat → Int32} {j : Nat} (hj : T j = 1) : ∀ f k, k ≤ j → j < k + f → (∀ i, k ≤ i → i < j → ¬ T i = 1) → p_lsI T f k = nI j
  | 0, k, h1, h2, _ => by omega
  | f + 1, k, h1, h2, h => by
    rw [p_lsI]
    rcases Nat.lt_or_eq_of_le h1 with q | q
    · rw [if_neg (h k (Nat.le_refl _) q)]
      exact lsI_yes hj f (k + 1) q (by omega) (fun i h3 h4 => h i (by omega) h4)
    · rw [q, if_pos hj]
theorem lsO_char {T : Nat → Nat → Int32} {good : Nat → Prop} {b : Nat → Nat} {N n j : Nat} (hT : ∀ z k, z ≤ n → k < N → (T z k = 1 ↔ good k ∧ b k = z)) (hN : N ≤ 256) (hj : bst good b N j) (hbj : b j ≤ n) : p_lsO T N (n + 1) 0 = nI j := by
  obtain ⟨j1, j2, j3⟩ := hj
  have key : ∀ f z, z + f = n + 1 → z ≤ b j → p_lsO T N f z = nI j := by
    intro f
    induction f with
    | zero => intro z h1 h2; omega
    | succ f ih =>
      intro z h1 h2
      rw [p_lsO]
      rcases Nat.lt_or_eq_of_le h2 with q | q
      · have no : p_lsI (T z) N 0 = -4 := lsI_no N 0 (fun i _ hi hc => by
          obtain ⟨g, e⟩ := (hT z i (by omega) (by omega)).mp hc
          have := (j3 i (by omega) g).1
          omega)
        rw [no, if_pos rfl]
        exact ih (z + 1) (by omega) q
      · have ye : p_lsI (T z) N 0 = nI j := lsI_yes ((hT z j (by omega) j1).mpr ⟨j2, q.symm⟩) N 0 (Nat.zero_le _) (by omega) (fun i _ hi hc => by
          obtain ⟨g, e⟩ := (hT z i (by omega) (by omega)).mp hc
          have := (j3 i (by omega) g).2 (by omega)
          omega)
        rw [ye, if_neg (nI_n4 (by omega))]
  exact key (n + 1) 0 (by omega) (Nat.zero_le _)

/-! ===== Reader: lines of depth, list ===== -/
def kI (e : eT) (t : Nat) : Prop := ∃ p, e_be e = nI p ∧ p ≤ t
theorem kI_nx {ta : Nat → Int32} {e : eT} {t : Nat} (ht : t ≤ 160) (h : kI e t) : kI (k_nx ta (nI t) e).2 t := by
  obtain ⟨p, hp, hpt⟩ := h
  have hut := p_ru_le ta (t := t) 32 32 (by decide) ht 161 p hpt
  rw [k_nx, hp, nI_clamp (by omega)]
  obtain ⟨u, hu⟩ : ∃ u, u = p_ru ta (nI t) 32 32 161 p := ⟨_, rfl⟩
  rw [← hu] at hut ⊢
  unfold k_n1
  by_cases c : nI u < nI t
  · rw [if_pos c]
    have hlt : u < t := by rw [nI_ltI (by omega) (by omega)] at c; exact c
    split
    · exact ⟨u + 1, rfl, hlt⟩
    split
    · have e2 := p_ru_le ta (t := t) 48 57 (by decide) ht 161 u (by omega)
      unfold k_n2
      split
      · exact ⟨_, rfl, e2.2⟩
      · exact ⟨_, rfl, e2.2⟩
    · have e2 := p_ru_le ta (t := t) 97 122 (by decide) ht 161 u (by omega)
      exact ⟨_, rfl, e2.2⟩
  · rw [if_neg c]
    exact ⟨u, rfl, hut.2⟩
theorem kI_tn {ta : Nat → Int32} {e : eT} {t : Nat} (ht : t ≤ 160) (h : kI e t) (mo st : Int32) : kI (k_tn ta (nI t) e mo st).2 t := by
  have k := kI_nx (ta := ta) ht h
  unfold k_tn
  obtain ⟨N, hN⟩ : ∃ N, N = k_nx ta (nI t) e := ⟨_, rfl⟩
  rw [← hN] at k ⊢
  split
  · exact k
  split
  · exact k
  split
  · split
    · exact k
    · exact k
  · exact k
/-- a run's bytes are of the run -/
theorem p_ru_in (ta : Nat → Int32) (ln lo hi : Int32) : ∀ f p q, p ≤ q → q < p_ru ta ln lo hi f p → ¬ p_rg lo hi (p_mlk ta ln (nI q)) = 0
  | 0, p, q, h1, h2 => by
    rw [p_ru] at h2; omega
  | f + 1, p, q, h1, h2 => by
    rw [p_ru] at h2
    by_cases c : p_rg lo hi (p_mlk ta ln (nI p)) = 0
    · rw [if_pos c] at h2; omega
    · rw [if_neg c] at h2
      rcases Nat.lt_or_eq_of_le h1 with r | r
      · exact p_ru_in ta ln lo hi f (p + 1) q r h2
      · rw [← r]; exact c
theorem p_rg_dg {c : Int32} (h : ¬ p_rg 48 57 c = 0) : ∃ d : Nat, d ≤ 9 ∧ c = nI (48 + d) := by
  unfold p_rg at h
  by_cases c1 : c < 48
  · rw [if_pos c1] at h; exact absurd rfl h
  rw [if_neg c1] at h
  by_cases c2 : 57 < c
  · rw [if_pos c2] at h; exact absurd rfl h
  have c0 : ¬ c < 0 := fun q => c1 (by
    rw [Int32.lt_iff_toInt_lt] at q ⊢
    have a0 : (0 : Int32).toInt = 0 := rfl
    have a1 : (48 : Int32).toInt = 48 := rfl
    omega)
  obtain ⟨j, hj, rfl⟩ := nI_of c0
  rw [show (48 : Int32) = nI 48 from rfl, nI_ltI hj (by omega)] at c1
  rw [show (57 : Int32) = nI 57 from rfl, nI_ltI (by omega) hj] at c2
  exact ⟨j - 48, by omega, by rw [show 48 + (j - 48) = j by omega]⟩
theorem k_dg_nI {ta : Nat → Int32} {u : Nat} : ∀ k, k ≤ 2 → (∀ q, u ≤ q → q < u + k → ¬ p_rg 48 57 (ta q) = 0) → ∃ j : Nat, j < 10 ^ k ∧ k_dg ta u k = nI j
  | 0, _, _ => ⟨0, by decide, rfl⟩
  | k + 1, hk, h => by
    obtain ⟨j, hj, e⟩ := k_dg_nI (ta := ta) (u := u) k (by omega) (fun q h1 h2 => h q h1 (by omega))
    obtain ⟨d, hd, ed⟩ := p_rg_dg (h (u + k) (by omega) (by omega))
    refine ⟨j * 10 + d, by rw [Nat.pow_succ]; omega, ?_⟩
    rw [k_dg, e, ed, show (10 : Int32) = nI 10 from rfl, nI_mul, nI_add, show (48 : Int32) = nI 48 from rfl]
    have hb : 10 ^ k ≤ 10 := by
      rcases (show k = 0 ∨ k = 1 by omega) with rfl | rfl <;> decide
    rw [p_sub_nI (by omega) (by omega), show j * 10 + (48 + d) - 48 = j * 10 + d by omega]
/-- a number that was read is one -/
theorem k_nx_va {ta : Nat → Int32} {e : eT} {t : Nat} (ht : t ≤ 160) (h : kI e t) (h1 : ¬ (k_nx ta (nI t) e).1 = 0) (h2 : e_ki (k_nx ta (nI t) e).2 = 2) : ∃ j : Nat, j < 100 ∧ e_va (k_nx ta (nI t) e).2 = nI j := by
  obtain ⟨p, hp, hpt⟩ := h
  have hut := p_ru_le ta (t := t) 32 32 (by decide) ht 161 p hpt
  rw [k_nx, hp, nI_clamp (by omega)] at h1 h2 ⊢
  obtain ⟨u, hu⟩ : ∃ u, u = p_ru ta (nI t) 32 32 161 p := ⟨_, rfl⟩
  rw [← hu] at hut h1 h2 ⊢
  unfold k_n1 at h1 h2 ⊢
  by_cases c : nI u < nI t
  rotate_left
  · rw [if_neg c] at h2; exact absurd h2 (by decide : ¬ (0 : Int32) = 2)
  rw [if_pos c] at h1 h2 ⊢
  have hlt : u < t := by rw [nI_ltI (by omega) (by omega)] at c; exact c
  by_cases c2 : ta u = 59
  · rw [if_pos c2] at h2; exact absurd h2 (by decide : ¬ (3 : Int32) = 2)
  rw [if_neg c2] at h1 h2 ⊢
  by_cases c3 : p_rg 97 122 (ta u) = 0
  rotate_left
  · rw [if_neg c3] at h2; exact absurd h2 (by decide : ¬ (1 : Int32) = 2)
  rw [if_pos c3] at h1 h2 ⊢
  have e2 := p_ru_le ta (t := t) 48 57 (by decide) ht 161 u (by omega)
  have hin := p_ru_in ta (nI t) 48 57 161 u
  obtain ⟨b, hb⟩ : ∃ b, b = p_ru ta (nI t) 48 57 161 u := ⟨_, rfl⟩
  rw [← hb] at h1 h2 e2 hin ⊢
  unfold k_n2 at h1 h2 ⊢
  by_cases c4 : b - u < 1 ∨ 2 < b - u
  · rw [if_pos c4] at h1; exact absurd rfl h1
  rw [if_neg c4]
  obtain ⟨j, hj, ej⟩ := k_dg_nI (ta := ta) (u := u) (b - u) (by omega) (fun q q1 q2 => by
    have := hin q q1 (by omega)
    rw [p_mlk, if_pos (by rw [nI_ltI (by omega) (by omega)]; omega), nI_clamp (by omega)] at this
    exact this)
  refine ⟨j, ?_, ej⟩
  have : 10 ^ (b - u) ≤ 100 := by
    rcases (show b - u = 1 ∨ b - u = 2 by omega) with q | q <;> rw [q] <;> decide
  omega
/-- a number that was taken keeps to its bound -/
theorem k_tn_ok {ta : Nat → Int32} {e e1 : eT} {t m : Nat} {v : Int32} (ht : t ≤ 160) (h : kI e t) (hm : m < 100) (hN : (v, e1) = k_tn ta (nI t) e (nI m) 0) (hv : ¬ v = 0) : e_ki e1 = 2 ∧ ∃ j : Nat, j ≤ m ∧ e_va e1 = nI j := by
  have hva := k_nx_va (ta := ta) ht h
  unfold k_tn at hN
  obtain ⟨N, hNe⟩ : ∃ N, N = k_nx ta (nI t) e := ⟨_, rfl⟩
  rw [← hNe] at hN hva
  by_cases c : N.1 = 0
  · rw [if_pos c] at hN; exact absurd (congrArg Prod.fst hN) hv
  rw [if_neg c, if_neg (fun q => q.2 rfl)] at hN
  by_cases c2 : e_ki N.2 = 2
  · rw [if_pos c2] at hN
    by_cases c3 : nI m < e_va N.2
    · rw [if_pos c3] at hN; exact absurd (congrArg Prod.fst hN) hv
    · rw [if_neg c3] at hN
      have he : e1 = N.2 := congrArg Prod.snd hN
      rw [he]
      obtain ⟨j, hj, ej⟩ := hva c c2
      refine ⟨c2, j, ?_, ej⟩
      rw [ej, nI_ltI (by omega) (by omega)] at c3
      omega
  · rw [if_neg c2] at hN; exact absurd (congrArg Prod.fst hN) hv

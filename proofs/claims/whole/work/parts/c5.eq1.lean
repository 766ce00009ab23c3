/-! ===== the two readers, token by token ===== -/
def TT (e : eT) (x : zT) : Prop := z_fa x = 0 ∧ z_po x = e_be e ∧ z_fr x = e_fi e ∧ z_so x = e_ki e ∧ (e_ki e = 2 → z_va x = e_va e)
def FF (e : eT) (x : zT) : Prop := 0 < z_fa x ∧ z_fa x = e_fa e ∧ z_wr x = e_pl e
abbrev e_g (e : eT) : Int32 × Int32 × Int32 := e.2.2.2.2.2.2
theorem k_nx_g (ta : Nat → Int32) (ln : Int32) (e : eT) : e_g (k_nx ta ln e).2 = e_g e := by
  unfold k_nx k_n1
  split
  · split
    · rfl
    split
    · unfold k_n2
      split
      · rfl
      · rfl
    · rfl
  · rfl
theorem p_mv_dg {ta : Nat → Int32} {t u : Nat} (ht : t ≤ 160) : ∀ k, k ≤ 2 → u + k ≤ t → p_mv ta (nI t) u k = k_dg ta u k
  | 0, _, _ => rfl
  | k + 1, h1, h2 => by
    rw [p_mv, if_pos (by omega), k_dg, p_mv_dg ht k (by omega) (by omega), p_mlk, if_pos (by rw [nI_ltI (by omega) (by omega)]; omega), nI_clamp (by omega), Int32.mul_comm]
theorem d10 : ¬ (1 : Int32) = 0 := by decide
theorem nxT {ta : Nat → Int32} {e : eT} {x : zT} {t : Nat} (hta : ∀ j, ¬ ta j < 0) (ht : t ≤ 160) (hI : kI e t) (hf : z_fa x = 0) (hp : z_po x = e_be e) : (¬ (k_nx ta (nI t) e).1 = 0 ∧ TT (k_nx ta (nI t) e).2 (x_nx ta (nI t) x)) ∨ ((k_nx ta (nI t) e).1 = 0 ∧ FF (k_nx ta (nI t) e).2 (x_nx ta (nI t) x)) := by
  obtain ⟨p, hpe, hpt⟩ := hI
  have hut := p_ru_le ta (t := t) 32 32 (by decide) ht 161 p hpt
  rw [k_nx, x_nx, if_neg (by rw [hf]; decide), hp, hpe, nI_clamp (by omega)]
  obtain ⟨u, hu⟩ : ∃ u, u = p_ru ta (nI t) 32 32 161 p := ⟨_, rfl⟩
  rw [← hu] at hut ⊢
  by_cases c : nI u < nI t
  rotate_left
  · have hge : t ≤ u := by rw [nI_ltI (by omega) (by omega)] at c; omega
    rw [k_n1, if_neg c, x_n1, p_mlk_o ht hge (by omega), if_pos (by decide)]
    exact Or.inl ⟨d10, hf, rfl, rfl, rfl, fun q => absurd q (by decide : ¬ (0 : Int32) = 2)⟩
  have hlt : u < t := by rw [nI_ltI (by omega) (by omega)] at c; exact c
  have hmk : p_mlk ta (nI t) (nI u) = ta u := by rw [p_mlk, if_pos c, nI_clamp (by omega)]
  rw [k_n1, if_pos c, x_n1, hmk, if_neg (hta u)]
  by_cases c2 : ta u = 59
  · have r1 : p_rg 97 122 (ta u) = 0 := by rw [c2]; decide
    have r2 : p_rg 48 57 (ta u) = 0 := by rw [c2]; decide
    rw [if_pos c2, if_pos r1, if_pos r2, if_pos c2, x_mu, if_neg d10]
    exact Or.inl ⟨d10, hf, rfl, rfl, rfl, fun q => absurd q (by decide : ¬ (3 : Int32) = 2)⟩
  by_cases c3 : p_rg 97 122 (ta u) = 0
  rotate_left
  · rw [if_neg c2, if_neg c3, if_neg c3]
    exact Or.inl ⟨d10, hf, rfl, rfl, rfl, fun q => absurd q (by decide : ¬ (1 : Int32) = 2)⟩
  rw [if_neg c2, if_pos c3, if_pos c3]
  by_cases c4 : p_rg 48 57 (ta u) = 0
  · have hb : p_ru ta (nI t) 48 57 161 u = u := by rw [p_ru, hmk, if_pos c4]
    rw [hb, k_n2, if_pos (Or.inl (by omega)), if_pos c4, if_neg c2, x_mu, if_pos rfl, if_pos (show z_fa (x_n3 x u u 3) = 0 from hf)]
    exact Or.inr ⟨rfl, (by decide : (0 : Int32) < 1), rfl, rfl⟩
  have hb1 := p_ru_S ta 48 57 (by decide) ht hlt (by rw [hmk]; exact c4)
  have hb2 := (p_ru_le ta (t := t) 48 57 (by decide) ht 161 u (by omega)).2
  rw [if_neg c4]
  obtain ⟨b, hb⟩ : ∃ b, b = p_ru ta (nI t) 48 57 161 u := ⟨_, rfl⟩
  rw [← hb] at hb1 hb2 ⊢
  by_cases c5 : 2 < b - u
  · rw [k_n2, if_pos (Or.inr c5), if_pos c5, x_mu, if_pos rfl, if_pos (show z_fa (u_va (x_n3 x b u 2) (p_mv ta (nI t) u (b - u))) = 0 from hf)]
    exact Or.inr ⟨rfl, (by decide : (0 : Int32) < 1), rfl, rfl⟩
  · rw [k_n2, if_neg (by omega), if_neg c5, x_mu, if_neg d10, p_mv_dg ht (b - u) (by omega) (by omega)]
    exact Or.inl ⟨d10, hf, rfl, rfl, rfl, fun _ => rfl⟩
theorem k_tn_g (ta : Nat → Int32) (ln : Int32) (e : eT) (m s : Int32) : e_g (k_tn ta ln e m s).2 = e_g e := by
  have h := k_nx_g ta ln e
  unfold k_tn
  obtain ⟨N, hN⟩ : ∃ N, N = k_nx ta ln e := ⟨_, rfl⟩
  rw [← hN] at h ⊢
  split
  · exact h
  split
  · exact h
  split
  · split
    · exact h
    · exact h
  · exact h
theorem k_ts_g (ta : Nat → Int32) (ln : Int32) (e : eT) : e_g (k_ts ta ln e).2 = e_g e := by
  have h := k_nx_g ta ln e
  unfold k_ts
  obtain ⟨N, hN⟩ : ∃ N, N = k_nx ta ln e := ⟨_, rfl⟩
  rw [← hN] at h ⊢
  split
  · exact h
  split
  · exact h
  · exact h
theorem mu_1 (x : zT) (f : Int32) : x_mu x 1 f = x := by rw [x_mu, if_neg d10]
theorem mu_F {e : eT} {x : zT} (h : FF e x) (b f : Int32) : x_mu x b f = x := by
  rw [x_mu]
  split
  · rw [if_neg (fun q => by have := h.1; rw [q] at this; exact absurd this (by decide))]
  · rfl
theorem nx_F (ta : Nat → Int32) (ln : Int32) {e : eT} {x : zT} (h : FF e x) : x_nx ta ln x = x := x_nx_f ta ln h.1
/-- a question that is answered no: the fault is told there -/
theorem mu_0 {e : eT} {x : zT} (h : TT e x) {f : Int32} (hf : 0 < f) : FF (k_bl e f (e_fi e)) (x_mu x 0 f) := by
  rw [x_mu, if_pos rfl, if_pos h.1]
  exact ⟨hf, rfl, h.2.2.1⟩
theorem lk_F {e : eT} {x : zT} (h : FF e x) (a b : Int32) : x_lk x a b = x := by
  rw [x_lk, x_lk1, mu_F h, mu_F h]
theorem p_rg_lt {v : Int32} {m j : Nat} (hv : v = nI j) (hj : j < 1000) (hm : m < 1000) : p_rg 0 (nI m) v = if nI m < v then 0 else 1 := by
  rw [p_rg, if_neg (by rw [hv]; exact nI_pos (by omega))]
/-- a number is taken -/
theorem tnT {ta : Nat → Int32} {e : eT} {x : zT} {t m : Nat} (hta : ∀ j, ¬ ta j < 0) (ht : t ≤ 160) (hm : m < 100) (hI : kI e t) (hf : z_fa x = 0) (hp : z_po x = e_be e) :
    (¬ (k_tn ta (nI t) e (nI m) 0).1 = 0 ∧ TT (k_tn ta (nI t) e (nI m) 0).2 (x_nx ta (nI t) x) ∧ x_lk (x_nx ta (nI t) x) 0 (nI m) = x_nx ta (nI t) x ∧ ∃ j, j ≤ m ∧ e_va (k_tn ta (nI t) e (nI m) 0).2 = nI j ∧ r_lk (x_nx ta (nI t) x) 0 (nI m) = nI j) ∨ ((k_tn ta (nI t) e (nI m) 0).1 = 0 ∧ FF (k_tn ta (nI t) e (nI m) 0).2 (x_lk (x_nx ta (nI t) x) 0 (nI m))) := by
  have h := nxT hta ht hI hf hp
  have hva := k_nx_va (ta := ta) ht hI
  unfold k_tn
  obtain ⟨N, hN⟩ : ∃ N, N = k_nx ta (nI t) e := ⟨_, rfl⟩
  obtain ⟨y, hy⟩ : ∃ y, y = x_nx ta (nI t) x := ⟨_, rfl⟩
  rw [← hN, ← hy] at h
  rw [← hN] at hva
  rw [← hN, ← hy]
  rcases h with ⟨h1, h2⟩ | ⟨h1, h2⟩
  rotate_left
  · rw [if_pos h1, lk_F h2]
    exact Or.inr ⟨rfl, h2⟩
  rw [if_neg h1, if_neg (fun q => q.2 rfl)]
  by_cases c : e_ki N.2 = 2
  · obtain ⟨j, hj, ej⟩ := hva h1 c
    have hva2 : z_va y = nI j := (h2.2.2.2.2 c).trans ej
    have hso : z_so y = 2 := h2.2.2.2.1.trans c
    rw [if_pos c]
    by_cases c2 : nI m < e_va N.2
    · rw [if_pos c2]
      refine Or.inr ⟨rfl, ?_⟩
      rw [x_lk, x_lk1, if_pos hso, mu_1, p_rg_lt hva2 (by omega) (by omega), if_pos (by rw [hva2, ← ej]; exact c2)]
      exact mu_0 h2 (by decide)
    · rw [if_neg c2]
      have hlk : x_lk y 0 (nI m) = y := by
        rw [x_lk, x_lk1, if_pos hso, mu_1, p_rg_lt hva2 (by omega) (by omega), if_neg (by rw [hva2, ← ej]; exact c2), mu_1]
      refine Or.inl ⟨d10, h2, hlk, j, ?_, ej, ?_⟩
      · rw [ej, nI_ltI (by omega) (by omega)] at c2; omega
      · rw [r_lk, hlk, if_pos h2.1, hva2]
  · rw [if_neg c]
    refine Or.inr ⟨rfl, ?_⟩
    have hso : ¬ z_so y = 2 := fun q => c (h2.2.2.2.1.symm.trans q)
    have hF := mu_0 h2 (f := 2) (by decide)
    rw [x_lk, x_lk1, if_neg hso, mu_F hF]
    exact hF
/-- a stop is taken -/
theorem tsT {ta : Nat → Int32} {e : eT} {x : zT} {t : Nat} (hta : ∀ j, ¬ ta j < 0) (ht : t ≤ 160) (hI : kI e t) (hf : z_fa x = 0) (hp : z_po x = e_be e) :
    (¬ (k_ts ta (nI t) e).1 = 0 ∧ TT (k_ts ta (nI t) e).2 (x_l7 (x_nx ta (nI t) x))) ∨ ((k_ts ta (nI t) e).1 = 0 ∧ FF (k_ts ta (nI t) e).2 (x_l7 (x_nx ta (nI t) x))) := by
  have h := nxT hta ht hI hf hp
  unfold k_ts x_l7
  obtain ⟨N, hN⟩ : ∃ N, N = k_nx ta (nI t) e := ⟨_, rfl⟩
  obtain ⟨y, hy⟩ : ∃ y, y = x_nx ta (nI t) x := ⟨_, rfl⟩
  rw [← hN, ← hy] at h
  rw [← hN, ← hy]
  rcases h with ⟨h1, h2⟩ | ⟨h1, h2⟩
  rotate_left
  · rw [if_pos h1, mu_F h2]
    exact Or.inr ⟨rfl, h2⟩
  rw [if_neg h1]
  by_cases c : e_ki N.2 = 3
  · rw [if_pos c, if_pos (h2.2.2.2.1.trans c), mu_1]
    exact Or.inl ⟨d10, h2⟩
  · rw [if_neg c, if_neg (fun q => c (h2.2.2.2.1.symm.trans q))]
    exact Or.inr ⟨rfl, mu_0 h2 (by decide)⟩

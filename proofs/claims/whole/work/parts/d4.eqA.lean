/-! ===== the two readers: the end of a text ===== -/
theorem zk_in (f : Nat → Int32) {j : Nat} (h : j < 53) : q_zk f 0 53 j = 0 := by rw [q_zk, if_pos (by omega)]
theorem BB_0 (f1 f2 f3 f4 f5 f8 dr dy dq : Nat → Int32) : BBf 0 0 0 0 0 0 0 0 0 0 0 0 0 0 0 f1 f2 (p_fi (fun _ => 0) f3 8) (p_fi (fun _ => 0) f4 8) (p_fi (fun _ => 0) f5 8) f8 0 0 0 (-4) (-4) (q_zk dr 0 53) dy dq := by
  have z : ∀ (g : Nat → Int32) i, i < 8 → p_fi (fun _ => 0) g 8 i = 0 := fun g i hi => by rw [p_fi, if_pos hi]
  refine ⟨⟨⟨⟨rfl, rfl, by decide⟩, ⟨rfl, rfl, by decide⟩, ⟨zk_in dr (by decide), rfl, by decide⟩⟩, ⟨⟨rfl, Or.inl rfl⟩, ⟨rfl, by decide, rfl⟩, ⟨rfl, by decide, rfl⟩⟩⟩, ⟨⟨zk_in dr (by decide), 0, by decide, rfl⟩, ⟨zk_in dr (by decide), 0, by decide, rfl⟩, ⟨zk_in dr (by decide), 0, by decide, rfl⟩, ⟨zk_in dr (by decide), 0, rfl, rfl⟩, zk_in dr (by decide), zk_in dr (by decide)⟩, fun i hi => ?_, fun i hi => ?_, fun i hi => ?_, fun i hi => absurd hi (by omega), fun i hi => absurd hi (by omega)⟩
  · rw [zk_in dr (by omega), z f3 i hi]
    exact ⟨rfl, 0, rfl, rfl, fun _ => rfl⟩
  · rw [zk_in dr (by omega), z f4 i hi]
    exact ⟨rfl, 0, rfl, rfl⟩
  · rw [zk_in dr (by omega), z f5 i hi]
    exact ⟨rfl, 0, rfl, rfl⟩
theorem te_ok {x : zT} (h1 : z_h1 x < z_dP x) (h2 : z_hW x < z_dW x) : x_te x = x := by rw [x_te, if_pos h1, if_pos h2, mu_1]
theorem te_no {x : zT} (h : ¬ (z_h1 x < z_dP x ∧ z_hW x < z_dW x)) : x_te x = x_mu x 0 6 := by
  rw [x_te]
  by_cases c : z_h1 x < z_dP x
  · rw [if_pos c, if_neg (fun q => h ⟨c, q⟩)]
  · rw [if_neg c]
theorem text_end {ta : Nat → Int32} {t : Nat} {X : tT} {Z : zT × Nat} (h : TxO ta t X Z) : (¬ e_fa (k_en (nI t) X) = 0 ∧ 0 < z_fa (x_te Z.1) ∧ z_fa (x_te Z.1) = e_fa (k_en (nI t) X) ∧ z_wr (x_te Z.1) = e_pl (k_en (nI t) X)) ∨ (e_fa (k_en (nI t) X) = 0 ∧ z_fa (x_te Z.1) = 0 ∧ X.1 = nI Z.2 ∧ x_te Z.1 = Z.1 ∧ ∃ P W N M1 M2, BB P W N M1 M2 (e_g X.2.2.1) X.2.2.2 (zk8 Z.1) ∧ M1 < 2 ^ P ∧ M2 < 2 ^ W) := by
  obtain ⟨li, g, e, d⟩ := X
  obtain ⟨x, n⟩ := Z
  rcases h with ⟨h1, h2⟩ | ⟨h1, ⟨hT, P, W, N, M1, M2, hB⟩, h3, h4, h5⟩
  · have h1 : g = 0 := h1
    have h2 : FF e x := h2
    have e1 : k_en (nI t) (li, g, e, d) = e := by rw [k_en, if_pos h1]
    have e2 : x_te x = x := mu_F h2 _ _
    rw [e1]
    show (_ ∧ 0 < z_fa (x_te x) ∧ z_fa (x_te x) = _ ∧ z_wr (x_te x) = _) ∨ _
    rw [e2]
    refine Or.inl ⟨fun q => ?_, h2⟩
    have := h2.1
    rw [h2.2.1, q] at this
    exact absurd this (by decide)
  · have h1 : ¬ g = 0 := h1
    have hT : TT e x := hT
    have h3 : li = nI n := h3
    have h4 : e_fa e = 0 := h4
    have h5 : e_fi e = nI t := h5
    have hB : BBf P W N M1 M2 (e_dt e) (e_on e) (e_wi e) (d_pe d) (d_wi d) (d_de d) (d_li d) (d_ba d) (d_ls d) (d_pn d) (d_f1 d) (d_f2 d) (d_f3 d) (d_f4 d) (d_f5 d) (d_f8 d) (z_dP x) (z_dW x) (z_hD x) (z_h1 x) (z_hW x) (z_dr x) (z_dy x) (z_dq x) := hB
    obtain ⟨⟨⟨n1, n2, n3⟩, ⟨k1, k2, k3⟩⟩, _⟩ := id hB
    have c1 : e_on e >>> (d_pe d &&& 31) = 0 ↔ z_h1 x < z_dP x := by
      rw [k2.1, n1.2.1, k2.2.2, n1.1]
      exact hN_sh M1 k2.2.1 P (by omega)
    have c2 : e_wi e >>> (d_wi d &&& 31) = 0 ↔ z_hW x < z_dW x := by
      rw [k3.1, n2.2.1, k3.2.2, n2.1]
      exact hN_sh M2 k3.2.1 W (by omega)
    by_cases c : e_on e >>> (d_pe d &&& 31) = 0 ∧ e_wi e >>> (d_wi d &&& 31) = 0
    · have e1 : k_en (nI t) (li, g, e, d) = e := by rw [k_en, if_neg h1, if_pos c]
      have e2 : x_te x = x := te_ok (c1.mp c.1) (c2.mp c.2)
      rw [e1]
      show _ ∨ (_ ∧ z_fa (x_te x) = 0 ∧ _ ∧ x_te x = x ∧ _)
      rw [e2]
      refine Or.inr ⟨h4, hT.1, h3, rfl, P, W, N, M1, M2, hB, ?_, ?_⟩
      · have := c1.mp c.1
        rw [k2.2.2, n1.1] at this
        exact (hN_lt M1 k2.2.1 P (by omega)).mp this
      · have := c2.mp c.2
        rw [k3.2.2, n2.1] at this
        exact (hN_lt M2 k3.2.1 W (by omega)).mp this
    · have e1 : k_en (nI t) (li, g, e, d) = k_bl e 6 (nI t) := by rw [k_en, if_neg h1, if_neg c]
      have e2 : x_te x = x_mu x 0 6 := te_no (fun q => c ⟨c1.mpr q.1, c2.mpr q.2⟩)
      have hF := mu_0 hT (f := 6) (by decide)
      rw [e1, ← h5]
      show (_ ∧ 0 < z_fa (x_te x) ∧ z_fa (x_te x) = _ ∧ z_wr (x_te x) = _) ∨ _
      rw [e2]
      exact Or.inl ⟨(by decide : ¬ (6 : Int32) = 0), hF⟩
theorem text_eq {ta : Nat → Int32} {t : Nat} (hta : ∀ j, ¬ ta j < 0) (ht : t ≤ 160) (e : eT) (d : dT) (x : zT) : TxO ta t (k_tx ta (nI t) e d) (x_tl ta (nI t) 162 (x_nx ta (nI t) (x_t0 x)) 0) := by
  have hI0 : kI (k_e0 e) t := ⟨0, rfl, Nat.zero_le _⟩
  have h1 := nxT (e := k_e0 e) (x := x_t0 x) hta ht hI0 rfl rfl
  have hJ := kJ_nx (ta := ta) ht hI0
  have hfa := fa_nx (ta := ta) (ln := nI t) (e := k_e0 e)
  have hfi := fi_end (ta := ta) ht hI0
  have hg := k_nx_g ta (nI t) (k_e0 e)
  have hz : zk8 (x_nx ta (nI t) (x_t0 x)) = zk8 (x_t0 x) := x_nx_k _ _ _
  have hK := (x_nx_K (ta := ta) (x := x_t0 x) (lo := 0) ht ⟨0, rfl, Nat.le_refl 0, Nat.zero_le _⟩ (by decide : ¬ (0 : Int32) < 0)).2
  rw [k_tx, nI_clamp (by omega)]
  obtain ⟨N, hN⟩ : ∃ N, N = k_nx ta (nI t) (k_e0 e) := ⟨_, rfl⟩
  obtain ⟨y, hy⟩ : ∃ y, y = x_nx ta (nI t) (x_t0 x) := ⟨_, rfl⟩
  rw [← hN] at hJ hfa hfi hg h1 ⊢
  rw [← hy] at hz hK h1 ⊢
  rw [k_x0]
  rcases h1 with ⟨a1, a2⟩ | ⟨a1, a2⟩
  · refine tx_loop hta ht t 0 162 0 0 N.1 N.2 _ y (by omega) (by omega) (by omega) rfl rfl a1 ⟨a2, 0, 0, 0, 0, 0, ?_⟩ hJ (hfa a1) hfi (fun q => hK (fun q2 => q (a2.2.2.2.1.symm.trans q2)))
    rw [hg, hz]
    exact BB_0 _ _ _ _ _ _ _ _ _
  · rw [rt_0 ta (nI t) (show ((0 : Int32), N.1, N.2, k_d0 (d_f1 d) (d_f2 d) (d_f3 d) (d_f4 d) (d_f5 d) (d_f8 d)).2.1 = 0 from a1), tl_F ta (nI t) a2]
    exact Or.inl ⟨a1, a2⟩

/-! ===== cheap: the class's answer is the model's ===== -/
theorem cheap_eq {AS : Nat → Nat → Int32} {LB prI : Nat → Int32} {p : Int32} {pr : Nat → Nat} {h0 n N : Nat} (hA : gUp AS n N) (hN : N ≤ 256) (hh : h0 < N) (hpr : ∀ w, w < n → pr w ≤ 9 ∧ prI w = nI (pr w)) : p_cO AS prI LB h0 n p = if nI (dD AS LB p pr n N h0) < 1000000 then nI (dD AS LB p pr n N h0) else -4 := by
  have e0 : (1000000 : Int32) = nI 1000000 := rfl
  have hpr2 : ∀ w, w < n → ∃ q : Nat, q ≤ 9 ∧ prI w = nI q := fun w hw => ⟨pr w, (hpr w hw).1, (hpr w hw).2⟩
  have hfc := fc_all (AS := AS) (pr := prI) hA hN hh hpr2
  have hle : dD AS LB p pr n N h0 ≤ 1000000 := dC_le _ _ _ _ _ _ _
  have goal : ∀ j, ¬ p_hb (LB j) p = 0 → p_fc AS prI h0 n 256 j = 1000000 ∨ ∃ c : Nat, c ≤ 2304 ∧ dD AS LB p pr n N h0 ≤ c ∧ p_fc AS prI h0 n 256 j = nI c := by
    intro j hj
    rcases Nat.lt_or_ge j N with q | q
    · rcases p_mk_01 AS h0 n N j with z | z
      · exact Or.inl ((hfc.2 j q).1 z)
      · obtain ⟨c, c1, c2, c3⟩ := cheap_lo (LB := LB) (p := p) hA hN hh hpr j q z
        rw [dD_eq hA hN q, if_neg hj] at c2
        exact Or.inr ⟨c, by omega, by omega, c3⟩
    · exact Or.inl (hfc.1 j q)
  have wit : p_cb (p_fc AS prI h0 n 256) LB p 256 = 1000000 ∨ ∃ c : Nat, c ≤ 2304 ∧ dD AS LB p pr n N h0 ≤ c ∧ p_cb (p_fc AS prI h0 n 256) LB p 256 = nI c := by
    rcases cb_wit (p_fc AS prI h0 n 256) LB p 256 with q | ⟨j, _, hj, q⟩
    · exact Or.inl q
    · rw [q]; exact goal j hj
  have m0 : p_mk AS h0 n N h0 = 1 := by
    have e := p_mk_st (h0 := h0) (j := h0) hA hN (Nat.le_refl h0) (N - h0) (by omega)
    rw [show h0 + (N - h0) = N by omega] at e
    rw [e, p_mk_low AS h0 n h0 (Nat.le_refl _), upd, if_pos rfl]
  obtain ⟨c0, _, ⟨_, hc0⟩, ec0⟩ := fc_gen (AS := AS) (pr := prI) hA hN hh hpr2 (fun j c => h0 ≤ j ∧ (j = h0 → c = 0)) ⟨Nat.le_refl _, fun _ => rfl⟩ (fun h w b c q h1 h2 h3 h4 _ _ h7 => by
    rcases hA h w h1 h2 with z | ⟨b', b1, b2, z⟩
    · rw [z] at h3; exact absurd h3.symm (nI_n4 (by omega))
    · rw [z] at h3
      have := (nI_eq (by omega) (by omega)).mp h3
      have h8 := h7.1
      exact ⟨by omega, fun e => by omega⟩) h0 hh m0
  rw [hc0 rfl] at ec0
  unfold p_cO
  by_cases d : dD AS LB p pr n N h0 < 1000000
  · rw [if_pos (show nI (dD AS LB p pr n N h0) < 1000000 by rw [e0, nI_ltI (by omega) (by omega)]; exact d)]
    have hi := cheap_hi (LB := LB) (p := p) hA hN hh hpr N h0 hh (by omega) m0 d
    rw [ec0, nI_toInt (by omega)] at hi
    rcases wit with q | ⟨c, c1, c2, q⟩
    · rw [q, e0, nI_toInt (by omega)] at hi; omega
    · rw [q, nI_toInt (by omega)] at hi
      have : c = dD AS LB p pr n N h0 := by omega
      rw [q, if_neg (by rw [e0, nI_eq (by omega) (by omega)]; omega), this]
  · rw [if_neg (show ¬ nI (dD AS LB p pr n N h0) < 1000000 by rw [e0, nI_ltI (by omega) (by omega)]; exact d)]
    rcases wit with q | ⟨c, c1, c2, q⟩
    · rw [if_pos q]
    · omega

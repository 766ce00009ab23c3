/-! ===== the two readers: what a wish needs ===== -/
def NdOut (ta : Nat → Int32) (w M0 O : Nat) (g1 g2 : Int32) (f dr : Nat → Int32) (q : qT) (R : Int32 × eT × (Nat → Int32)) (z : zT) : Prop :=
  (¬ R.1 = 0 ∧ TT R.2.1 (x_l7 z) ∧ ∃ O', O' < 256 ∧ R.2.2 = upd f w (nI O') ∧ zk8 z = qs_dr (qs_hW q (hN (M0 ||| O'))) (upd dr (10 + w) (nI O')) ∧ e_g R.2.1 = (g1, g2, nI (M0 ||| O'))) ∨ (R.1 = 0 ∧ FF R.2.1 (x_l7 z))
theorem FF_drI {e : eT} {x : zT} {v : Nat → Int32} (h : FF e (u_dr x v)) : FF e x := h
theorem TT_drI {e : eT} {x : zT} {v : Nat → Int32} (h : TT e (u_dr x v)) : TT e x := h
theorem upd_upd (f : Nat → Int32) (i : Nat) (a b : Int32) : upd (upd f i a) i b = upd f i b := by
  funext j
  unfold upd
  split <;> rfl
theorem hN_or2 {M j : Nat} (hM : M < 256) (hj : j < 8) : (if hN M < nI j then nI j else hN M) = hN (M ||| 2 ^ j) := (hN_or M hM j hj).symm
theorem nd_loop {ta : Nat → Int32} {t w : Nat} (hta : ∀ j, ¬ ta j < 0) (ht : t ≤ 160) (hw : w < 8) (q : qT) (dr : Nat → Int32) (g1 g2 : Int32) {M0 : Nat} (hM0 : M0 < 256) (f0 : Nat → Int32) : ∀ (k f2 O : Nat) (e : eT) (f : Nat → Int32) (x : zT), k ≤ f2 → k ≤ 9 → O < 256 → 9 ≤ bN O + k → kI e t → z_fa x = 0 → z_po x = e_be e → f = upd f0 w (nI O) → zk8 x = qs_dr (qs_hW q (hN (M0 ||| O))) (upd dr (10 + w) (nI O)) → e_g e = (g1, g2, nI M0) → NdOut ta w M0 O g1 g2 f0 dr q (k_ns ta (nI t) (nI w) k e f) (x_ndl ta (nI t) w f2 (x_nx ta (nI t) x)) := by
  intro k
  induction k with
  | zero =>
    intro f2 O e f x hk hk9 hO hb
    have := (bN_up O hO).1
    omega
  | succ k ih =>
    intro f2 O e f x hk hk9 hO hb hI hf0 hp hf hz hg
    have h1 := tn1 hta ht hI hf0 hp
    have hkg := k_tn_g ta (nI t) e 7 1
    have kI1 := kI_tn (ta := ta) ht hI 7 1
    have hwc : (nI w).toNatClampNeg = w := nI_clamp (by omega)
    have hfw : f w = nI O := by rw [hf, upd_eq]
    rw [k_ns, hwc, hfw]
    obtain ⟨K, hK⟩ : ∃ K, K = k_tn ta (nI t) e 7 1 := ⟨_, rfl⟩
    obtain ⟨y, hy⟩ : ∃ y, y = x_nx ta (nI t) x := ⟨_, rfl⟩
    have hzy : zk8 y = zk8 x := by rw [hy]; exact x_nx_k _ _ _
    rw [← hK, ← hy] at h1
    rw [← hK] at hkg kI1
    rw [← hK, ← hy]
    rcases h1 with ⟨a1, a2, a3⟩ | ⟨a1, a2, a3, a4, a5, j, a6, a7, a8⟩ | ⟨a1, a2⟩ | ⟨a1, a0, a2, a3⟩ | ⟨a1, a0, a2, a3⟩
    · rw [if_neg a1, if_pos a2, ndl_x (Or.inr (by rw [a3.2.2.2.1, a2]; decide))]
      refine Or.inl ⟨d10, ?_, O, hO, hf, by rw [hzy, hz], ?_⟩
      · rw [x_l7, if_pos (a3.2.2.2.1.trans a2), mu_1]
        exact a3
      · have hwi : e_wi K.2 = nI M0 := (congrArg (fun g : Int32 × Int32 × Int32 => g.2.2) (hkg.trans hg))
        have e1 : e_g (v_wi K.2 (e_wi K.2 ||| nI O)) = ((e_g K.2).1, (e_g K.2).2.1, e_wi K.2 ||| nI O) := rfl
        show e_g (v_wi K.2 (e_wi K.2 ||| nI O)) = _
        rw [e1, hkg, hg, hwi, lt8_orI]
    · rw [if_neg a1, if_neg a2, a7]
      have hM256 : M0 ||| O < 256 := or_lt8 hM0 hO
      have hdry : z_dr y (10 + w) = nI O := by
        have h2 : z_dr y = upd dr (10 + w) (nI O) := by
          have := congrArg q_dr (hzy.trans hz)
          exact this
        rw [h2, upd_eq]
      have hhWy : z_hW y = hN (M0 ||| O) := by
        have := congrArg (fun q : qT => q.2.2.2.2.1) (hzy.trans hz)
        exact this
      obtain ⟨g, hge⟩ : ∃ g, g = z_dr y (10 + w) ||| ((1 : Int32) <<< (nI w &&& 31)) := ⟨_, rfl⟩
      have hgv : p_hb g (nI j) = 0 ↔ ¬ (nI j = nI w ∨ ¬ p_hb (nI O) (nI j) = 0) := by
        rw [hge, hdry, p_2n w (by omega), hb_or hO (p2_lt8 hw) a6, hb_2 w hw j a6, nI_eq (by omega) (by omega)]
        constructor
        · rintro ⟨p1, p2⟩ (q | q)
          · exact p2 q
          · exact q p1
        · intro q
          exact ⟨Classical.not_not.mp (fun z => q (Or.inr z)), fun z => q (Or.inl z)⟩
      obtain ⟨f3, hf3⟩ : ∃ f3, f2 = f3 + 1 := ⟨f2 - 1, by omega⟩
      rw [hf3, x_ndl, if_pos a3.1, if_pos a4]
      have hS : x_ndS ta (nI t) w y = u_dr (x_rw ta (nI t) y g) (upd (z_dr y) (10 + w) (z_dr y (10 + w) ||| (if z_fa (x_rw ta (nI t) y g) = 0 then (1 : Int32) <<< (nI j &&& 31) else 0))) := by rw [x_ndS, a8, ← hge]
      by_cases c : nI j = nI w ∨ ¬ p_hb (nI O) (nI j) = 0
      · rw [if_pos c]
        have hF : FF (k_bl K.2 4 (e_fi K.2)) (x_ndS ta (nI t) w y) := by
          rw [hS]
          exact FF_dr (rw_F (wb_no a3 a5 a8 (fun z => hgv.mp z c))) _
        rw [ndl_x (Or.inl (FF_n0 hF))]
        exact Or.inr ⟨rfl, l7_F hF⟩
      rw [if_neg c]
      have hwb := wb_ok a3 a5 a8 (g := g) (hgv.mpr c)
      rw [hhWy, hN_or2 hM256 a6] at hwb
      have hOj : O ||| 2 ^ j < 256 := or_lt8 hO (p2_lt8 a6)
      have hbj : p_hb (nI O) (nI j) = 0 := Classical.not_not.mp (fun z => c (Or.inr z))
      have hdr2 : z_dr y = upd dr (10 + w) (nI O) := by
        have := congrArg q_dr (hzy.trans hz)
        exact this
      have hkup : k_up f (nI w) (nI j) = upd f0 w (nI (O ||| 2 ^ j)) := by rw [k_up, hwc, hfw, or_shl rfl a6, hf, upd_upd]
      have IH := ih f3 (O ||| 2 ^ j) K.2 (k_up f (nI w) (nI j)) (u_dr (u_hW y (hN (M0 ||| O ||| 2 ^ j))) (upd dr (10 + w) (nI (O ||| 2 ^ j)))) (by omega) (by omega) hOj (by have := (bN_up O hO).2 j a6 hbj; omega) kI1 a3.1 a3.2.1 hkup (by rw [zk_dr1, zk_hW, hzy, hz, Nat.or_assoc]; rfl) (hkg.trans hg)
      rw [nx_dr] at IH
      have hA : x_rw ta (nI t) y g = x_nx ta (nI t) (u_hW y (hN (M0 ||| O ||| 2 ^ j))) := by rw [x_rw, hwb]
      obtain ⟨A, hAe⟩ : ∃ A, A = x_nx ta (nI t) (u_hW y (hN (M0 ||| O ||| 2 ^ j))) := ⟨_, rfl⟩
      rw [hA, ← hAe, hdry] at hS
      rw [← hAe] at IH
      by_cases cA : z_fa A = 0
      · have hS2 : x_ndS ta (nI t) w y = u_dr A (upd dr (10 + w) (nI (O ||| 2 ^ j))) := by rw [hS, if_pos cA, or_shl rfl a6, hdr2, upd_upd]
        rw [hS2]
        exact IH
      · have n1 : ∀ v, x_ndl ta (nI t) w f3 (u_dr A v) = u_dr A v := fun v => ndl_x (y := u_dr A v) (Or.inl cA) f3
        rw [hS, n1]
        rw [n1, NdOut, l7_dr] at IH
        rcases IH with ⟨b1, b2, _⟩ | ⟨b1, b2⟩
        · exact absurd (l7_fa (TT_drI b2).1) cA
        · refine Or.inr ⟨b1, ?_⟩
          rw [l7_dr]
          exact FF_dr (FF_drI b2) _
    · rw [if_pos a1, ndl_x (Or.inl (FF_n0 a2))]
      exact Or.inr ⟨rfl, l7_F a2⟩
    · rw [if_pos a1]
      obtain ⟨f3, hf3⟩ : ∃ f3, f2 = f3 + 1 := ⟨f2 - 1, by omega⟩
      rw [hf3, x_ndl, if_pos a0, if_pos a2]
      have hF : FF K.2 (x_ndS ta (nI t) w y) := by
        rw [x_ndS]
        exact FF_dr (rw_F (wb_F a3)) _
      rw [ndl_x (Or.inl (FF_n0 hF))]
      exact Or.inr ⟨rfl, l7_F hF⟩
    · rw [if_pos a1, ndl_x (Or.inr a2)]
      exact Or.inr ⟨rfl, a3⟩
theorem upd_I2 {f : Nat → Int32} {i : Nat} {v : Int32} (h : f i = v) : upd f i v = f := by
  funext j
  by_cases c : j = i
  · rw [c, upd_eq, h]
  · rw [upd_ne c]
theorem BB_nd {P W N M1 M2 w o b : Nat} {g1 g2 g3 pe wi de li ba ls pn : Int32} {f1 f2 f3 f4 f5 f8 : Nat → Int32} {dP dW hD h1 hW : Int32} {dr dy dq : Nat → Int32} (hw : w < 8) (hb : M2 ||| b < 256) (ho : o ||| (M2 ||| b) = M2 ||| b) (h : BBf P W N M1 M2 g1 g2 g3 pe wi de li ba ls pn f1 f2 f3 f4 f5 f8 dP dW hD h1 hW dr dy dq) : BBf P W N M1 (M2 ||| b) g1 g2 (nI (M2 ||| b)) pe wi de li ba ls pn f1 f2 f3 (upd f4 w (nI o)) f5 f8 dP dW hD h1 (hN (M2 ||| b)) (upd dr (10 + w) (nI o)) dy dq := by
  obtain ⟨⟨⟨n1, n2, n3⟩, ⟨k1, k2, k3⟩⟩, hs, h3, h4, h5, h8, hf⟩ := h
  refine ⟨⟨⟨n1, n2, ⟨?_, n3.2⟩⟩, ⟨k1, k2, rfl, hb, rfl⟩⟩, Bs_u (Bs_m _ hs) (by omega), B3_u h3 (by omega), B4_s ho (B4_m _ h4), B4_u (B4_m _ h5) (by omega), B8_u (B8_m _ h8) (by omega), hf⟩
  rw [upd_ne (by omega)]; exact n3.1
theorem eq_nd {ta : Nat → Int32} {e : eT} {d : dT} {x : zT} {t : Nat} (hta : ∀ j, ¬ ta j < 0) (ht : t ≤ 160) (hI : kI e t) (h : RR e d x) : Out ta (nI t) (lnN (k_nd ta (nI t) (k_tn ta (nI t) e 7 0) (d_f4 d)) d) (zZ ta (nI t) 2 (x_nx ta (nI t) x)) := by
  obtain ⟨hT, P, W, N, M1, M2, hB⟩ := h
  have hk := k_tn_g ta (nI t) e 7 0
  have kI1 := kI_tn (ta := ta) ht hI 7 0
  have hz : zk8 (x_nx ta (nI t) x) = zk8 x := x_nx_k _ _ _
  have h1 := tn3 (m := 7) hta ht (by decide) hI hT.1 hT.2.1
  obtain ⟨K, hK⟩ : ∃ K, K = k_tn ta (nI t) e 7 0 := ⟨_, rfl⟩
  rw [show (nI 7 : Int32) = 7 from rfl, ← hK] at h1
  rw [← hK] at hk kI1 ⊢
  obtain ⟨y, hy⟩ : ∃ y, y = x_nx ta (nI t) x := ⟨_, rfl⟩
  rw [← hy] at h1 hz ⊢
  have hlo : x_lo ta (nI t) 2 y = x_nd ta (nI t) y := by rw [x_lo, if_neg (by decide), if_neg (by decide), if_pos rfl]
  rw [k_nd]
  rcases h1 with ⟨a1, a2, a3, w, a4, a5, a6⟩ | ⟨a1, a2⟩ | ⟨a1, a0, a2⟩
  rotate_left
  · rw [if_pos a1]
    exact Or.inr ⟨rfl, Z_F a2⟩
  · rw [if_pos a1]
    refine Or.inr ⟨rfl, Z_L a0 (l7_F ?_)⟩
    have b : FF K.2 (x_rw ta (nI t) y 0) := rw_F (wb_F a2)
    rw [hlo, x_nd, ndl_x (Or.inl (FF_n0 b))]
    exact b
  rw [if_neg a1, a5]
  have hw8 : w < 8 := by omega
  have hM2 : M2 < 256 := hB.1.2.2.2.2.1
  have hhW : z_hW y = hN M2 := (zk_hW2 hz).trans hB.1.2.2.2.2.2
  have hwb := wb_ok a2 a3 a6 (g := 0) (hb_0 w hw8)
  rw [hhW, hN_or2 hM2 hw8] at hwb
  have hko : k_or K.2 = nI (M2 ||| 2 ^ w) := by
    have : e_wi K.2 = nI M2 := (congrArg (fun g : Int32 × Int32 × Int32 => g.2.2) hk).trans hB.1.2.2.2.1
    rw [k_or, a5]; exact or_shl this hw8
  obtain ⟨hf4, o, ho, hoM⟩ := hB.2.2.2.1 w hw8
  have hf4 : z_dr x (10 + w) = d_f4 d w := hf4
  have ho256 : o < 256 := by
    have : o ≤ M2 := by rw [← hoM]; exact Nat.left_le_or
    omega
  have hM0 : M2 ||| 2 ^ w < 256 := or_lt8 hM2 (p2_lt8 hw8)
  have hMo : M2 ||| 2 ^ w ||| o = M2 ||| 2 ^ w := by rw [Nat.or_comm]; exact or_up hoM
  have L := nd_loop (q := zk8 x) (dr := z_dr x) (g1 := (e_g e).1) (g2 := (e_g e).2.1) (M0 := M2 ||| 2 ^ w) hta ht hw8 hM0 (d_f4 d) 9 161 o (v_wi K.2 (k_or K.2)) (d_f4 d) (u_hW y (hN (M2 ||| 2 ^ w))) (by decide) (by decide) ho256 (by omega) kI1 a2.1 a2.2.1 (upd_I2 ho).symm (by
      rw [zk_hW, hz, hMo, upd_I2 (hf4.trans ho)]; rfl) (by
      show ((e_g K.2).1, (e_g K.2).2.1, k_or K.2) = _
      rw [hk, hko])
  have hx : x_lo ta (nI t) 2 y = x_ndl ta (nI t) w 161 (x_nx ta (nI t) (u_hW y (hN (M2 ||| 2 ^ w)))) := by rw [hlo, x_nd, a6, nI_clamp (by omega), x_rw, hwb]
  rw [← hx] at L
  obtain ⟨R, hR⟩ : ∃ R, R = k_ns ta (nI t) (nI w) 9 (v_wi K.2 (k_or K.2)) (d_f4 d) := ⟨_, rfl⟩
  rw [← hR] at L ⊢
  rcases L with ⟨b1, b2, O', hO', b3, b4, b5⟩ | ⟨b1, b2⟩
  · refine Or.inl ⟨b1, _, ⟨b2, P, W, N, M1, M2 ||| 2 ^ w ||| O', ?_⟩, Z_O a2.1⟩
    rw [l7_k, b4]
    show BB P W N M1 (M2 ||| 2 ^ w ||| O') (e_g R.2.1) (d.1, d.2.1, d.2.2.1, d.2.2.2.1, d.2.2.2.2.1, d.2.2.2.2.2.1, d.2.2.2.2.2.2.1, d.2.2.2.2.2.2.2.1, d.2.2.2.2.2.2.2.2.1, d.2.2.2.2.2.2.2.2.2.1, R.2.2, d.2.2.2.2.2.2.2.2.2.2.2) (qs_dr (qs_hW (zk8 x) (hN (M2 ||| 2 ^ w ||| O'))) (upd (z_dr x) (10 + w) (nI O')))
    rw [b3, b5, Nat.or_assoc]
    exact BB_nd hw8 (by rw [← Nat.or_assoc]; exact or_lt8 hM0 hO') (by rw [← Nat.or_assoc M2]; exact or_me _ _) hB
  · exact Or.inr ⟨b1, Z_L a2.1 b2⟩

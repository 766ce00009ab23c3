/-! ===== the two readers: list, plan, clash ===== -/
theorem zk_hW2 {x y : zT} (h : zk8 x = zk8 y) : z_hW x = z_hW y := congrArg (fun z => z.2.2.2.2.1) h
theorem or_shl {g : Int32} {M j : Nat} (hg : g = nI M) (hj : j < 8) : g ||| ((1 : Int32) <<< (nI j &&& 31)) = nI (M ||| 2 ^ j) := by rw [hg, p_2n j (by omega), lt8_orI]
theorem BB_M2 {P W N M1 M2 j : Nat} {g1 g2 g3 pe wi de li ba ls pn : Int32} {f1 f2 f3 f4 f5 f8 : Nat → Int32} {dP dW hD h1 hW : Int32} {dr dy dq : Nat → Int32} (hj : j < 8) (h : BBf P W N M1 M2 g1 g2 g3 pe wi de li ba ls pn f1 f2 f3 f4 f5 f8 dP dW hD h1 hW dr dy dq) : BBf P W N M1 (M2 ||| 2 ^ j) g1 g2 (nI (M2 ||| 2 ^ j)) pe wi de li ba ls pn f1 f2 f3 f4 f5 f8 dP dW hD h1 (if hW < nI j then nI j else hW) dr dy dq := by
  obtain ⟨⟨n, ⟨k1, k2, k3⟩⟩, hs, h3, h4, h5, h8, hf⟩ := h
  refine ⟨⟨n, ⟨k1, k2, rfl, or_lt8 k3.2.1 (p2_lt8 hj), ?_⟩⟩, Bs_m _ hs, h3, B4_m _ h4, B4_m _ h5, B8_m _ h8, hf⟩
  rw [k3.2.2, hN_or M2 k3.2.1 j hj]
theorem BB_ls {P W N M1 M2 o : Nat} {g1 g2 g3 pe wi de li ba ls pn : Int32} {f1 f2 f3 f4 f5 f8 : Nat → Int32} {dP dW hD h1 hW : Int32} {dr dy dq : Nat → Int32} (ho : o ||| M2 = M2) (h : BBf P W N M1 M2 g1 g2 g3 pe wi de li ba ls pn f1 f2 f3 f4 f5 f8 dP dW hD h1 hW dr dy dq) : BBf P W N M1 M2 g1 g2 g3 pe wi de li ba (nI o) pn f1 f2 f3 f4 f5 f8 dP dW hD h1 hW (upd dr 27 (nI o)) dy dq := by
  obtain ⟨⟨⟨n1, n2, n3⟩, k⟩, hs, h3, h4, h5, h8, hf⟩ := h
  obtain ⟨s1, s2, s3, s4, s5, s6⟩ := hs
  refine ⟨⟨⟨n1, n2, ⟨?_, n3.2⟩⟩, k⟩, ⟨⟨?_, s1.2⟩, ⟨?_, s2.2⟩, ⟨?_, s3.2⟩, ⟨upd_eq _ _ _, o, rfl, ho⟩, ?_, ?_⟩, B3_u h3 (by omega), B4_u h4 (by omega), B4_u h5 (by omega), B8_u h8 (by omega), hf⟩
  · rw [upd_ne (by decide)]; exact n3.1
  · rw [upd_ne (by decide)]; exact s1.1
  · rw [upd_ne (by decide)]; exact s2.1
  · rw [upd_ne (by decide)]; exact s3.1
  · rw [upd_ne (by decide)]; exact s5
  · rw [upd_ne (by decide)]; exact s6
theorem or_or {a b M : Nat} (ha : a ||| M = M) (hb : b ||| M = M) : (a ||| b) ||| M = M := by rw [Nat.or_assoc, hb, ha]
theorem eq_li {ta : Nat → Int32} {e : eT} {d : dT} {x : zT} {t : Nat} (hta : ∀ j, ¬ ta j < 0) (ht : t ≤ 160) (hI : kI e t) (h : RR e d x) : Out ta (nI t) (lnL (k_li ta (nI t) e (d_ls d)) d) (zZ ta (nI t) 4 (x_nx ta (nI t) x)) := by
  obtain ⟨hT, P, W, N, M1, M2, hB⟩ := h
  have hk := k_tn_g ta (nI t) e 7 0
  have kI1 := kI_tn (ta := ta) ht hI 7 0
  have hz : zk8 (x_nx ta (nI t) x) = zk8 x := x_nx_k _ _ _
  rw [k_li]
  have h1 := tn3 (m := 7) hta ht (by decide) hI hT.1 hT.2.1
  obtain ⟨K, hK⟩ : ∃ K, K = k_tn ta (nI t) e 7 0 := ⟨_, rfl⟩
  rw [show (nI 7 : Int32) = 7 from rfl, ← hK] at h1
  rw [← hK] at hk kI1 ⊢
  obtain ⟨y, hy⟩ : ∃ y, y = x_nx ta (nI t) x := ⟨_, rfl⟩
  rw [← hy] at h1 hz ⊢
  have hlo : x_lo ta (nI t) 4 y = x_li ta (nI t) y := rfl
  have hdr : z_dr y = z_dr x := zk_dr hz
  have hls : z_dr y 27 = d_ls d := by rw [hdr]; exact hB.2.1.2.2.2.1.1
  obtain ⟨o, ho, hoM⟩ := hB.2.1.2.2.2.1.2
  rcases h1 with ⟨a1, a2, a3, j, a4, a5, a6⟩ | ⟨a1, a2⟩ | ⟨a1, a0, a2⟩
  · rw [if_neg a1, a5]
    by_cases c : p_hb (d_ls d) (nI j) = 0
    · rw [if_pos c]
      have hwb := wb_ok a2 a3 a6 (g := z_dr y 27) (by rw [hls]; exact c)
      obtain ⟨hh, hhe⟩ : ∃ hh, hh = (if z_hW y < nI j then nI j else z_hW y) := ⟨_, rfl⟩
      rw [← hhe] at hwb
      have hko : k_or K.2 = nI (M2 ||| 2 ^ j) := by
        have : e_wi K.2 = nI M2 := (congrArg (fun g : Int32 × Int32 × Int32 => g.2.2) hk).trans hB.1.2.2.2.1
        rw [k_or, a5]; exact or_shl this (by omega)
      have h2 := tsT (e := v_wi K.2 (k_or K.2)) (x := u_hW y hh) hta ht kI1 a2.1 a2.2.1
      have hks := k_ts_g ta (nI t) (v_wi K.2 (k_or K.2))
      obtain ⟨S, hS⟩ : ∃ S, S = k_ts ta (nI t) (v_wi K.2 (k_or K.2)) := ⟨_, rfl⟩
      rw [← hS] at h2 hks ⊢
      obtain ⟨f, hf⟩ : ∃ f, f = upd (z_dr y) 27 (z_dr y 27 ||| (if z_fa (x_nx ta (nI t) (u_hW y hh)) = 0 then (1 : Int32) <<< (nI j &&& 31) else 0)) := ⟨_, rfl⟩
      have hx : x_l7 (x_lo ta (nI t) 4 y) = u_dr (x_l7 (x_nx ta (nI t) (u_hW y hh))) f := by rw [hlo, x_li, x_rw, hwb, a6, l7_dr, hf]
      rcases h2 with ⟨b1, b2⟩ | ⟨b1, b2⟩
      · refine Or.inl ⟨b1, _, ⟨?_, P, W, N, M1, M2 ||| 2 ^ j, ?_⟩, Z_O a2.1⟩
        · rw [hx]
          exact TT_dr b2 _
        · have hf2 : f = upd (z_dr x) 27 (nI (o ||| 2 ^ j)) := by rw [hf, if_pos (l7_fa b2.1), hls, or_shl ho (by omega), hdr]
          have hq : zk8 (x_l7 (x_lo ta (nI t) 4 y)) = qs_dr (qs_hW (zk8 x) hh) (upd (z_dr x) 27 (nI (o ||| 2 ^ j))) := by
            rw [hx, zk_dr1, l7_k, x_nx_k, zk_hW, hz, hf2]
          have hg : e_g S.2 = ((e_g e).1, (e_g e).2.1, nI (M2 ||| 2 ^ j)) := by
            rw [hks, ← hko, ← hk]; rfl
          rw [hq, or_shl ho (by omega)]
          show BB P W N M1 (M2 ||| 2 ^ j) (e_g S.2) (d.1, d.2.1, d.2.2.1, d.2.2.2.1, d.2.2.2.2.1, nI (o ||| 2 ^ j), d.2.2.2.2.2.2) (qs_dr (qs_hW (zk8 x) hh) (upd (z_dr x) 27 (nI (o ||| 2 ^ j))))
          rw [hg, hhe, show z_hW y = z_hW x from zk_hW2 hz]
          exact BB_ls (or_or (or_up hoM) (or_me M2 (2 ^ j))) (BB_M2 (by omega) hB)
      · refine Or.inr ⟨b1, Z_L a2.1 ?_⟩
        rw [hx]
        exact FF_dr b2 _
    · rw [if_neg c]
      refine Or.inr ⟨rfl, Z_L a2.1 (l7_F ?_)⟩
      rw [hlo, x_li]
      exact FF_dr (rw_F (wb_no a2 a3 a6 (by rw [hls]; exact c))) _
  · rw [if_pos a1]
    exact Or.inr ⟨rfl, Z_F a2⟩
  · rw [if_pos a1]
    refine Or.inr ⟨rfl, Z_L a0 (l7_F ?_)⟩
    rw [hlo, x_li]
    exact FF_dr (rw_F (wb_F a2)) _
/-! plan -/
theorem hb_0 : ∀ j, j < 8 → p_hb 0 (nI j) = 0 := by decide +kernel
theorem BB_pl {P W N M1 M2 j : Nat} {g1 g2 g3 pe wi de li ba ls pn : Int32} {f1 f2 f3 f4 f5 f8 : Nat → Int32} {dP dW hD h1 hW : Int32} {dr dy dq : Nat → Int32} (hN : N < 6) (hj : j < 8) (ho : 2 ^ j ||| M2 = M2) (h : BBf P W N M1 M2 g1 g2 g3 pe wi de li ba ls pn f1 f2 f3 f4 f5 f8 dP dW hD h1 hW dr dy dq) : BBf P W (N + 1) M1 M2 g1 g2 g3 pe wi de li ba ls (nI (N + 1)) f1 f2 f3 f4 f5 (upd f8 N (nI j)) dP dW hD h1 hW (upd (upd dr (30 + N) (nI j)) 29 (nI (N + 1))) dy dq := by
  obtain ⟨⟨⟨n1, n2, n3⟩, k⟩, hs, h3, h4, h5, h8, hf⟩ := h
  refine ⟨⟨⟨n1, n2, ⟨upd_eq _ _ _, rfl, by omega⟩⟩, k⟩, Bs_u (Bs_u hs (by omega)) (by omega), B3_u (B3_u h3 (by omega)) (by omega), B4_u (B4_u h4 (by omega)) (by omega), B4_u (B4_u h5 (by omega)) (by omega), fun i hi => ?_, hf⟩
  rw [upd_ne (by omega)]
  rcases Nat.lt_or_eq_of_le (Nat.le_of_lt_succ hi) with q | q
  · rw [upd_ne (by omega), upd_ne (by omega)]
    exact h8 i q
  · rw [q, upd_eq, upd_eq]
    exact ⟨rfl, j, hj, rfl, ho⟩
theorem eq_pl {ta : Nat → Int32} {e : eT} {d : dT} {x : zT} {t : Nat} (hta : ∀ j, ¬ ta j < 0) (ht : t ≤ 160) (hI : kI e t) (hp6 : d_pn d < 6) (h : RR e d x) : Out ta (nI t) (lnP (k_pl ta (nI t) e (d_pn d) (d_f8 d)) d) (zZ ta (nI t) 6 (x_nx ta (nI t) x)) := by
  obtain ⟨hT, P, W, N, M1, M2, hB⟩ := h
  have hk := k_tn_g ta (nI t) e 7 0
  have kI1 := kI_tn (ta := ta) ht hI 7 0
  have hz : zk8 (x_nx ta (nI t) x) = zk8 x := x_nx_k _ _ _
  rw [k_pl, if_pos hp6, k_pl2]
  have h1 := tn3 (m := 7) hta ht (by decide) hI hT.1 hT.2.1
  obtain ⟨K, hK⟩ : ∃ K, K = k_tn ta (nI t) e 7 0 := ⟨_, rfl⟩
  rw [show (nI 7 : Int32) = 7 from rfl, ← hK] at h1
  rw [← hK] at hk kI1 ⊢
  obtain ⟨y, hy⟩ : ∃ y, y = x_nx ta (nI t) x := ⟨_, rfl⟩
  rw [← hy] at h1 hz ⊢
  have hlo : x_lo ta (nI t) 6 y = x_pl ta (nI t) y := rfl
  have hdr : z_dr y = z_dr x := zk_dr hz
  obtain ⟨n1, n2, n3⟩ := hB.1.1.2.2
  have n1 : z_dr x 29 = nI N := n1
  have hN6 : N < 6 := by rw [n2, show (6 : Int32) = nI 6 from rfl, nI_ltI (by omega) (by omega)] at hp6; exact hp6
  rcases h1 with ⟨a1, a2, a3, j, a4, a5, a6⟩ | ⟨a1, a2⟩ | ⟨a1, a0, a2⟩
  · rw [if_neg a1, a5]
    have hwb := wb_ok a2 a3 a6 (g := 0) (hb_0 j (by omega))
    obtain ⟨hh, hhe⟩ : ∃ hh, hh = (if z_hW y < nI j then nI j else z_hW y) := ⟨_, rfl⟩
    rw [← hhe] at hwb
    have hko : k_or K.2 = nI (M2 ||| 2 ^ j) := by
      have : e_wi K.2 = nI M2 := (congrArg (fun g : Int32 × Int32 × Int32 => g.2.2) hk).trans hB.1.2.2.2.1
      rw [k_or, a5]; exact or_shl this (by omega)
    have h2 := tsT (e := v_wi K.2 (k_or K.2)) (x := u_hW y hh) hta ht kI1 a2.1 a2.2.1
    have hks := k_ts_g ta (nI t) (v_wi K.2 (k_or K.2))
    obtain ⟨S, hS⟩ : ∃ S, S = k_ts ta (nI t) (v_wi K.2 (k_or K.2)) := ⟨_, rfl⟩
    rw [← hS] at h2 hks ⊢
    have hi1 : (30 + nI N).toNatClampNeg = 30 + N := by rw [show (30 : Int32) = nI 30 from rfl, nI_add, nI_clamp (by omega)]
    have hx : x_l7 (x_lo ta (nI t) 6 y) = u_dr (x_l7 (x_nx ta (nI t) (u_hW y hh))) (upd (upd (z_dr x) (30 + N) (nI j)) 29 (nI (N + 1))) := by rw [hlo, x_pl, x_rw, hwb, a6, l7_dr, hdr, n1, hi1, nI_1]
    rcases h2 with ⟨b1, b2⟩ | ⟨b1, b2⟩
    · refine Or.inl ⟨b1, _, ⟨?_, P, W, N + 1, M1, M2 ||| 2 ^ j, ?_⟩, Z_O a2.1⟩
      · rw [hx]
        exact TT_dr b2 _
      · have hq : zk8 (x_l7 (x_lo ta (nI t) 6 y)) = qs_dr (qs_hW (zk8 x) hh) (upd (upd (z_dr x) (30 + N) (nI j)) 29 (nI (N + 1))) := by
          rw [hx, zk_dr1, l7_k, x_nx_k, zk_hW, hz]
        have hg : e_g S.2 = ((e_g e).1, (e_g e).2.1, nI (M2 ||| 2 ^ j)) := by
          rw [hks, ← hko, ← hk]; rfl
        rw [hq, n2, nI_1, nI_clamp (by omega)]
        show BB P W (N + 1) M1 (M2 ||| 2 ^ j) (e_g S.2) (d.1, d.2.1, d.2.2.1, d.2.2.2.1, d.2.2.2.2.1, d.2.2.2.2.2.1, nI (N + 1), d.2.2.2.2.2.2.2.1, d.2.2.2.2.2.2.2.2.1, d.2.2.2.2.2.2.2.2.2.1, d.2.2.2.2.2.2.2.2.2.2.1, d.2.2.2.2.2.2.2.2.2.2.2.1, upd (d_f8 d) N (nI j)) (qs_dr (qs_hW (zk8 x) hh) (upd (upd (z_dr x) (30 + N) (nI j)) 29 (nI (N + 1))))
        rw [hg, hhe, show z_hW y = z_hW x from zk_hW2 hz]
        exact BB_pl hN6 (by omega) (or_me M2 (2 ^ j)) (BB_M2 (by omega) hB)
    · refine Or.inr ⟨b1, Z_L a2.1 ?_⟩
      rw [hx]
      exact FF_dr b2 _
  · rw [if_pos a1]
    exact Or.inr ⟨rfl, Z_F a2⟩
  · rw [if_pos a1]
    refine Or.inr ⟨rfl, Z_L a0 (l7_F ?_)⟩
    rw [hlo, x_pl]
    exact FF_dr (rw_F (wb_F a2)) _
/-! clash -/
theorem FF_n0 {e : eT} {x : zT} (h : FF e x) : ¬ z_fa x = 0 := fun q => by
  have := h.1
  rw [q] at this
  exact absurd this (by decide)
theorem B4_s {M k i o : Nat} {f dr : Nat → Int32} (ho : o ||| M = M) (h : B4 M k f dr) : B4 M k (upd f i (nI o)) (upd dr (k + i) (nI o)) := by
  intro j hj
  by_cases c : j = i
  · rw [c, upd_eq, upd_eq]
    exact ⟨rfl, o, rfl, ho⟩
  · rw [upd_ne (by omega), upd_ne c]
    exact h j hj
theorem hb_2 : ∀ w, w < 8 → ∀ v, v < 8 → (p_hb (nI (2 ^ w)) (nI v) = 0 ↔ ¬ v = w) := by decide +kernel
theorem BB_cl {P W N M1 M2 w v o o2 : Nat} {g1 g2 g3 pe wi de li ba ls pn : Int32} {f1 f2 f3 f4 f5 f8 : Nat → Int32} {dP dW hD h1 hW : Int32} {dr dy dq : Nat → Int32} (hw : w < 8) (hv : v < 8) (ho : o ||| M2 = M2) (ho2 : o2 ||| M2 = M2) (h : BBf P W N M1 M2 g1 g2 g3 pe wi de li ba ls pn f1 f2 f3 f4 f5 f8 dP dW hD h1 hW dr dy dq) : BBf P W N M1 M2 g1 g2 g3 pe wi de li ba ls pn f1 f2 f3 f4 (upd (upd f5 w (nI o)) v (nI o2)) f8 dP dW hD h1 hW (upd (upd dr (18 + w) (nI o)) (18 + v) (nI o2)) dy dq := by
  obtain ⟨⟨⟨n1, n2, n3⟩, k⟩, hs, h3, h4, h5, h8, hf⟩ := h
  refine ⟨⟨⟨n1, n2, ⟨?_, n3.2⟩⟩, k⟩, Bs_u (Bs_u hs (by omega)) (by omega), B3_u (B3_u h3 (by omega)) (by omega), B4_u (B4_u h4 (by omega)) (by omega), B4_s ho2 (B4_s ho h5), B8_u (B8_u h8 (by omega)) (by omega), hf⟩
  rw [upd_ne (by omega), upd_ne (by omega)]; exact n3.1
theorem or2_shl {g : Int32} {M w j : Nat} (hg : g = nI M) (hw : w < 8) (hj : j < 8) : g ||| (((1 : Int32) <<< (nI w &&& 31)) ||| ((1 : Int32) <<< (nI j &&& 31))) = nI (M ||| 2 ^ w ||| 2 ^ j) := by rw [hg, p_2n j (by omega), p_2n w (by omega), lt8_orI, lt8_orI, Nat.or_assoc]
theorem eq_cl {ta : Nat → Int32} {e : eT} {d : dT} {x : zT} {t : Nat} (hta : ∀ j, ¬ ta j < 0) (ht : t ≤ 160) (hI : kI e t) (h : RR e d x) : Out ta (nI t) (lnC (k_cl1 ta (nI t) (k_tn ta (nI t) e 7 0) (d_f5 d)) d) (zZ ta (nI t) 3 (x_nx ta (nI t) x)) := by
  obtain ⟨hT, P, W, N, M1, M2, hB⟩ := h
  have hk := k_tn_g ta (nI t) e 7 0
  have kI1 := kI_tn (ta := ta) ht hI 7 0
  have hz : zk8 (x_nx ta (nI t) x) = zk8 x := x_nx_k _ _ _
  have h1 := tn3 (m := 7) hta ht (by decide) hI hT.1 hT.2.1
  obtain ⟨K, hK⟩ : ∃ K, K = k_tn ta (nI t) e 7 0 := ⟨_, rfl⟩
  rw [show (nI 7 : Int32) = 7 from rfl, ← hK] at h1
  rw [← hK] at hk kI1 ⊢
  obtain ⟨y, hy⟩ : ∃ y, y = x_nx ta (nI t) x := ⟨_, rfl⟩
  rw [← hy] at h1 hz ⊢
  have hlo : x_lo ta (nI t) 3 y = x_cl ta (nI t) y := by rw [x_lo, if_neg (by decide), if_neg (by decide), if_neg (by decide), if_pos rfl]
  have hdr : z_dr y = z_dr x := zk_dr hz
  rw [k_cl1]
  rcases h1 with ⟨a1, a2, a3, w, a4, a5, a6⟩ | ⟨a1, a2⟩ | ⟨a1, a0, a2⟩
  rotate_left
  · rw [if_pos a1]
    exact Or.inr ⟨rfl, Z_F a2⟩
  · rw [if_pos a1]
    refine Or.inr ⟨rfl, Z_L a0 (l7_F ?_)⟩
    have b : FF K.2 (x_rw ta (nI t) y 0) := rw_F (wb_F a2)
    rw [hlo, x_cl, x_cl1, x_clA]
    obtain ⟨z, hz2⟩ : ∃ z, z = x_rw ta (nI t) y 0 := ⟨_, rfl⟩
    rw [← hz2] at b ⊢
    have b2 : ∀ g, FF K.2 (x_rw ta (nI t) z g) := fun g => rw_F (wb_F (by rw [lk_F b]; exact b))
    rw [if_neg (FF_n0 (b2 _))]
    exact b2 _
  rw [if_neg a1, a5]
  have hwb := wb_ok a2 a3 a6 (g := 0) (hb_0 w (by omega))
  obtain ⟨hh, hhe⟩ : ∃ hh, hh = (if z_hW y < nI w then nI w else z_hW y) := ⟨_, rfl⟩
  rw [← hhe] at hwb
  have hk2 := k_tn_g ta (nI t) K.2 7 0
  have kI2 := kI_tn (ta := ta) ht kI1 7 0
  have h2 := tnT (m := 7) (x := u_hW y hh) hta ht (by decide) kI1 a2.1 a2.2.1
  obtain ⟨K2, hK2⟩ : ∃ K2, K2 = k_tn ta (nI t) K.2 7 0 := ⟨_, rfl⟩
  rw [show (nI 7 : Int32) = 7 from rfl, ← hK2] at h2
  rw [← hK2] at hk2 kI2 ⊢
  obtain ⟨y1, hy1⟩ : ∃ y1, y1 = x_nx ta (nI t) (u_hW y hh) := ⟨_, rfl⟩
  have hz1 : zk8 y1 = qs_hW (zk8 x) hh := by rw [hy1, x_nx_k, zk_hW, hz]
  have hdr1 : z_dr y1 = z_dr x := by
    have := congrArg q_dr hz1
    exact this
  have hhW1 : z_hW y1 = hh := by
    have := congrArg (fun q : qT => q.2.2.2.2.1) hz1
    exact this
  rw [← hy1] at h2
  have hcl : x_cl ta (nI t) y = x_cl1 ta (nI t) w y1 := by rw [x_cl, x_rw, hwb, a6, nI_clamp (by omega), hy1]
  obtain ⟨hf5, o, ho, hoM⟩ := hB.2.2.2.2.1 w (by omega)
  have hf5 : z_dr x (18 + w) = d_f5 d w := hf5
  obtain ⟨g, hg⟩ : ∃ g, g = z_dr y1 (18 + w) ||| ((1 : Int32) <<< (nI w &&& 31)) := ⟨_, rfl⟩
  have hA : x_clA ta (nI t) w y1 = x_rw ta (nI t) y1 g := by rw [x_clA, hg]
  have hwc : (nI w).toNatClampNeg = w := nI_clamp (by omega)
  rw [k_cl2, hwc]
  have Fo : ∀ e2, FF e2 (x_rw ta (nI t) y1 g) → FF e2 (zZ ta (nI t) 3 y) := by
    intro e2 b
    refine Z_L a2.1 (l7_F ?_)
    rw [hlo, hcl, x_cl1, hA, if_neg (fun q => by have := b.1; rw [q] at this; exact absurd this (by decide))]
    exact b
  rcases h2 with ⟨c1, c2, c3, v, c4, c5, c6⟩ | ⟨c1, c2⟩
  rotate_left
  · rw [if_pos c1]
    exact Or.inr ⟨rfl, Fo _ (rw_F (wb_F c2))⟩
  rw [if_neg c1, c5]
  have hM256 : M2 < 256 := hB.1.2.2.2.2.1
  have ho256 : o < 256 := by
    have : o ≤ M2 := by rw [← hoM]; exact Nat.left_le_or
    omega
  have hgv : p_hb g (nI v) = 0 ↔ ¬ (nI v = nI w ∨ ¬ p_hb (d_f5 d w) (nI v) = 0) := by
    rw [hg, hdr1, hf5, ho, p_2n w (by omega), hb_or ho256 (p2_lt8 (by omega)) (by omega), hb_2 w (by omega) v (by omega), nI_eq (by omega) (by omega)]
    constructor
    · rintro ⟨p1, p2⟩ (q | q)
      · exact p2 q
      · exact q p1
    · intro q
      exact ⟨Classical.not_not.mp (fun z => q (Or.inr z)), fun z => q (Or.inl z)⟩
  by_cases c : nI v = nI w ∨ ¬ p_hb (d_f5 d w) (nI v) = 0
  · rw [if_pos c]
    exact Or.inr ⟨rfl, Fo _ (rw_F (wb_no c2 c3 c6 (fun z => hgv.mp z c)))⟩
  rw [if_neg c]
  have hwb2 := wb_ok c2 c3 c6 (g := g) (hgv.mpr c)
  obtain ⟨hh2, hhe2⟩ : ∃ hh2, hh2 = (if z_hW y1 < nI v then nI v else z_hW y1) := ⟨_, rfl⟩
  rw [← hhe2] at hwb2
  have hko : k_or2 K2.2 (nI w) = nI (M2 ||| 2 ^ w ||| 2 ^ v) := by
    have : e_wi K2.2 = nI M2 := (congrArg (fun g : Int32 × Int32 × Int32 => g.2.2) (hk2.trans hk)).trans hB.1.2.2.2.1
    rw [k_or2, c5]; exact or2_shl this (by omega) (by omega)
  have h3 := tsT (e := v_wi K2.2 (k_or2 K2.2 (nI w))) (x := u_hW y1 hh2) hta ht kI2 c2.1 c2.2.1
  have hks := k_ts_g ta (nI t) (v_wi K2.2 (k_or2 K2.2 (nI w)))
  obtain ⟨S, hS⟩ : ∃ S, S = k_ts ta (nI t) (v_wi K2.2 (k_or2 K2.2 (nI w))) := ⟨_, rfl⟩
  rw [← hS] at h3 hks ⊢
  obtain ⟨y2, hy2⟩ : ∃ y2, y2 = x_nx ta (nI t) (u_hW y1 hh2) := ⟨_, rfl⟩
  rw [← hy2] at h3
  have hz2 : zk8 y2 = qs_hW (zk8 x) hh2 := by rw [hy2, x_nx_k, zk_hW, hz1]; rfl
  have hdr2 : z_dr y2 = z_dr x := by
    have := congrArg q_dr hz2
    exact this
  have hA2 : x_clA ta (nI t) w y1 = y2 := by rw [hA, x_rw, hwb2, hy2]
  rcases h3 with ⟨b1, b2⟩ | ⟨b1, b2⟩
  rotate_left
  · refine Or.inr ⟨b1, Z_L a2.1 ?_⟩
    rw [hlo, hcl, x_cl1, hA2]
    split
    · rw [x_cl2, l7_dr]
      exact FF_dr b2 _
    · exact b2
  have hv0 : z_fa y2 = 0 := l7_fa b2.1
  obtain ⟨hf5v, ov, hov, hovM⟩ := hB.2.2.2.2.1 v (by omega)
  have hf5v : z_dr x (18 + v) = d_f5 d v := hf5v
  have hvw : ¬ v = w := fun q => c (Or.inl (by rw [q]))
  have hx : x_l7 (x_lo ta (nI t) 3 y) = u_dr (x_l7 y2) (upd (upd (z_dr x) (18 + w) (nI (o ||| 2 ^ v))) (18 + v) (nI (ov ||| 2 ^ w))) := by
    rw [hlo, hcl, x_cl1, hA2, if_pos hv0, c6, nI_clamp (by omega), x_cl2, l7_dr, hdr2, hf5, or_shl ho (by omega), upd_ne (by omega), hf5v, or_shl hov (by omega)]
  have hk5 : k_c5 (d_f5 d) (nI w) (nI v) = upd (upd (d_f5 d) w (nI (o ||| 2 ^ v))) v (nI (ov ||| 2 ^ w)) := by
    rw [k_c5, hwc, nI_clamp (by omega), or_shl ho (by omega), upd_ne hvw, or_shl hov (by omega)]
  refine Or.inl ⟨b1, _, ⟨?_, P, W, N, M1, M2 ||| 2 ^ w ||| 2 ^ v, ?_⟩, Z_O a2.1⟩
  · rw [hx]
    exact TT_dr b2 _
  · have hq : zk8 (x_l7 (x_lo ta (nI t) 3 y)) = qs_dr (qs_hW (zk8 x) hh2) (upd (upd (z_dr x) (18 + w) (nI (o ||| 2 ^ v))) (18 + v) (nI (ov ||| 2 ^ w))) := by
      rw [hx, zk_dr1, l7_k, hz2]
    have hg : e_g S.2 = ((e_g e).1, (e_g e).2.1, nI (M2 ||| 2 ^ w ||| 2 ^ v)) := by
      rw [hks, ← hko, ← hk, ← hk2]; rfl
    rw [hq, hk5]
    show BB P W N M1 (M2 ||| 2 ^ w ||| 2 ^ v) (e_g S.2) (d.1, d.2.1, d.2.2.1, d.2.2.2.1, d.2.2.2.2.1, d.2.2.2.2.2.1, d.2.2.2.2.2.2.1, d.2.2.2.2.2.2.2.1, d.2.2.2.2.2.2.2.2.1, d.2.2.2.2.2.2.2.2.2.1, d.2.2.2.2.2.2.2.2.2.2.1, upd (upd (d_f5 d) w (nI (o ||| 2 ^ v))) v (nI (ov ||| 2 ^ w)), d_f8 d) (qs_dr (qs_hW (zk8 x) hh2) (upd (upd (z_dr x) (18 + w) (nI (o ||| 2 ^ v))) (18 + v) (nI (ov ||| 2 ^ w))))
    rw [hg, hhe2, hhW1, hhe, zk_hW2 hz]
    exact BB_cl (by omega) (by omega) (or_or (or_up (or_up hoM)) (or_me _ _)) (or_or (or_up (or_up hovM)) (or_up (or_me _ _))) (BB_M2 (by omega) (BB_M2 (by omega) hB))

/-! ===== the two readers: a one; a line ===== -/
theorem wb_lt : ∀ P, P < 8 → ∀ L, L < 2 ^ P → nI L &&& (((1 : Int32) <<< (nI P &&& 31)) ^^^ (-1)) = nI L := by decide +kernel
theorem shl_0 : ∀ P, P < 8 → (0 : Int32) <<< (nI P &&& 31) = 0 := by decide +kernel
theorem wb_flg {P L : Nat} {a k c : Int32} (hP : P < 8) (hL : L < 2 ^ P) (h : ¬ a = 0 ↔ k = c) : ∃ L', L' < 2 ^ (P + 1) ∧ p_wb (nI L) (nI P) a = nI L' ∧ nI L ||| (p_flg k c <<< (nI P &&& 31)) = nI L' := by
  have h2 : 2 ^ (P + 1) = 2 ^ P + 2 ^ P := by rw [Nat.pow_succ]; omega
  by_cases c1 : a = 0
  · refine ⟨L, by omega, ?_, ?_⟩
    · rw [p_wb, if_pos c1, wb_lt P hP L hL]
    · rw [p_flg, if_neg (fun q => (h.mpr q) c1), shl_0 P hP, show (0 : Int32) = nI 0 from rfl, lt8_orI, Nat.or_zero]
  · refine ⟨L ||| 2 ^ P, Nat.or_lt_two_pow (by omega) (by have := Nat.two_pow_pos P; omega), ?_, ?_⟩
    · rw [p_wb, if_neg c1, or_shl rfl hP]
    · rw [p_flg, if_pos (h.mp c1), or_shl rfl hP]
theorem BB_on {P W N M1 M2 L1 L2 : Nat} {g1 g2 g3 pe wi de li ba ls pn : Int32} {f1 f2 f3 f4 f5 f8 : Nat → Int32} {dP dW hD h1 hW : Int32} {dr dy dq : Nat → Int32} (hP8 : P < 8) (h1' : L1 < 2 ^ (P + 1)) (h2' : L2 < 2 ^ (P + 1)) (h : BBf P W N M1 M2 g1 g2 g3 pe wi de li ba ls pn f1 f2 f3 f4 f5 f8 dP dW hD h1 hW dr dy dq) : BBf (P + 1) W N M1 M2 g1 g2 g3 (nI (P + 1)) wi de (nI L1) (nI L2) ls pn f1 f2 f3 f4 f5 f8 (nI (P + 1)) dW hD h1 hW (upd (upd dr 0 (nI L1)) 1 (nI L2)) dy dq := by
  obtain ⟨⟨⟨n1, n2, n3⟩, k⟩, hs, h3, h4, h5, h8, hf⟩ := h
  obtain ⟨s1, s2, s3, s4, s5, s6⟩ := hs
  refine ⟨⟨⟨⟨rfl, rfl, by omega⟩, n2, ⟨?_, n3.2⟩⟩, k⟩, ⟨⟨?_, s1.2⟩, ⟨?_, L1, h1', rfl⟩, ⟨upd_eq _ _ _, L2, h2', rfl⟩, ⟨?_, s4.2⟩, ?_, ?_⟩, B3_u (B3_u h3 (by omega)) (by omega), B4_u (B4_u h4 (by omega)) (by omega), B4_u (B4_u h5 (by omega)) (by omega), B8_u (B8_u h8 (by omega)) (by omega), hf⟩
  · rw [upd_ne (by decide), upd_ne (by decide)]; exact n3.1
  · rw [upd_ne (by decide), upd_ne (by decide)]; exact s1.1
  · rw [upd_ne (by decide), upd_eq]
  · rw [upd_ne (by decide), upd_ne (by decide)]; exact s4.1
  · rw [upd_ne (by decide), upd_ne (by decide)]; exact s5
  · rw [upd_ne (by decide), upd_ne (by decide)]; exact s6
theorem eq_on {ta : Nat → Int32} {e : eT} {d : dT} {x : zT} {t : Nat} (hta : ∀ j, ¬ ta j < 0) (ht : t ≤ 160) (hI : kI e t) (hp8 : d_pe d < 8) (h : RR e d x) : Out ta (nI t) (lnO (k_on ta (nI t) e (d_pe d) (d_li d) (d_ba d)) d) (zZ ta (nI t) 0 (x_nx ta (nI t) x)) := by
  obtain ⟨hT, P, W, N, M1, M2, hB⟩ := h
  have hk := k_nx_g ta (nI t) e
  have hJ1 := kJ_nx (ta := ta) ht hI
  have hz : zk8 (x_nx ta (nI t) x) = zk8 x := x_nx_k _ _ _
  have h1 := nxT hta ht hI hT.1 hT.2.1
  obtain ⟨n0, n2, n3⟩ := hB.1.1.1
  have n1 : z_dP x = nI P := n0
  have hP8 : P < 8 := by rw [n2, show (8 : Int32) = nI 8 from rfl, nI_ltI (by omega) (by omega)] at hp8; exact hp8
  rw [k_on, if_pos hp8, n2, k_on1]
  obtain ⟨K, hK⟩ : ∃ K, K = k_nx ta (nI t) e := ⟨_, rfl⟩
  rw [← hK] at hk hJ1 h1 ⊢
  obtain ⟨y, hy⟩ : ∃ y, y = x_nx ta (nI t) x := ⟨_, rfl⟩
  rw [← hy] at h1 hz ⊢
  have hyP : z_dP y = nI P := (zk_dP2 hz).trans n1
  have hlo : x_lo ta (nI t) 0 y = x_one ta (nI t) y := by rw [x_lo, if_pos rfl]
  rcases h1 with ⟨a1, a2⟩ | ⟨a1, a2⟩
  rotate_left
  · rw [if_pos a1]
    exact Or.inr ⟨rfl, Z_F a2⟩
  rw [if_neg a1, k_on2]
  have hkd := r_kd_k (ta := ta) a2 hJ1 ht
  have e7 : ¬ k_nm ta K.2 7 = 0 → e_be K.2 - e_fi K.2 = nI 5 := fun q => k_nm_l q
  have e8 : ¬ k_nm ta K.2 8 = 0 → e_be K.2 - e_fi K.2 = nI 6 := fun q => k_nm_l q
  have e9 : ¬ k_nm ta K.2 9 = 0 → e_be K.2 - e_fi K.2 = nI 4 := fun q => k_nm_l q
  obtain ⟨a, ha⟩ : ∃ a, a = k_nm ta K.2 7 := ⟨_, rfl⟩
  obtain ⟨b, hb⟩ : ∃ b, b = k_nm ta K.2 8 := ⟨_, rfl⟩
  obtain ⟨c, hc⟩ : ∃ c, c = k_nm ta K.2 9 := ⟨_, rfl⟩
  rw [← ha, ← hb, ← hc] at hkd
  rw [← ha] at e7
  rw [← hb] at e8
  rw [← hc] at e9
  rw [← ha, ← hb, ← hc]
  obtain ⟨k, hke⟩ : ∃ k, k = r_kd ta (nI t) y := ⟨_, rfl⟩
  rw [← hke] at hkd
  by_cases c0 : a = 0 ∧ b = 0 ∧ c = 0
  · rw [if_pos c0]
    rw [if_pos c0.1, if_pos c0.2.2, if_pos c0.2.1] at hkd
    refine Or.inr ⟨rfl, Z_L a2.1 (l7_F ?_)⟩
    have hF := mu_0 a2 (f := 2) (by decide)
    have h1 : FF (k_bl K.2 2 (e_fi K.2)) (x_one1 ta (nI t) y) := by
      rw [x_one1, ← hke, if_pos hkd, nx_F ta (nI t) hF]; exact hF
    rw [hlo, x_one, x_one3, x_one2]
    exact FF_dP (FF_dr (FF_dr h1 _) _) _
  rw [if_neg c0]
  have hk4 : ¬ k = -4 := by
    rw [hkd]
    by_cases q7 : a = 0
    · rw [if_pos q7]
      by_cases q9 : c = 0
      · rw [if_pos q9, if_neg (fun q => c0 ⟨q7, q, q9⟩)]; decide
      · rw [if_neg q9]; decide
    · rw [if_neg q7]; decide
  have hka : ¬ a = 0 ↔ k = 0 := by
    rw [hkd]
    by_cases q7 : a = 0
    · rw [if_pos q7]
      refine ⟨fun q => absurd q7 q, fun q => ?_⟩
      by_cases q9 : c = 0
      · rw [if_pos q9] at q
        by_cases q8 : b = 0
        · rw [if_pos q8] at q; exact absurd q (by decide)
        · rw [if_neg q8] at q; exact absurd q (by decide)
      · rw [if_neg q9] at q; exact absurd q (by decide)
    · rw [if_neg q7]; exact ⟨fun _ => rfl, fun _ => q7⟩
  have hkb : ¬ b = 0 ↔ k = 2 := by
    rw [hkd]
    by_cases q7 : a = 0
    · rw [if_pos q7]
      by_cases q9 : c = 0
      · rw [if_pos q9]
        by_cases q8 : b = 0
        · rw [if_pos q8]; exact ⟨fun q => absurd q8 q, fun q => absurd q (by decide)⟩
        · rw [if_neg q8]; exact ⟨fun _ => rfl, fun _ => q8⟩
      · rw [if_neg q9]
        refine ⟨fun q => ?_, fun q => absurd q (by decide)⟩
        exact absurd ((e9 q9).symm.trans (e8 q)) (by decide)
    · rw [if_neg q7]
      refine ⟨fun q => ?_, fun q => absurd q (by decide)⟩
      exact absurd ((e7 q7).symm.trans (e8 q)) (by decide)
  have h2 := tsT hta ht (kJ_I hJ1) a2.1 a2.2.1
  have hks := k_ts_g ta (nI t) K.2
  obtain ⟨S, hS⟩ : ∃ S, S = k_ts ta (nI t) K.2 := ⟨_, rfl⟩
  rw [← hS] at h2 hks ⊢
  obtain ⟨⟨s2, L1, hL1, hl1⟩, ⟨s3, L2, hL2, hl2⟩⟩ := And.intro hB.2.1.2.1 hB.2.1.2.2.1
  have s2 : z_dr x 0 = d_li d := s2
  have s3 : z_dr x 1 = d_ba d := s3
  obtain ⟨L1', q1, q2, q3⟩ := wb_flg hP8 hL1 hka
  obtain ⟨L2', p1, p2, p3⟩ := wb_flg hP8 hL2 hkb
  rw [hl1, hl2, k_on3, q2, p2, nI_1]
  have hone1 : x_one1 ta (nI t) y = x_nx ta (nI t) y := by rw [x_one1, ← hke, if_neg hk4, mu_1]
  have hdn : z_dr (x_nx ta (nI t) y) = z_dr x := by rw [zk_dr (x_nx_k ta (nI t) y), zk_dr hz]
  have hPn : z_dP (x_nx ta (nI t) y) = nI P := by rw [zk_dP2 (x_nx_k ta (nI t) y), hyP]
  obtain ⟨A, hA⟩ : ∃ A, A = x_nx ta (nI t) y := ⟨_, rfl⟩
  have hzA : zk8 A = zk8 x := by rw [hA, x_nx_k, hz]
  rw [← hA] at hone1 hdn hPn h2
  have hx2 : x_one2 k A = u_dr A (upd (z_dr x) 0 (nI L1')) := by rw [x_one2, hdn, hPn, s2, hl1, q3]
  have hx3 : x_lo ta (nI t) 0 y = u_dP (u_dr (u_dr A (upd (z_dr x) 0 (nI L1'))) (upd (upd (z_dr x) 0 (nI L1')) 1 (nI L2'))) (nI (P + 1)) := by
    rw [hlo, x_one, hone1, ← hke, hx2, x_one3]
    have f1 : z_dr (u_dr A (upd (z_dr x) 0 (nI L1'))) = upd (z_dr x) 0 (nI L1') := rfl
    have f2 : z_dP (u_dr A (upd (z_dr x) 0 (nI L1'))) = nI P := hPn
    rw [f1, f2, upd_ne (by decide), s3, hl2, p3, nI_1]
  have hx : x_l7 (x_lo ta (nI t) 0 y) = u_dP (u_dr (u_dr (x_l7 A) (upd (z_dr x) 0 (nI L1'))) (upd (upd (z_dr x) 0 (nI L1')) 1 (nI L2'))) (nI (P + 1)) := by rw [hx3, l7_dP, l7_dr, l7_dr]
  rcases h2 with ⟨b1, b2⟩ | ⟨b1, b2⟩
  · refine Or.inl ⟨b1, _, ⟨?_, P + 1, W, N, M1, M2, ?_⟩, Z_O a2.1⟩
    · rw [hx]
      exact TT_dP (TT_dr (TT_dr b2 _) _) _
    · rw [hx, zk_dP, zk_dr1, zk_dr1, l7_k, hzA]
      show BB (P + 1) W N M1 M2 (e_g S.2) (nI (P + 1), d.2.1, d.2.2.1, nI L1', nI L2', d.2.2.2.2.2) _
      rw [hks, hk]
      exact BB_on hP8 q1 p1 hB
  · refine Or.inr ⟨b1, Z_L a2.1 ?_⟩
    rw [hx]
    exact FF_dP (FF_dr (FF_dr b2 _) _) _
/-! a line -/
theorem l4_n {k : Int32} {x : zT} (hk4 : ¬ k = -4) (hk5 : ¬ k = 5) (hf : r_full k x = 0) (hD : z_hD x = 0 ∨ z_hD x = 1) : x_l4 k x = x := by
  rw [x_l4, x_l3, x_l2, x_l1, if_neg hk4, mu_1, if_pos hf, mu_1, if_neg hk5, mu_1, if_neg hk5]
  rcases hD with h | h
  · rw [if_pos h, ← h]; rfl
  · rw [if_neg (by rw [h]; decide), ← h]; rfl
theorem l4_5 {x : zT} (hf : r_full 5 x = 0) (hD : z_hD x = 0) : x_l4 5 x = u_hD x 1 := by
  rw [x_l4, x_l3, x_l2, x_l1, if_neg (by decide), mu_1, if_pos hf, mu_1, if_pos rfl, if_pos hD, mu_1, if_pos rfl, if_pos hD]
theorem l4_full {e : eT} {k : Int32} {x : zT} (hT : TT e x) (hk4 : ¬ k = -4) (hf : ¬ r_full k x = 0) : FF (k_bl e 5 (e_fi e)) (x_l4 k x) := by
  have hF := mu_0 hT (f := 5) (by decide)
  rw [x_l4, x_l3, x_l2, x_l1, if_neg hk4, mu_1, if_neg hf, mu_F hF]
  exact FF_hD hF _
theorem l4_tw {e : eT} {x : zT} (hT : TT e x) (hf : r_full 5 x = 0) (hD : ¬ z_hD x = 0) : FF (k_bl e 4 (e_fi e)) (x_l4 5 x) := by
  have hF := mu_0 hT (f := 4) (by decide)
  rw [x_l4, x_l3, x_l2, x_l1, if_neg (by decide), mu_1, if_pos hf, mu_1, if_pos rfl, if_neg hD]
  exact FF_hD hF _
theorem l4_no {e : eT} {x : zT} (hT : TT e x) : FF (k_bl e 2 (e_fi e)) (x_l4 (-4) x) := by
  have hF := mu_0 hT (f := 2) (by decide)
  rw [x_l4, x_l3, x_l2, x_l1, if_pos rfl, mu_F hF, mu_F hF]
  exact FF_hD hF _
theorem full_0 (x : zT) : r_full 0 x = if z_dP x = 8 then 1 else 0 := by
  rw [r_full]
  by_cases c : z_dP x = 8
  · rw [if_pos c, if_pos ⟨rfl, c⟩]
  · rw [if_neg c, if_neg (fun q => c q.2), if_neg (fun q => absurd q.1 (by decide)), if_neg (fun q => absurd q.1 (by decide))]
theorem full_1 (x : zT) : r_full 1 x = if z_dW x = 8 then 1 else 0 := by
  rw [r_full, if_neg (fun q => absurd q.1 (by decide))]
  by_cases c : z_dW x = 8
  · rw [if_pos c, if_pos ⟨rfl, c⟩]
  · rw [if_neg c, if_neg (fun q => c q.2), if_neg (fun q => absurd q.1 (by decide))]
theorem full_6 (x : zT) : r_full 6 x = if z_dr x 29 = 6 then 1 else 0 := by
  rw [r_full, if_neg (fun q => absurd q.1 (by decide)), if_neg (fun q => absurd q.1 (by decide))]
  by_cases c : z_dr x 29 = 6
  · rw [if_pos c, if_pos ⟨rfl, c⟩]
  · rw [if_neg c, if_neg (fun q => c q.2)]
theorem full_n {k : Int32} (x : zT) (h0 : ¬ k = 0) (h1 : ¬ k = 1) (h6 : ¬ k = 6) : r_full k x = 0 := by
  rw [r_full, if_neg (fun q => h0 q.1), if_neg (fun q => h1 q.1), if_neg (fun q => h6 q.1)]
theorem ge_eq {v : Int32} {n m : Nat} (hv : v = nI n) (hn : n ≤ m) (hm : m < 1000) : (v < nI m ↔ ¬ v = nI m) := by
  rw [hv, nI_ltI (by omega) (by omega), nI_eq (by omega) (by omega)]
  omega
theorem line_eq {ta : Nat → Int32} {e : eT} {d : dT} {x : zT} {t : Nat} (hta : ∀ j, ¬ ta j < 0) (ht : t ≤ 160) (hJ : kJ e t) (h : RR e d x) : Out ta (nI t) (k_ln ta (nI t) e d) (x_line ta (nI t) x) := by
  have hI := kJ_I hJ
  have h' := h
  obtain ⟨hT, P, W, N, M1, M2, hB⟩ := h'
  have hD0 : z_hD x = e_dt e := hB.1.2.1.1
  have hD : z_hD x = 0 ∨ z_hD x = 1 := by rw [hD0]; exact hB.1.2.1.2
  rw [line_Z, r_ln_k hT hJ ht]
  have F : ∀ (e2 : eT) (k : Int32) (d2 : dT), FF e2 (x_l4 k x) → Out ta (nI t) (0, e2, d2) (zZ ta (nI t) k (x_nx ta (nI t) (x_l4 k x))) := by
    intro e2 k d2 hF
    refine Or.inr ⟨rfl, Z_F ?_⟩
    rw [nx_F ta (nI t) hF]; exact hF
  unfold k_ln
  by_cases c0 : k_nm ta e 0 = 0
  rotate_left
  · rw [if_neg c0, if_neg c0]
    obtain ⟨n0, n2, n3⟩ := hB.1.1.1
    have n1 : z_dP x = nI P := n0
    by_cases c : d_pe d < 8
    · rw [l4_n (by decide) (by decide) (by rw [full_0, if_neg]; rw [n1, ← n2]; exact (ge_eq (m := 8) n2 n3 (by decide)).mp c) hD]
      exact eq_on hta ht hI c h
    · rw [k_on, if_neg c]
      refine F _ 0 _ (l4_full hT (by decide) ?_)
      rw [full_0, if_pos (by rw [n1, ← n2]; exact Classical.not_not.mp (fun z => c ((ge_eq (m := 8) n2 n3 (by decide)).mpr z)))]
      decide
  rw [if_pos c0, if_pos c0]
  unfold k_l1
  by_cases c1 : k_nm ta e 1 = 0
  rotate_left
  · rw [if_neg c1, if_neg c1]
    obtain ⟨n0, n2, n3⟩ := hB.1.1.2.1
    have n1 : z_dW x = nI W := n0
    by_cases c : d_wi d < 8
    · rw [l4_n (by decide) (by decide) (by rw [full_1, if_neg]; rw [n1, ← n2]; exact (ge_eq (m := 8) n2 n3 (by decide)).mp c) hD]
      exact eq_wi hta ht hI c h
    · rw [k_wi, if_neg c]
      refine F _ 1 _ (l4_full hT (by decide) ?_)
      rw [full_1, if_pos (by rw [n1, ← n2]; exact Classical.not_not.mp (fun z => c ((ge_eq (m := 8) n2 n3 (by decide)).mpr z)))]
      decide
  rw [if_pos c1, if_pos c1]
  unfold k_l2
  by_cases c2 : k_nm ta e 2 = 0
  rotate_left
  · rw [if_neg c2, if_neg c2, l4_n (by decide) (by decide) (full_n x (by decide) (by decide) (by decide)) hD]
    exact eq_nd hta ht hI h
  rw [if_pos c2, if_pos c2]
  unfold k_l3
  by_cases c3 : k_nm ta e 3 = 0
  rotate_left
  · rw [if_neg c3, if_neg c3, l4_n (by decide) (by decide) (full_n x (by decide) (by decide) (by decide)) hD]
    exact eq_cl hta ht hI h
  rw [if_pos c3, if_pos c3]
  unfold k_l4
  by_cases c4 : k_nm ta e 4 = 0
  rotate_left
  · rw [if_neg c4, if_neg c4, l4_n (by decide) (by decide) (full_n x (by decide) (by decide) (by decide)) hD]
    exact eq_li hta ht hI h
  rw [if_pos c4, if_pos c4]
  unfold k_l5
  by_cases c5 : k_nm ta e 5 = 0
  rotate_left
  · rw [if_neg c5, if_neg c5]
    have hf5 := full_n (k := 5) x (by decide) (by decide) (by decide)
    by_cases c : e_dt e = 0
    · rw [l4_5 hf5 (hD0.trans c)]
      exact eq_de hta ht hI c h
    · rw [k_de, if_neg c]
      exact F _ 5 _ (l4_tw hT hf5 (fun q => c (hD0.symm.trans q)))
  rw [if_pos c5, if_pos c5]
  unfold k_l6
  by_cases c6 : k_nm ta e 6 = 0
  rotate_left
  · rw [if_neg c6, if_neg c6]
    obtain ⟨n0, n2, n3⟩ := hB.1.1.2.2
    have n1 : z_dr x 29 = nI N := n0
    by_cases c : d_pn d < 6
    · rw [l4_n (by decide) (by decide) (by rw [full_6, if_neg]; rw [n1, ← n2]; exact (ge_eq (m := 6) n2 n3 (by decide)).mp c) hD]
      exact eq_pl hta ht hI c h
    · rw [k_pl, if_neg c]
      refine F _ 6 _ (l4_full hT (by decide) ?_)
      rw [full_6, if_pos (by rw [n1, ← n2]; exact Classical.not_not.mp (fun z => c ((ge_eq (m := 6) n2 n3 (by decide)).mpr z)))]
      decide
  rw [if_pos c6, if_pos c6]
  exact F _ (-4) _ (l4_no hT)

/-! ===== the two readers: a wish, a one ===== -/
def WlOut (w M1 : Nat) (g : Int32 × Int32 × Int32) (f dr : Nat → Int32) (q : qT) (R : Int32 × eT × (Nat → Int32)) (z : zT) : Prop :=
  (¬ R.1 = 0 ∧ TT R.2.1 (x_l7 z) ∧ ∃ O', O' < 256 ∧ R.2.2 = upd f w (nI O') ∧ zk8 z = qs_dr (qs_h1 q (hN (M1 ||| O'))) (upd dr (2 + w) (nI O')) ∧ e_g R.2.1 = g) ∨ (R.1 = 0 ∧ FF R.2.1 (x_l7 z))
theorem wlS_ok {e : eT} {y : zT} {w j : Nat} (hT : TT e y) (hlk : x_lk y 0 7 = y) (hr : r_lk y 0 7 = nI j) (c : p_hb (z_dr y (2 + w)) (nI j) = 0) : x_wlS w y = u_h1 (u_dr y (upd (z_dr y) (2 + w) (z_dr y (2 + w) ||| ((1 : Int32) <<< (nI j &&& 31))))) (if z_h1 y < nI j then nI j else z_h1 y) := by
  rw [x_wlS, hlk, if_pos hT.1, hr, if_pos c, mu_1]
  by_cases h : z_h1 y < nI j
  · rw [if_pos h, if_pos h]
  · rw [if_neg h, if_neg h]; rfl
theorem wlS_no {e : eT} {y : zT} {w j : Nat} (hT : TT e y) (hlk : x_lk y 0 7 = y) (hr : r_lk y 0 7 = nI j) (c : ¬ p_hb (z_dr y (2 + w)) (nI j) = 0) : FF (k_bl e 4 (e_fi e)) (x_wlS w y) := by
  have hF := mu_0 hT (f := 4) (by decide)
  rw [x_wlS, hlk, if_pos hT.1, hr, if_neg c]
  by_cases h : z_h1 y < nI j
  · rw [if_pos h]
    exact FF_h1 (FF_dr hF _) _
  · rw [if_neg h]
    exact FF_dr hF _
theorem wlS_F {e : eT} {y : zT} {w : Nat} (h : FF e (x_lk y 0 7)) : FF e (x_wlS w y) := by
  rw [x_wlS, if_neg (FF_n0 h)]
  exact h
theorem wl_loop {ta : Nat → Int32} {t w : Nat} (hta : ∀ j, ¬ ta j < 0) (ht : t ≤ 160) (hw : w < 8) (q : qT) (dr : Nat → Int32) (g : Int32 × Int32 × Int32) {M0 : Nat} (hM0 : M0 < 256) (f0 : Nat → Int32) : ∀ (k f2 O : Nat) (e : eT) (f : Nat → Int32) (x : zT), k ≤ f2 → k ≤ 9 → O < 256 → 9 ≤ bN O + k → kI e t → z_fa x = 0 → z_po x = e_be e → f = upd f0 w (nI O) → zk8 x = qs_dr (qs_h1 q (hN (M0 ||| O))) (upd dr (2 + w) (nI O)) → e_g e = g → WlOut w M0 g f0 dr q (k_os ta (nI t) (nI w) k e f) (x_wl ta (nI t) w f2 (x_nx ta (nI t) x)) := by
  intro k
  induction k with
  | zero =>
    intro f2 O e f x hk hk9 hO hb
    have := (bN_up O hO).1
    omega
  | succ k ih =>
    intro f2 O e f x hk hk9 hO hb hI hf0 hp hf hz hg
    have h1 := tn1 hta ht hI hf0 hp
    have hkg := k_tn_g ta (nI t) e 7 1
    have kI1 := kI_tn (ta := ta) ht hI 7 1
    have hwc : (nI w).toNatClampNeg = w := nI_clamp (by omega)
    have hfw : f w = nI O := by rw [hf, upd_eq]
    rw [k_os, hwc, hfw]
    obtain ⟨K, hK⟩ : ∃ K, K = k_tn ta (nI t) e 7 1 := ⟨_, rfl⟩
    obtain ⟨y, hy⟩ : ∃ y, y = x_nx ta (nI t) x := ⟨_, rfl⟩
    have hzy : zk8 y = zk8 x := by rw [hy]; exact x_nx_k _ _ _
    rw [← hK, ← hy] at h1
    rw [← hK] at hkg kI1
    rw [← hK, ← hy]
    rcases h1 with ⟨a1, a2, a3⟩ | ⟨a1, a2, a3, a4, a5, j, a6, a7, a8⟩ | ⟨a1, a2⟩ | ⟨a1, a0, a2, a3⟩ | ⟨a1, a0, a2, a3⟩
    · rw [if_neg a1, if_pos a2, wl_x (Or.inr (by rw [a3.2.2.2.1, a2]; decide))]
      refine Or.inl ⟨d10, ?_, O, hO, hf, by rw [hzy, hz], hkg.trans hg⟩
      rw [x_l7, if_pos (a3.2.2.2.1.trans a2), mu_1]
      exact a3
    · rw [if_neg a1, if_neg a2, a7]
      have hM256 : M0 ||| O < 256 := or_lt8 hM0 hO
      have hdr2 : z_dr y = upd dr (2 + w) (nI O) := by
        have := congrArg q_dr (hzy.trans hz)
        exact this
      have hdry : z_dr y (2 + w) = nI O := by rw [hdr2, upd_eq]
      have hh1y : z_h1 y = hN (M0 ||| O) := by
        have := congrArg (fun q : qT => q.2.2.2.1) (hzy.trans hz)
        exact this
      obtain ⟨f3, hf3⟩ : ∃ f3, f2 = f3 + 1 := ⟨f2 - 1, by omega⟩
      rw [hf3, x_wl, if_pos a3.1, if_pos a4]
      by_cases c : p_hb (nI O) (nI j) = 0
      · rw [if_pos c]
        have hS := wlS_ok (w := w) a3 a5 a8 (by rw [hdry]; exact c)
        rw [hh1y, hN_or2 hM256 a6, hdry, or_shl rfl a6, hdr2, upd_upd] at hS
        have hOj : O ||| 2 ^ j < 256 := or_lt8 hO (p2_lt8 a6)
        have hkup : k_up f (nI w) (nI j) = upd f0 w (nI (O ||| 2 ^ j)) := by rw [k_up, hwc, hfw, or_shl rfl a6, hf, upd_upd]
        have IH := ih f3 (O ||| 2 ^ j) K.2 (k_up f (nI w) (nI j)) (u_h1 (u_dr y (upd dr (2 + w) (nI (O ||| 2 ^ j)))) (hN (M0 ||| O ||| 2 ^ j))) (by omega) (by omega) hOj (by have := (bN_up O hO).2 j a6 c; omega) kI1 a3.1 a3.2.1 hkup (by rw [zk_h1, zk_dr1, hzy, hz, Nat.or_assoc]; rfl) (hkg.trans hg)
        rw [hS]
        exact IH
      · rw [if_neg c]
        have hF := wlS_no (w := w) a3 a5 a8 (by rw [hdry]; exact c)
        have hF2 : FF (k_bl K.2 4 (e_fi K.2)) (x_nx ta (nI t) (x_wlS w y)) := by rw [nx_F ta (nI t) hF]; exact hF
        rw [wl_x (Or.inl (FF_n0 hF2))]
        exact Or.inr ⟨rfl, l7_F hF2⟩
    · rw [if_pos a1, wl_x (Or.inl (FF_n0 a2))]
      exact Or.inr ⟨rfl, l7_F a2⟩
    · rw [if_pos a1]
      obtain ⟨f3, hf3⟩ : ∃ f3, f2 = f3 + 1 := ⟨f2 - 1, by omega⟩
      rw [hf3, x_wl, if_pos a0, if_pos a2]
      have hF := wlS_F (w := w) a3
      have hF2 : FF K.2 (x_nx ta (nI t) (x_wlS w y)) := by rw [nx_F ta (nI t) hF]; exact hF
      rw [wl_x (Or.inl (FF_n0 hF2))]
      exact Or.inr ⟨rfl, l7_F hF2⟩
    · rw [if_pos a1, wl_x (Or.inr a2)]
      exact Or.inr ⟨rfl, a3⟩
theorem BB_wi {P W N M1 M2 o j1 j2 : Nat} {g1 g2 g3 pe wi de li ba ls pn : Int32} {f1 f2 f3 f4 f5 f8 : Nat → Int32} {dP dW hD h1 hW : Int32} {dr dy dq : Nat → Int32} (hW8 : W < 8) (hj1 : j1 ≤ 9) (hj2 : j2 ≤ 9) (hb : M1 ||| o < 256) (h : BBf P W N M1 M2 g1 g2 g3 pe wi de li ba ls pn f1 f2 f3 f4 f5 f8 dP dW hD h1 hW dr dy dq) : BBf P (W + 1) N (M1 ||| o) M2 g1 (nI (M1 ||| o)) g3 pe (nI (W + 1)) de li ba ls pn (upd f1 W (nI j1)) (upd f2 W (nI j2)) (upd f3 W (nI o)) f4 f5 f8 dP (nI (W + 1)) hD (hN (M1 ||| o)) hW (upd dr (2 + W) (nI o)) (upd dy W (nI j1)) (upd dq W (nI j2)) := by
  obtain ⟨⟨⟨n1, n2, n3⟩, ⟨k1, k2, k3⟩⟩, hs, h3, h4, h5, h8, hf⟩ := h
  refine ⟨⟨⟨n1, ⟨rfl, rfl, by omega⟩, ⟨?_, n3.2⟩⟩, ⟨k1, ⟨rfl, hb, rfl⟩, k3⟩⟩, Bs_u hs (by omega), fun i hi => ?_, B4_u h4 (by omega), B4_u h5 (by omega), B8_u h8 (by omega), fun i hi => ?_⟩
  · rw [upd_ne (by omega)]; exact n3.1
  · by_cases c : i = W
    · rw [c, upd_eq, upd_eq]
      exact ⟨rfl, o, rfl, or_me _ _, fun q => by omega⟩
    · rw [upd_ne (by omega), upd_ne c]
      obtain ⟨q1, oo, q2, q3, q4⟩ := h3 i hi
      exact ⟨q1, oo, q2, or_up q3, fun q => q4 (by omega)⟩
  · by_cases c : i = W
    · rw [c, upd_eq, upd_eq, upd_eq, upd_eq]
      exact ⟨⟨rfl, rfl⟩, ⟨j1, hj1, rfl⟩, ⟨j2, hj2, rfl⟩⟩
    · rw [upd_ne c, upd_ne c, upd_ne c, upd_ne c]
      exact hf i (by omega)
theorem zk_dy2 {x y : zT} (h : zk8 x = zk8 y) : z_dy x = z_dy y := congrArg (fun z => z.2.2.2.2.2.2.1) h
theorem zk_dq2 {x y : zT} (h : zk8 x = zk8 y) : z_dq x = z_dq y := congrArg (fun z => z.2.2.2.2.2.2.2) h
theorem zk_h12 {x y : zT} (h : zk8 x = zk8 y) : z_h1 x = z_h1 y := congrArg (fun z => z.2.2.2.1) h
theorem zk_dP2 {x y : zT} (h : zk8 x = zk8 y) : z_dP x = z_dP y := congrArg (fun z => z.1) h
theorem zk_hD2 {x y : zT} (h : zk8 x = zk8 y) : z_hD x = z_hD y := congrArg (fun z => z.2.2.1) h
theorem eq_wi {ta : Nat → Int32} {e : eT} {d : dT} {x : zT} {t : Nat} (hta : ∀ j, ¬ ta j < 0) (ht : t ≤ 160) (hI : kI e t) (hw8 : d_wi d < 8) (h : RR e d x) : Out ta (nI t) (lnW (k_wi ta (nI t) e (d_wi d) (d_f1 d) (d_f2 d) (d_f3 d)) d) (zZ ta (nI t) 1 (x_nx ta (nI t) x)) := by
  obtain ⟨hT, P, W, N, M1, M2, hB⟩ := h
  have hk := k_tn_g ta (nI t) e 9 0
  have kI1 := kI_tn (ta := ta) ht hI 9 0
  have hz : zk8 (x_nx ta (nI t) x) = zk8 x := x_nx_k _ _ _
  have h1 := tn3 (m := 9) hta ht (by decide) hI hT.1 hT.2.1
  obtain ⟨n0, n2, n3⟩ := hB.1.1.2.1
  have n1 : z_dW x = nI W := n0
  have hW8 : W < 8 := by rw [n2, show (8 : Int32) = nI 8 from rfl, nI_ltI (by omega) (by omega)] at hw8; exact hw8
  have hWc : (nI W).toNatClampNeg = W := nI_clamp (by omega)
  rw [k_wi, if_pos hw8, n2]
  obtain ⟨K, hK⟩ : ∃ K, K = k_tn ta (nI t) e 9 0 := ⟨_, rfl⟩
  rw [show (nI 9 : Int32) = 9 from rfl, ← hK] at h1
  rw [← hK] at hk kI1 ⊢
  obtain ⟨y, hy⟩ : ∃ y, y = x_nx ta (nI t) x := ⟨_, rfl⟩
  rw [← hy] at h1 hz ⊢
  have hyW : z_dW y = nI W := (zk_dW hz).trans n1
  have hlo : x_lo ta (nI t) 1 y = x_wi ta (nI t) y := by rw [x_lo, if_neg (by decide), if_pos rfl]
  rw [k_wi1, hWc]
  have Fo : ∀ e2, FF e2 (x_wi2 ta (nI t) W (x_wi1 ta (nI t) y)) → z_fa y = 0 → FF e2 (zZ ta (nI t) 1 y) := by
    intro e2 b h0
    refine Z_L h0 (l7_F ?_)
    rw [hlo, x_wi, hyW, hWc, wl_x (Or.inl (FF_n0 b)), x_wi3]
    exact FF_dW b _
  rcases h1 with ⟨a1, a2, a3, j1, a4, a5, a6⟩ | ⟨a1, a2⟩ | ⟨a1, a0, a2⟩
  rotate_left
  · rw [if_pos a1]
    exact Or.inr ⟨rfl, Z_F a2⟩
  · rw [if_pos a1]
    refine Or.inr ⟨rfl, Fo _ ?_ a0⟩
    have b : FF K.2 (x_wi1 ta (nI t) y) := by
      rw [x_wi1]
      refine FF_dy ?_ _
      rw [nx_F ta (nI t) a2]; exact a2
    rw [x_wi2, lk_F b, nx_F ta (nI t) b]
    exact FF_dq b _
  rw [if_neg a1, a5]
  obtain ⟨D1, hD1⟩ : ∃ D1, D1 = upd (z_dy x) W (nI j1) := ⟨_, rfl⟩
  have e1 : x_wi1 ta (nI t) y = x_nx ta (nI t) (u_dy y D1) := by
    rw [x_wi1, a3, a6, hyW, hWc, nx_dy, hD1, zk_dy2 (x_nx_k ta (nI t) y), zk_dy2 hz]
  have hk2 := k_tn_g ta (nI t) K.2 9 0
  have kI2 := kI_tn (ta := ta) ht kI1 9 0
  have h2 := tnT (m := 9) (x := u_dy y D1) hta ht (by decide) kI1 a2.1 a2.2.1
  obtain ⟨K2, hK2⟩ : ∃ K2, K2 = k_tn ta (nI t) K.2 9 0 := ⟨_, rfl⟩
  rw [show (nI 9 : Int32) = 9 from rfl, ← hK2, ← e1] at h2
  rw [← hK2] at hk2 kI2 ⊢
  obtain ⟨y1, hy1⟩ : ∃ y1, y1 = x_wi1 ta (nI t) y := ⟨_, rfl⟩
  have hz1 : zk8 y1 = qs_dy (zk8 x) D1 := by rw [hy1, e1, x_nx_k, zk_dy, hz]
  rw [← hy1] at h2 Fo
  rw [k_wi2, hWc]
  rcases h2 with ⟨c1, c2, c3, j2, c4, c5, c6⟩ | ⟨c1, c2⟩
  rotate_left
  · rw [if_pos c1]
    refine Or.inr ⟨rfl, Fo _ ?_ a2.1⟩
    rw [x_wi2, nx_F ta (nI t) c2]
    exact FF_dq c2 _
  rw [if_neg c1, c5]
  obtain ⟨D2, hD2⟩ : ∃ D2, D2 = upd (z_dq x) W (nI j2) := ⟨_, rfl⟩
  have hdq1 : z_dq y1 = z_dq x := by
    have := congrArg (fun q : qT => q.2.2.2.2.2.2.2) hz1
    exact this
  have e2 : x_wi2 ta (nI t) W y1 = x_nx ta (nI t) (u_dq y1 D2) := by
    rw [x_wi2, c3, c6, nx_dq, hD2, zk_dq2 (x_nx_k ta (nI t) y1), hdq1]
  obtain ⟨hf3, o0, ho, hoM, hoW⟩ := hB.2.2.1 W hW8
  have hf3 : z_dr x (2 + W) = d_f3 d W := hf3
  have ho0 := hoW (Nat.le_refl W)
  subst ho0
  have hM1 : M1 < 256 := hB.1.2.2.1.2.1
  have hh1 : z_h1 x = hN M1 := hB.1.2.2.1.2.2
  have L := wl_loop (q := qs_dq (qs_dy (zk8 x) D1) D2) (dr := z_dr x) (g := e_g e) (M0 := M1) hta ht hW8 hM1 (d_f3 d) 9 161 0 K2.2 (d_f3 d) (u_dq y1 D2) (by decide) (by decide) (by decide) (by decide) kI2 c2.1 c2.2.1 (upd_I2 ho).symm (by
    rw [zk_dq, hz1, Nat.or_zero, upd_I2 (hf3.trans ho), ← hh1]; rfl) (hk2.trans hk)
  obtain ⟨R, hR⟩ : ∃ R, R = k_os ta (nI t) (nI W) 9 K2.2 (d_f3 d) := ⟨_, rfl⟩
  rw [← e2, ← hR] at L
  rw [← hR, k_wi3, hWc]
  obtain ⟨Z, hZ⟩ : ∃ Z, Z = x_wl ta (nI t) W 161 (x_wi2 ta (nI t) W y1) := ⟨_, rfl⟩
  rw [← hZ] at L
  have hx : x_l7 (x_lo ta (nI t) 1 y) = u_dW (x_l7 Z) (z_dW Z + 1) := by rw [hlo, x_wi, hyW, hWc, ← hy1, ← hZ, x_wi3, l7_dW]
  rcases L with ⟨b1, b2, O', hO', b3, b4, b5⟩ | ⟨b1, b2⟩
  · rw [if_neg b1]
    refine Or.inl ⟨d10, _, ⟨?_, P, W + 1, N, M1 ||| O', M2, ?_⟩, Z_O a2.1⟩
    · rw [hx]
      exact TT_dW b2 _
    · have hZW : z_dW Z = nI W := by
        have : z_dW Z = z_dW x := congrArg (fun q : qT => q.2.1) b4
        exact this.trans n1
      have hon : e_on R.2.1 ||| R.2.2 W = nI (M1 ||| O') := by
        have : e_on R.2.1 = nI M1 := (congrArg (fun g : Int32 × Int32 × Int32 => g.2.1) b5).trans hB.1.2.2.1.1
        rw [this, b3, upd_eq, lt8_orI]
      rw [hx, zk_dW1, l7_k, b4, hZW, nI_1, hon, b3]
      show BB P (W + 1) N (M1 ||| O') M2 ((e_g R.2.1).1, nI (M1 ||| O'), (e_g R.2.1).2.2) (d.1, nI (W + 1), d.2.2.1, d.2.2.2.1, d.2.2.2.2.1, d.2.2.2.2.2.1, d.2.2.2.2.2.2.1, upd (d_f1 d) W (nI j1), upd (d_f2 d) W (nI j2), upd (d_f3 d) W (nI O'), d.2.2.2.2.2.2.2.2.2.2) _
      rw [b5, hD1, hD2]
      exact BB_wi hW8 a4 c4 (or_lt8 hM1 hO') hB
  · rw [if_pos b1]
    refine Or.inr ⟨rfl, Z_L a2.1 ?_⟩
    rw [hx]
    exact FF_dW b2 _

/-! ===== WishClerkModel: a line of wish, needs, clash ===== -/
/-- a loop over numbers comes to its end -/
theorem x_nx_num {ta : Nat → Int32} {x : zT} {t f : Nat} (h2 : t ≤ 160) (hJ : zJ x t) (hp : ∃ p, z_po x = nI p ∧ p ≤ t ∧ t < f + 1 + p) : z_fa (x_nx ta (nI t) x) = 0 → z_so (x_nx ta (nI t) x) = 2 → ∃ p, z_po (x_nx ta (nI t) x) = nI p ∧ p ≤ t ∧ t < f + p := by
  intro h1 h3
  obtain ⟨p, hp1, hp2, hp3⟩ := hp
  by_cases hf : 0 < z_fa x
  · rw [x_nx_f _ _ hf] at h1
    rw [h1] at hf
    exact absurd hf (by decide)
  · have k := (x_nx_K (ta := ta) h2 (lo := p) ⟨p, hp1, Nat.le_refl _, hp2⟩ hf).2 (by rw [h3]; decide)
    obtain ⟨p', e1, e2, e3⟩ := k
    exact ⟨p', e1, e3, by omega⟩
def x_wlS (w : Nat) (x : zT) : zT :=
  if z_fa (x_lk x 0 7) = 0 then
    (if z_h1 x < r_lk x 0 7 then u_h1 (u_dr (x_mu x (if p_hb (z_dr x (2 + w)) (r_lk x 0 7) = 0 then 1 else 0) 4) (upd (z_dr x) (2 + w) (z_dr x (2 + w) ||| ((1 : Int32) <<< (r_lk x 0 7 &&& 31))))) (r_lk x 0 7)
     else u_dr (x_mu x (if p_hb (z_dr x (2 + w)) (r_lk x 0 7) = 0 then 1 else 0) 4) (upd (z_dr x) (2 + w) (z_dr x (2 + w) ||| ((1 : Int32) <<< (r_lk x 0 7 &&& 31)))))
  else x_lk x 0 7
def x_wl (ta : Nat → Int32) (ln : Int32) (w : Nat) : Nat → zT → zT
  | 0, x => x
  | f + 1, x => if z_fa x = 0 then (if z_so x = 2 then x_wl ta ln w f (x_nx ta ln (x_wlS w x)) else x) else x
def x_wi1 (ta : Nat → Int32) (ln : Int32) (x : zT) : zT := u_dy (x_nx ta ln (x_lk x 0 9)) (upd (z_dy (x_nx ta ln (x_lk x 0 9))) (z_dW x).toNatClampNeg (r_lk x 0 9))
def x_wi2 (ta : Nat → Int32) (ln : Int32) (w : Nat) (x : zT) : zT := u_dq (x_nx ta ln (x_lk x 0 9)) (upd (z_dq (x_nx ta ln (x_lk x 0 9))) w (r_lk x 0 9))
def x_wi3 (x : zT) : zT := u_dW x (z_dW x + 1)
def x_wi (ta : Nat → Int32) (ln : Int32) (x : zT) : zT := x_wi3 (x_wl ta ln (z_dW x).toNatClampNeg 161 (x_wi2 ta ln (z_dW x).toNatClampNeg (x_wi1 ta ln x)))
theorem x_mu_h1 (x : zT) (b f : Int32) : z_h1 (x_mu x b f) = z_h1 x := by
  unfold x_mu
  split
  · split <;> rfl
  · rfl
theorem x_wlS_J {w : Nat} {x : zT} {t : Nat} (h : zJ x t) : zJ (x_wlS w x) t ∧ z_po (x_wlS w x) = z_po x := by
  have h1 : zJ (x_mu x (if p_hb (z_dr x (2 + w)) (r_lk x 0 7) = 0 then 1 else 0) 4) t := zJ_mu h _ _
  have h2 : z_po (x_mu x (if p_hb (z_dr x (2 + w)) (r_lk x 0 7) = 0 then 1 else 0) 4) = z_po x := x_mu_po _ _ _
  have h3 : z_po (x_lk x 0 7) = z_po x := by rw [x_lk, x_mu_po, x_lk1, x_mu_po]
  unfold x_wlS
  obtain ⟨y, hy⟩ : ∃ y, y = x_mu x (if p_hb (z_dr x (2 + w)) (r_lk x 0 7) = 0 then 1 else 0) 4 := ⟨_, rfl⟩
  rw [← hy] at h1 h2 ⊢
  split
  · split
    · exact ⟨h1, h2⟩
    · exact ⟨h1, h2⟩
  · exact ⟨x_lk_J h _ _, h3⟩
def c_X6_readWish : sCtr := ((yX6_readWish, cX6_readWish, 3, none), (7, 0, 3, 70), false,
  mdfp,
  fun vs L => ∃ (s : Nat → Int32) (A : Nat → Nat → Int32) (x : zT) (t w : Nat), vs = [.ref 0] ∧ L = mdZ s A x ∧ s 15 = nI t ∧ t ≤ 160 ∧ zJ x t ∧ z_dW x = nI w ∧ w < 8,
  fun _ L r L' => r = none ∧ L' = mdR L (x_wi (bF L 8) (oI L 0 15) (rX L)))
theorem sta_X6_readWish : s_Sta c_X6_readWish := ⟨⟨by decide +kernel, by decide +kernel, by decide +kernel⟩, List.mem_of_getElem? (i := 982) (by decide +kernel), List.mem_of_getElem? (i := 70) (by decide +kernel), ⟨List.mem_of_getElem? (i := 981) (by decide +kernel), List.mem_of_getElem? (i := 39) (by decide +kernel), Or.inl ⟨_, rfl, rfl⟩⟩⟩

def k_X6_readWish : List sBk := [
  (0, false, [true, false, false], [o0 0 (.aload_n 0), oN 1 (.getfield 69) [6, 8, 830], o0 4 (.istore_n 1), o0 5 (.aload_n 0), oN 6 (.getfield 26) [6, 9, 831], o0 9 (.iload_n 1), o0 10 (.aload_n 0), oK 11 (.iconst 0) (.int 0), oK 12 (.bipush 9) (.int 9), oC 14 (.invokevirtual 154) [983] c_X6_readNumber, o0 17 .iastore, o0 18 (.aload_n 0), oN 19 (.getfield 29) [6, 10, 832], o0 22 (.iload_n 1), o0 23 (.aload_n 0), oK 24 (.iconst 0) (.int 0), oK 25 (.bipush 9) (.int 9), oC 27 (.invokevirtual 154) [983] c_X6_readNumber, o0 30 .iastore, oN 31 .nop [1]]),
  (31, true, [true, true, false], [o0 31 (.aload_n 0), oN 32 (.getfield 97) [6, 20, 842], oN 35 (.ifCond .ne 92) [7], o0 38 (.aload_n 0), oN 39 (.getfield 121) [6, 18, 840], oK 42 (.iconst 2) (.int 2), oN 43 (.if_icmp .ne 84) [7], o0 46 (.aload_n 0), oK 47 (.iconst 0) (.int 0), oK 48 (.bipush 7) (.int 7), oC 50 (.invokevirtual 139) [987] c_X6_looked, o0 53 (.istore_n 2), o0 54 (.aload_n 0), oN 55 (.getfield 97) [6, 20, 842], oN 58 (.ifCond .ne 62) [6], o0 61 (.aload_n 0), o0 62 (.aload_n 0), oN 63 (.getfield 23) [6, 6, 828], oK 66 (.iconst 2) (.int 2), o0 67 (.iload_n 1), o0 68 .iadd, o0 69 .iaload, o0 70 (.iload_n 2), o0 71 .ishr, oK 72 (.iconst 1) (.int 1), o0 73 .iand, oN 74 (.ifCond .ne 7) [2], oK 77 (.iconst 1) (.int 1), oN 78 (.goto 4) [3]]),
  (81, false, [true, true, true], [oK 81 (.iconst 0) (.int 0), oN 82 .nop [3]]),
  (82, true, [true, true, true], [oK 82 (.iconst 4) (.int 4), oC 83 (.invokevirtual 135) [944] c_X6_must, o0 86 (.aload_n 0), oN 87 (.getfield 23) [6, 6, 828], oK 90 (.iconst 2) (.int 2), o0 91 (.iload_n 1), o0 92 .iadd, o0 93 .dup2, o0 94 .iaload, oK 95 (.iconst 1) (.int 1), o0 96 (.iload_n 2), o0 97 .ishl, o0 98 .ior, o0 99 .iastore, o0 100 (.aload_n 0), o0 101 (.iload_n 2), o0 102 (.aload_n 0), oN 103 (.getfield 76) [6, 12, 834], oN 106 (.if_icmp .le 7) [4], o0 109 (.iload_n 2), oN 110 (.goto 7) [5]]),
  (113, false, [true, true, false], [o0 113 (.aload_n 0), oN 114 (.getfield 76) [6, 12, 834], oN 117 .nop [5]]),
  (117, true, [true, true, false], [oN 117 (.putfield 76) [6, 12, 834], oN 120 .nop [6]]),
  (120, true, [true, true, false], [o0 120 (.aload_n 0), oC 121 (.invokevirtual 143) [932] c_X6_next, oN 124 (.goto (-93)) [1]]),
  (127, false, [true, false, false], [o0 127 (.aload_n 0), o0 128 .dup, oN 129 (.getfield 69) [6, 8, 830], oK 132 (.iconst 1) (.int 1), o0 133 .iadd, oN 134 (.putfield 69) [6, 8, 830], o0 137 .return_])]
set_option maxRecDepth 100000 in
theorem ck_X6_readWish : s_ck RX6 cX6_readWish 3 3 70 k_X6_readWish = true := by decide +kernel

set_option maxRecDepth 100000 in
set_option maxHeartbeats 4000000 in
theorem ok_X6_readWish : s_Ok c_X6_readWish := by
  refine s_ok_of k_X6_readWish (by decide +kernel) sta_X6_readWish ck_X6_readWish (And.intro ok_X6_readNumber (And.intro ok_X6_readNumber (And.intro ok_X6_looked (And.intro ok_X6_must (And.intro ok_X6_next trivial))))) ?_
  rintro vs L ⟨s, A, x, t, w, rfl, rfl, ht, ht2, hJ, hw, hw8⟩
  refine ⟨rfl, fun G hG => ?_⟩
  have ewc : (z_dW x).toNatClampNeg = w := by rw [hw, nI_clamp (by omega)]
  have e2w : (2 : Int32) + z_dW x = nI (2 + w) := by rw [hw, show (2 : Int32) = nI 2 from rfl, nI_add]
  have hin8 : vp_in (z_dW x) 8 := by rw [hw]; exact vp_in_nI hw8 (by omega)
  have hin53 : vp_in (2 + z_dW x) 53 := by rw [e2w]; exact vp_in_nI (by omega) (by omega)
  have e2c : (2 + z_dW x).toNatClampNeg = 2 + w := by rw [e2w, nI_clamp (by omega)]
  have g1 : ∀ (f : Nat) (y : zT), zJ y t → (z_fa y = 0 → z_so y = 2 → ∃ p, z_po y = nI p ∧ p ≤ t ∧ t < f + p) → x_wi (A 8) (s 15) x = x_wi3 (x_wl (A 8) (s 15) w f y) → G 1 [some (.ref 0), some (.int (z_dW x)), none] [] (mdZ s A y) := by
    intro f
    induction f with
    | zero =>
      intro y hJy hm hy
      have fin : G 1 [some (.ref 0), some (.int (z_dW x)), none] [] (mdZ s A y) := by
        refine hG 1 _ _ _ (And.intro (fun h => ?_) (fun h => ?_))
        · have h : z_fa y = 0 := h
          refine And.intro (fun h2 => ?_) (fun h2 => ?_)
          · have h2 : z_so y = 2 := h2
            obtain ⟨p, _, q2, q3⟩ := hm h h2
            omega
          · refine ⟨rfl, ⟨rfl, ?_⟩, fun h => by cases h⟩
            show mdZ s A (x_wi3 y) = mdR (mdZ s A x) (x_wi (bF (mdZ s A x) 8) (oI (mdZ s A x) 0 15) (rX (mdZ s A x)))
            rw [zR, zM, zB8, zO15, hy]; rfl
        · refine ⟨rfl, ⟨rfl, ?_⟩, fun h => by cases h⟩
          show mdZ s A (x_wi3 y) = mdR (mdZ s A x) (x_wi (bF (mdZ s A x) 8) (oI (mdZ s A x) 0 15) (rX (mdZ s A x)))
          rw [zR, zM, zB8, zO15, hy]; rfl
      exact fin
    | succ f ih =>
      intro y hJy hm hy
      have fin : x_wl (A 8) (s 15) w (f + 1) y = y → s_PP none false c_X6_readWish.2.2.2.2.2 [.ref 0] (mdZ s A x) none (mdZ s A (x_wi3 y)) := by
        intro e
        refine ⟨rfl, ⟨rfl, ?_⟩, fun h => by cases h⟩
        show mdZ s A (x_wi3 y) = mdR (mdZ s A x) (x_wi (bF (mdZ s A x) 8) (oI (mdZ s A x) 0 15) (rX (mdZ s A x)))
        rw [zR, zM, zB8, zO15, hy, e]
      refine hG 1 _ _ _ (And.intro (fun h => ?_) (fun h => ?_))
      rotate_left
      · have h : ¬ z_fa y = 0 := h
        exact fin (by rw [x_wl, if_neg h])
      have h : z_fa y = 0 := h
      refine And.intro (fun h2 => ?_) (fun h2 => ?_)
      rotate_left
      · have h2 : ¬ z_so y = 2 := h2
        exact fin (by rw [x_wl, if_pos h, if_neg h2])
      have h2 : z_so y = 2 := h2
      obtain ⟨p, hp1, hp2, hp3⟩ := hm h h2
      have g6 : ∀ y2, y2 = x_wlS w y → G 6 [some (.ref 0), some (.int (z_dW x)), none] [] (mdZ s A y2) := by
        intro y2 hy2
        have hS := x_wlS_J (w := w) hJy
        rw [← hy2] at hS
        refine hG 6 _ _ _ ?_
        refine And.intro (zI_pre s A (y2) ⟨ht, ht2, hS.1.1⟩) ?_
        rintro r L' ⟨rfl, hL⟩
        replace hL : L' = mdR (mdZ s A (y2)) (x_nx (bF (mdZ s A (y2)) 8) (oI (mdZ s A (y2)) 0 15) (rX (mdZ s A (y2)))) := hL
        rw [zR, zM, zB8, zO15] at hL
        obtain ⟨y3, hy3⟩ : ∃ q, q = x_nx (A 8) (s 15) (y2) := ⟨_, rfl⟩
        rw [← hy3] at hL
        subst hL
        refine ih y3 (by rw [hy3, ht]; exact x_nx_I ht2 hS.1) (by rw [hy3, ht]; exact x_nx_num ht2 hS.1 ⟨p, by rw [hS.2]; exact hp1, hp2, by omega⟩) ?_
        rw [hy, x_wl, if_pos h, if_pos h2, ← hy2, ← hy3]
      obtain ⟨v, hv⟩ : ∃ v, v = r_lk y 0 7 := ⟨_, rfl⟩
      refine And.intro ⟨s, A, y, 0, 7, rfl, rfl⟩ ?_
      rintro r L' ⟨hr, hL⟩
      replace hL : L' = mdR (mdZ s A y) (x_lk (rX (mdZ s A y)) 0 7) := hL
      replace hr : r = some (.int (r_lk (rX (mdZ s A y)) 0 7)) := hr
      rw [zR, zM] at hL
      rw [zR, ← hv] at hr
      by_cases c : z_fa (x_lk y 0 7) = 0
      rotate_left
      · have e6 : x_lk y 0 7 = x_wlS w y := by rw [x_wlS, if_neg c]
        obtain ⟨y1, hy1⟩ : ∃ y1, y1 = x_lk y 0 7 := ⟨_, rfl⟩
        rw [← hy1] at hL c e6
        subst hL hr
        refine And.intro (fun q => absurd q c) (fun _ => ?_)
        exact g6 y1 e6
      rw [(x_lk_ok c).2.2.2] at hL
      subst hL hr
      refine And.intro (fun _ => ?_) (fun q => absurd h q)
      refine And.intro hin53 ?_
      obtain ⟨dr, hdr⟩ : ∃ d, d = upd (z_dr y) (2 + w) (z_dr y (2 + w) ||| ((1 : Int32) <<< (v &&& 31))) := ⟨_, rfl⟩
      have g3 : ∀ b, b = (if p_hb (z_dr y (2 + w)) v = 0 then 1 else 0) → G 3 [some (.ref 0), some (.int (z_dW x)), some (.int v)] [.int b, .ref 0] (mdZ s A y) := by
        intro b hb
        refine hG 3 _ _ _ ?_
        refine And.intro ⟨s, A, y, _, _, rfl, rfl⟩ ?_
        rintro r L' ⟨rfl, hL⟩
        replace hL : L' = mdR (mdZ s A (y)) (x_mu (rX (mdZ s A (y))) (b) (4)) := hL
        rw [zR, zM] at hL
        obtain ⟨y1, hy1⟩ : ∃ q, q = x_mu (y) (b) (4) := ⟨_, rfl⟩
        rw [← hy1] at hL
        subst hL
        have hy1d : z_dr y1 = z_dr y := by rw [hy1, x_mu_dr]
        have hy1h : z_h1 y1 = z_h1 y := by rw [hy1, x_mu_h1]
        have hdr1 : upd (z_dr y1) (2 + z_dW x).toNatClampNeg (z_dr y1 (2 + z_dW x).toNatClampNeg ||| ((1 : Int32) <<< (v &&& 31))) = dr := by rw [hy1d, e2c, hdr]
        have e6 : ∀ z, z = (if z_h1 y < v then u_h1 (u_dr y1 dr) v else u_dr y1 dr) → z = x_wlS w y := by
          intro z hz
          rw [hz, x_wlS, if_pos c, ← hv, ← hb, ← hy1, ← hdr]
        refine And.intro hin53 (And.intro hin53 ?_)
        refine And.intro (fun q => ?_) (fun q => ?_)
        · have q : z_h1 y1 < v := q
          have k := g6 (u_h1 (u_dr y1 dr) v) (e6 _ (by rw [hy1h] at q; rw [if_pos q]))
          rw [← hdr1] at k
          refine hG 5 _ _ _ ?_
          exact k
        · have q : ¬ z_h1 y1 < v := q
          have k := g6 (u_dr y1 dr) (e6 _ (by rw [hy1h] at q; rw [if_neg q]))
          rw [← hdr1] at k
          refine hG 5 _ _ _ ?_
          exact k
      refine And.intro (fun q => ?_) (fun q => ?_)
      · have q : p_hb (z_dr y (2 + w)) v = 0 := by rw [← p_hb_v, ← e2c]; exact q
        exact g3 1 (by rw [if_pos q])
      · have q : ¬ p_hb (z_dr y (2 + w)) v = 0 := by rw [← p_hb_v, ← e2c]; exact q
        exact g3 0 (by rw [if_neg q])
  refine hG 0 _ _ _ (And.intro ⟨s, A, x, 0, 9, t, rfl, rfl, ht, ht2, hJ⟩ ?_)
  rintro r L' ⟨hr, hL⟩
  replace hL : L' = mdR (mdZ s A x) (x_nx (bF (mdZ s A x) 8) (oI (mdZ s A x) 0 15) (x_lk (rX (mdZ s A x)) 0 9)) := hL
  replace hr : r = some (.int (r_lk (rX (mdZ s A x)) 0 9)) := hr
  rw [zR, zM, zB8, zO15] at hL
  rw [zR] at hr
  obtain ⟨v1, hv1⟩ : ∃ v, v = r_lk x 0 9 := ⟨_, rfl⟩
  obtain ⟨y1, hy1⟩ : ∃ y, y = x_nx (A 8) (s 15) (x_lk x 0 9) := ⟨_, rfl⟩
  have hJ1 : zJ y1 t := by rw [hy1, ht]; exact x_nx_I ht2 (x_lk_J hJ _ _)
  rw [← hy1] at hL
  rw [← hv1] at hr
  subst hL hr
  refine And.intro hin8 ?_
  obtain ⟨y2, hy2⟩ : ∃ y, y = u_dy y1 (upd (z_dy y1) (z_dW x).toNatClampNeg v1) := ⟨_, rfl⟩
  have hJ2 : zJ y2 t := by rw [hy2]; exact hJ1
  have e12 : y2 = x_wi1 (A 8) (s 15) x := by rw [hy2, x_wi1, ← hy1, ← hv1]
  refine And.intro ⟨s, A, u_dy y1 (upd (z_dy y1) (z_dW x).toNatClampNeg v1), 0, 9, t, rfl, rfl, ht, ht2, by rw [← hy2]; exact hJ2⟩ ?_
  rintro r L' ⟨hr, hL⟩
  replace hL : L' = mdR (mdZ s A (u_dy y1 (upd (z_dy y1) (z_dW x).toNatClampNeg v1))) (x_nx (bF (mdZ s A (u_dy y1 (upd (z_dy y1) (z_dW x).toNatClampNeg v1))) 8) (oI (mdZ s A (u_dy y1 (upd (z_dy y1) (z_dW x).toNatClampNeg v1))) 0 15) (x_lk (rX (mdZ s A (u_dy y1 (upd (z_dy y1) (z_dW x).toNatClampNeg v1)))) 0 9)) := hL
  replace hr : r = some (.int (r_lk (rX (mdZ s A (u_dy y1 (upd (z_dy y1) (z_dW x).toNatClampNeg v1)))) 0 9)) := hr
  rw [zR, zM, zB8, zO15, ← hy2] at hL
  rw [zR, ← hy2] at hr
  obtain ⟨v3, hv3⟩ : ∃ v, v = r_lk y2 0 9 := ⟨_, rfl⟩
  obtain ⟨y3, hy3⟩ : ∃ y, y = x_nx (A 8) (s 15) (x_lk y2 0 9) := ⟨_, rfl⟩
  have hJ3 : zJ y3 t := by rw [hy3, ht]; exact x_nx_I ht2 (x_lk_J hJ2 _ _)
  rw [← hy3] at hL
  rw [← hv3] at hr
  subst hL hr
  refine And.intro hin8 ?_
  refine g1 161 (u_dq y3 (upd (z_dq y3) (z_dW x).toNatClampNeg v3)) hJ3 (fun _ _ => ?_) ?_
  · obtain ⟨⟨p, hp1, hp2⟩, _⟩ := hJ3
    exact ⟨p, hp1, hp2, by omega⟩
  · rw [x_wi, ← e12, ewc, x_wi2, ← hy3, ← hv3]

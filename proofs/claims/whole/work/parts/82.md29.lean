/-! ===== WishClerkModel: a line ===== -/
def zQ (x : zT) (lo t : Nat) : Prop := zJ x t ∧ zK x lo t
theorem zQ_eq {x y : zT} {lo t : Nat} (h : zQ x lo t) (hp : z_po y = z_po x) (hf : z_fr y = z_fr x) : zQ y lo t := by
  unfold zQ zJ zI zK at h ⊢
  rw [hp, hf]; exact h
theorem zQ_mu {x : zT} {lo t : Nat} (h : zQ x lo t) (b f : Int32) : zQ (x_mu x b f) lo t := zQ_eq h (x_mu_po _ _ _) (x_mu_fr _ _ _)
theorem zQ_nx {ta : Nat → Int32} {x : zT} {lo t : Nat} (h2 : t ≤ 160) (h : zQ x lo t) : zQ (x_nx ta (nI t) x) lo t := by
  refine ⟨x_nx_I h2 h.1, ?_⟩
  by_cases hf : 0 < z_fa x
  · rw [x_nx_f _ _ hf]; exact h.2
  · exact (x_nx_K h2 h.2 hf).1
theorem zQ_lk {x : zT} {lo t : Nat} (h : zQ x lo t) (a b : Int32) : zQ (x_lk x a b) lo t := zQ_mu (zQ_mu h _ _) _ _
theorem zQ_wb2 {x : zT} {lo t : Nat} (h : zQ x lo t) (g : Int32) : zQ (x_wb2 x g) lo t := by
  refine ⟨x_wb2_J h.1 g, ?_⟩
  unfold zK
  rw [x_wb2_po]; exact h.2
theorem zQ_rw {ta : Nat → Int32} {x : zT} {lo t : Nat} (h2 : t ≤ 160) (h : zQ x lo t) (g : Int32) : zQ (x_rw ta (nI t) x g) lo t := zQ_nx h2 (zQ_wb2 h g)
theorem zQ_one {ta : Nat → Int32} {x : zT} {lo t : Nat} (h2 : t ≤ 160) (h : zQ x lo t) : zQ (x_one ta (nI t) x) lo t := by
  have h1 : zQ (x_one1 ta (nI t) x) lo t := zQ_nx h2 (zQ_mu h _ _)
  unfold x_one
  obtain ⟨y, hy⟩ : ∃ y, y = x_one1 ta (nI t) x := ⟨_, rfl⟩
  rw [← hy] at h1 ⊢
  exact zQ_eq h1 rfl rfl
theorem zQ_wl {ta : Nat → Int32} {lo t w : Nat} (h2 : t ≤ 160) : ∀ (f : Nat) (x : zT), zQ x lo t → zQ (x_wl ta (nI t) w f x) lo t
  | 0, x, h => h
  | f + 1, x, h => by
    rw [x_wl]
    split
    · split
      · refine zQ_wl h2 f _ (zQ_nx h2 ⟨(x_wlS_J h.1).1, ?_⟩)
        unfold zK
        rw [(x_wlS_J (w := w) h.1).2]; exact h.2
      · exact h
    · exact h
theorem zQ_wi {ta : Nat → Int32} {x : zT} {lo t : Nat} (h2 : t ≤ 160) (h : zQ x lo t) : zQ (x_wi ta (nI t) x) lo t := by
  have h1 : zQ (x_wi1 ta (nI t) x) lo t := by
    have k : zQ (x_nx ta (nI t) (x_lk x 0 9)) lo t := zQ_nx h2 (zQ_lk h _ _)
    unfold x_wi1
    obtain ⟨y, hy⟩ : ∃ y, y = x_nx ta (nI t) (x_lk x 0 9) := ⟨_, rfl⟩
    rw [← hy] at k ⊢
    exact zQ_eq k rfl rfl
  have h3 : zQ (x_wi2 ta (nI t) (z_dW x).toNatClampNeg (x_wi1 ta (nI t) x)) lo t := by
    have k : zQ (x_nx ta (nI t) (x_lk (x_wi1 ta (nI t) x) 0 9)) lo t := zQ_nx h2 (zQ_lk h1 _ _)
    unfold x_wi2
    obtain ⟨y, hy⟩ : ∃ y, y = x_nx ta (nI t) (x_lk (x_wi1 ta (nI t) x) 0 9) := ⟨_, rfl⟩
    rw [← hy] at k ⊢
    exact zQ_eq k rfl rfl
  have h4 := zQ_wl (ta := ta) (w := (z_dW x).toNatClampNeg) h2 161 _ h3
  unfold x_wi
  obtain ⟨y, hy⟩ : ∃ y, y = x_wl ta (nI t) (z_dW x).toNatClampNeg 161 (x_wi2 ta (nI t) (z_dW x).toNatClampNeg (x_wi1 ta (nI t) x)) := ⟨_, rfl⟩
  rw [← hy] at h4 ⊢
  exact zQ_eq h4 rfl rfl
theorem zQ_ndS {ta : Nat → Int32} {lo t w : Nat} {x : zT} (h2 : t ≤ 160) (h : zQ x lo t) : zQ (x_ndS ta (nI t) w x) lo t := by
  have k : zQ (x_rw ta (nI t) x (z_dr x (10 + w) ||| ((1 : Int32) <<< (nI w &&& 31)))) lo t := zQ_rw h2 h _
  unfold x_ndS
  obtain ⟨y, hy⟩ : ∃ y, y = x_rw ta (nI t) x (z_dr x (10 + w) ||| ((1 : Int32) <<< (nI w &&& 31))) := ⟨_, rfl⟩
  rw [← hy] at k ⊢
  exact zQ_eq k rfl rfl
theorem zQ_ndl {ta : Nat → Int32} {lo t w : Nat} (h2 : t ≤ 160) : ∀ (f : Nat) (x : zT), zQ x lo t → zQ (x_ndl ta (nI t) w f x) lo t
  | 0, x, h => h
  | f + 1, x, h => by
    rw [x_ndl]
    split
    · split
      · exact zQ_ndl h2 f _ (zQ_ndS h2 h)
      · exact h
    · exact h
theorem zQ_nd {ta : Nat → Int32} {x : zT} {lo t : Nat} (h2 : t ≤ 160) (h : zQ x lo t) : zQ (x_nd ta (nI t) x) lo t := zQ_ndl h2 161 _ (zQ_rw h2 h 0)
theorem zQ_cl {ta : Nat → Int32} {x : zT} {lo t : Nat} (h2 : t ≤ 160) (h : zQ x lo t) : zQ (x_cl ta (nI t) x) lo t := by
  have k : zQ (x_clA ta (nI t) (r_lk x 0 7).toNatClampNeg (x_rw ta (nI t) x 0)) lo t := zQ_rw h2 (zQ_rw h2 h 0) _
  unfold x_cl x_cl1
  obtain ⟨y, hy⟩ : ∃ y, y = x_clA ta (nI t) (r_lk x 0 7).toNatClampNeg (x_rw ta (nI t) x 0) := ⟨_, rfl⟩
  rw [← hy] at k ⊢
  split
  · exact zQ_eq k rfl rfl
  · exact k
def x_li (ta : Nat → Int32) (ln : Int32) (x : zT) : zT := u_dr (x_rw ta ln x (z_dr x 27)) (upd (z_dr x) 27 (z_dr x 27 ||| (if z_fa (x_rw ta ln x (z_dr x 27)) = 0 then (1 : Int32) <<< (r_lk x 0 7 &&& 31) else 0)))
def x_de (ta : Nat → Int32) (ln : Int32) (x : zT) : zT := u_dr (x_nx ta ln (x_lk x 0 8)) (upd (z_dr x) 28 (r_lk x 0 8))
def x_pl (ta : Nat → Int32) (ln : Int32) (x : zT) : zT := u_dr (x_rw ta ln x 0) (upd (upd (z_dr x) (30 + z_dr x 29).toNatClampNeg (r_lk x 0 7)) 29 (z_dr x 29 + 1))
def x_lo (ta : Nat → Int32) (ln : Int32) (k : Int32) (x : zT) : zT := if k = 0 then x_one ta ln x else if k = 1 then x_wi ta ln x else if k = 2 then x_nd ta ln x else if k = 3 then x_cl ta ln x else if k = 4 then x_li ta ln x else if k = 5 then x_de ta ln x else x_pl ta ln x
theorem zQ_lo {ta : Nat → Int32} {x : zT} {lo t : Nat} (h2 : t ≤ 160) (h : zQ x lo t) (k : Int32) : zQ (x_lo ta (nI t) k x) lo t := by
  have h4 : zQ (x_li ta (nI t) x) lo t := by
    have k : zQ (x_rw ta (nI t) x (z_dr x 27)) lo t := zQ_rw h2 h _
    unfold x_li
    obtain ⟨y, hy⟩ : ∃ y, y = x_rw ta (nI t) x (z_dr x 27) := ⟨_, rfl⟩
    rw [← hy] at k ⊢
    exact zQ_eq k rfl rfl
  have h5 : zQ (x_de ta (nI t) x) lo t := by
    have k : zQ (x_nx ta (nI t) (x_lk x 0 8)) lo t := zQ_nx h2 (zQ_lk h _ _)
    unfold x_de
    obtain ⟨y, hy⟩ : ∃ y, y = x_nx ta (nI t) (x_lk x 0 8) := ⟨_, rfl⟩
    rw [← hy] at k ⊢
    exact zQ_eq k rfl rfl
  have h6 : zQ (x_pl ta (nI t) x) lo t := by
    have k : zQ (x_rw ta (nI t) x 0) lo t := zQ_rw h2 h _
    unfold x_pl
    obtain ⟨y, hy⟩ : ∃ y, y = x_rw ta (nI t) x 0 := ⟨_, rfl⟩
    rw [← hy] at k ⊢
    exact zQ_eq k rfl rfl
  unfold x_lo
  split
  · exact zQ_one h2 h
  split
  · exact zQ_wi h2 h
  split
  · exact zQ_nd h2 h
  split
  · exact zQ_cl h2 h
  split
  · exact h4
  split
  · exact h5
  · exact h6
def c_X6_readLineOf : sCtr := ((yX6_readLineOf, cX6_readLineOf, 3, none), (7, 1, 4, 92), false,
  mdfp,
  fun vs L => ∃ (s : Nat → Int32) (A : Nat → Nat → Int32) (x : zT) (k : Int32) (t c : Nat), vs = [.ref 0, .int k] ∧ L = mdZ s A x ∧ s 15 = nI t ∧ t ≤ 160 ∧ zJ x t ∧ k = nI c ∧ c ≤ 6 ∧ (k = 1 → ∃ w : Nat, w < 8 ∧ z_dW x = nI w) ∧ (k = 6 → ∃ m : Nat, m < 6 ∧ z_dr x 29 = nI m),
  fun vs L r L' => r = none ∧ L' = mdR L (x_lo (bF L 8) (oI L 0 15) (vI vs 1) (rX L)))
theorem sta_X6_readLineOf : s_Sta c_X6_readLineOf := ⟨⟨by decide +kernel, by decide +kernel, by decide +kernel⟩, List.mem_of_getElem? (i := 967) (by decide +kernel), List.mem_of_getElem? (i := 70) (by decide +kernel), ⟨List.mem_of_getElem? (i := 966) (by decide +kernel), List.mem_of_getElem? (i := 36) (by decide +kernel), Or.inl ⟨_, rfl, rfl⟩⟩⟩

def k_X6_readLineOf : List sBk := [
  (0, false, [true, true, false], [o0 0 (.iload_n 1), oN 1 (.tableswitch 123 0 5 #[39, 46, 53, 60, 67, 106]) [9, 1, 2, 3, 4, 5, 8]]),
  (40, false, [true, false, false], [o0 40 (.aload_n 0), oC 41 (.invokevirtual 160) [968] c_X6_readOne, oN 44 (.goto 111) [10]]),
  (47, false, [true, false, false], [o0 47 (.aload_n 0), oC 48 (.invokevirtual 163) [979] c_X6_readWish, oN 51 (.goto 104) [10]]),
  (54, false, [true, false, false], [o0 54 (.aload_n 0), oC 55 (.invokevirtual 166) [991] c_X6_readNeeds, oN 58 (.goto 97) [10]]),
  (61, false, [true, false, false], [o0 61 (.aload_n 0), oC 62 (.invokevirtual 169) [999] c_X6_readClash, oN 65 (.goto 90) [10]]),
  (68, false, [true, false, false], [o0 68 (.aload_n 0), o0 69 (.aload_n 0), oN 70 (.getfield 23) [6, 6, 828], oK 73 (.bipush 27) (.int 27), o0 75 .iaload, oC 76 (.invokevirtual 157) [995] c_X6_readWishBut, o0 79 (.istore_n 2), o0 80 (.aload_n 0), oN 81 (.getfield 23) [6, 6, 828], oK 84 (.bipush 27) (.int 27), o0 86 .dup2, o0 87 .iaload, o0 88 (.aload_n 0), oN 89 (.getfield 97) [6, 20, 842], oN 92 (.ifCond .ne 9) [6], oK 95 (.iconst 1) (.int 1), o0 96 (.iload_n 2), o0 97 .ishl, oN 98 (.goto 4) [7]]),
  (101, false, [false, false, false], [oK 101 (.iconst 0) (.int 0), oN 102 .nop [7]]),
  (102, false, [false, false, false], [o0 102 .ior, o0 103 .iastore, oN 104 (.goto 51) [10]]),
  (107, false, [true, false, false], [o0 107 (.aload_n 0), oN 108 (.getfield 23) [6, 6, 828], oK 111 (.bipush 28) (.int 28), o0 113 (.aload_n 0), oK 114 (.iconst 0) (.int 0), oK 115 (.bipush 8) (.int 8), oC 117 (.invokevirtual 154) [983] c_X6_readNumber, o0 120 .iastore, oN 121 (.goto 34) [10]]),
  (124, false, [true, false, false], [o0 124 (.aload_n 0), oN 125 (.getfield 23) [6, 6, 828], oK 128 (.bipush 30) (.int 30), o0 130 (.aload_n 0), oN 131 (.getfield 23) [6, 6, 828], oK 134 (.bipush 29) (.int 29), o0 136 .iaload, o0 137 .iadd, o0 138 (.aload_n 0), oK 139 (.iconst 0) (.int 0), oC 140 (.invokevirtual 157) [995] c_X6_readWishBut, o0 143 .iastore, o0 144 (.aload_n 0), oN 145 (.getfield 23) [6, 6, 828], oK 148 (.bipush 29) (.int 29), o0 150 .dup2, o0 151 .iaload, oK 152 (.iconst 1) (.int 1), o0 153 .iadd, o0 154 .iastore, oN 155 .nop [10]]),
  (155, false, [false, false, false], [o0 155 .return_])]
set_option maxRecDepth 100000 in
theorem ck_X6_readLineOf : s_ck RX6 cX6_readLineOf 3 4 92 k_X6_readLineOf = true := by decide +kernel

set_option maxRecDepth 100000 in
set_option maxHeartbeats 4000000 in
theorem ok_X6_readLineOf : s_Ok c_X6_readLineOf := by
  refine s_ok_of k_X6_readLineOf (by decide +kernel) sta_X6_readLineOf ck_X6_readLineOf (And.intro ok_X6_readOne (And.intro ok_X6_readWish (And.intro ok_X6_readNeeds (And.intro ok_X6_readClash (And.intro ok_X6_readWishBut (And.intro ok_X6_readNumber (And.intro ok_X6_readWishBut trivial))))))) ?_
  rintro vs L ⟨s, A, x, k, t, c, rfl, rfl, ht, ht2, hJ, hk, hc6, hk1, hk6⟩
  refine ⟨rfl, fun G hG => ?_⟩
  have fin : ∀ y, x_lo (A 8) (s 15) k x = y → s_PP none false c_X6_readLineOf.2.2.2.2.2 [.ref 0, .int k] (mdZ s A x) none (mdZ s A y) := by
    intro y hy
    refine ⟨rfl, ⟨rfl, ?_⟩, fun h => by cases h⟩
    show mdZ s A y = mdR (mdZ s A x) (x_lo (bF (mdZ s A x) 8) (oI (mdZ s A x) 0 15) k (rX (mdZ s A x)))
    rw [zR, zM, zB8, zO15, hy]
  refine hG 0 _ _ _ (And.intro (And.intro (fun h => ?_) (And.intro (fun h => ?_) (And.intro (fun h => ?_) (And.intro (fun h => ?_) (And.intro (fun h => ?_) (And.intro (fun h => ?_) trivial)))))) (fun h => ?_))
  · have h : k = 0 := h
    refine And.intro ⟨s, A, x, t, rfl, rfl, ht, ht2, hJ⟩ ?_
    rintro r L' ⟨rfl, hL⟩
    replace hL : L' = mdR (mdZ s A x) (x_one (bF (mdZ s A x) 8) (oI (mdZ s A x) 0 15) (rX (mdZ s A x))) := hL
    rw [zR, zM, zB8, zO15] at hL
    obtain ⟨y, hy⟩ : ∃ y, y = x_one (A 8) (s 15) x := ⟨_, rfl⟩
    rw [← hy] at hL
    subst hL
    exact fin y (by rw [x_lo, if_pos h, hy])
  · have h : k = 1 := h
    obtain ⟨w, hw, hwe⟩ := hk1 h
    refine And.intro ⟨s, A, x, t, w, rfl, rfl, ht, ht2, hJ, hwe, hw⟩ ?_
    rintro r L' ⟨rfl, hL⟩
    replace hL : L' = mdR (mdZ s A x) (x_wi (bF (mdZ s A x) 8) (oI (mdZ s A x) 0 15) (rX (mdZ s A x))) := hL
    rw [zR, zM, zB8, zO15] at hL
    obtain ⟨y, hy⟩ : ∃ y, y = x_wi (A 8) (s 15) x := ⟨_, rfl⟩
    rw [← hy] at hL
    subst hL
    exact fin y (by rw [x_lo, h, if_neg (by decide), if_pos rfl, hy])
  · have h : k = 2 := h
    refine And.intro ⟨s, A, x, t, rfl, rfl, ht, ht2, hJ⟩ ?_
    rintro r L' ⟨rfl, hL⟩
    replace hL : L' = mdR (mdZ s A x) (x_nd (bF (mdZ s A x) 8) (oI (mdZ s A x) 0 15) (rX (mdZ s A x))) := hL
    rw [zR, zM, zB8, zO15] at hL
    obtain ⟨y, hy⟩ : ∃ y, y = x_nd (A 8) (s 15) x := ⟨_, rfl⟩
    rw [← hy] at hL
    subst hL
    exact fin y (by rw [x_lo, h, if_neg (by decide), if_neg (by decide), if_pos rfl, hy])
  · have h : k = 3 := h
    refine And.intro ⟨s, A, x, t, rfl, rfl, ht, ht2, hJ⟩ ?_
    rintro r L' ⟨rfl, hL⟩
    replace hL : L' = mdR (mdZ s A x) (x_cl (bF (mdZ s A x) 8) (oI (mdZ s A x) 0 15) (rX (mdZ s A x))) := hL
    rw [zR, zM, zB8, zO15] at hL
    obtain ⟨y, hy⟩ : ∃ y, y = x_cl (A 8) (s 15) x := ⟨_, rfl⟩
    rw [← hy] at hL
    subst hL
    exact fin y (by rw [x_lo, h, if_neg (by decide), if_neg (by decide), if_neg (by decide), if_pos rfl, hy])
  · have h : k = 4 := h
    refine And.intro (vp_in_nI (n := 27) (N := 53) (by decide) (by decide)) ?_
    refine And.intro ⟨s, A, x, z_dr x 27, t, rfl, rfl, ht, ht2, hJ⟩ ?_
    rintro r L' ⟨hr, hL⟩
    replace hL : L' = mdR (mdZ s A x) (x_nx (bF (mdZ s A x) 8) (oI (mdZ s A x) 0 15) (x_wb2 (rX (mdZ s A x)) (z_dr x 27))) := hL
    replace hr : r = some (.int (r_lk (rX (mdZ s A x)) 0 7)) := hr
    rw [zR, zM, zB8, zO15] at hL
    obtain ⟨v, hv⟩ : ∃ v, v = r_lk x 0 7 := ⟨_, rfl⟩
    rw [zR, ← hv] at hr
    obtain ⟨y, hy⟩ : ∃ y, y = x_rw (A 8) (s 15) x (z_dr x 27) := ⟨_, rfl⟩
    have hL : L' = mdZ s A y := by rw [hL, hy, x_rw]
    subst hL hr
    have hd : z_dr y = z_dr x := by rw [hy, x_rw_dr]
    have fy : ∀ c, c = (if z_fa y = 0 then (1 : Int32) <<< (v &&& 31) else 0) → s_PP none false c_X6_readLineOf.2.2.2.2.2 [.ref 0, .int k] (mdZ s A x) none (mdZ s A (u_dr y (upd (z_dr y) 27 (z_dr y 27 ||| c)))) := by
      intro c hc
      refine fin _ ?_
      rw [x_lo, h, if_neg (by decide), if_neg (by decide), if_neg (by decide), if_neg (by decide), if_pos rfl, x_li, ← hy, ← hv, ← hc, hd]
    refine And.intro (vp_in_nI (n := 27) (N := 53) (by decide) (by decide)) (And.intro (fun q => ?_) (fun q => ?_))
    · have q : z_fa y = 0 := q
      refine And.intro (vp_in_nI (n := 27) (N := 53) (by decide) (by decide)) ?_
      exact fy ((1 : Int32) <<< (v &&& 31)) (by rw [if_pos q])
    · have q : ¬ z_fa y = 0 := q
      refine And.intro (vp_in_nI (n := 27) (N := 53) (by decide) (by decide)) ?_
      exact fy 0 (by rw [if_neg q])
  · have h : k = 5 := h
    refine And.intro ⟨s, A, x, 0, 8, t, rfl, rfl, ht, ht2, hJ⟩ ?_
    rintro r L' ⟨hr, hL⟩
    replace hL : L' = mdR (mdZ s A x) (x_nx (bF (mdZ s A x) 8) (oI (mdZ s A x) 0 15) (x_lk (rX (mdZ s A x)) 0 8)) := hL
    replace hr : r = some (.int (r_lk (rX (mdZ s A x)) 0 8)) := hr
    rw [zR, zM, zB8, zO15] at hL
    obtain ⟨v, hv⟩ : ∃ v, v = r_lk x 0 8 := ⟨_, rfl⟩
    rw [zR, ← hv] at hr
    obtain ⟨y, hy⟩ : ∃ y, y = x_nx (A 8) (s 15) (x_lk x 0 8) := ⟨_, rfl⟩
    rw [← hy] at hL
    subst hL hr
    have hd : z_dr y = z_dr x := by rw [hy, x_nx_dr, x_lk, x_mu_dr, x_lk1, x_mu_dr]
    refine And.intro (vp_in_nI (n := 28) (N := 53) (by decide) (by decide)) ?_
    refine fin (u_dr y (upd (z_dr y) 28 v)) ?_
    rw [x_lo, h, if_neg (by decide), if_neg (by decide), if_neg (by decide), if_neg (by decide), if_neg (by decide), if_pos rfl, x_de, ← hy, ← hv, hd]
  · have hk6' : c = 6 := by
      have h : k.toInt < 0 ∨ 5 < k.toInt := h
      rw [hk, nI_toInt (by omega)] at h
      omega
    have h6 : k = 6 := by rw [hk, hk6']; rfl
    obtain ⟨m, hm, hme⟩ := hk6 h6
    refine And.intro (vp_in_nI (n := 29) (N := 53) (by decide) (by decide)) ?_
    refine And.intro ⟨s, A, x, 0, t, rfl, rfl, ht, ht2, hJ⟩ ?_
    rintro r L' ⟨hr, hL⟩
    replace hL : L' = mdR (mdZ s A x) (x_nx (bF (mdZ s A x) 8) (oI (mdZ s A x) 0 15) (x_wb2 (rX (mdZ s A x)) 0)) := hL
    replace hr : r = some (.int (r_lk (rX (mdZ s A x)) 0 7)) := hr
    rw [zR, zM, zB8, zO15] at hL
    obtain ⟨v, hv⟩ : ∃ v, v = r_lk x 0 7 := ⟨_, rfl⟩
    rw [zR, ← hv] at hr
    obtain ⟨y, hy⟩ : ∃ y, y = x_rw (A 8) (s 15) x 0 := ⟨_, rfl⟩
    have hL : L' = mdZ s A y := by rw [hL, hy, x_rw]
    subst hL hr
    have hd : z_dr y = z_dr x := by rw [hy, x_rw_dr]
    have hix : (30 : Int32) + z_dr x 29 = nI (30 + m) := by rw [hme, show (30 : Int32) = nI 30 from rfl, nI_add]
    have hne : ¬ (29 = 30 + m) := by omega
    refine And.intro ?_ (And.intro (vp_in_nI (n := 29) (N := 53) (by decide) (by decide)) (And.intro (vp_in_nI (n := 29) (N := 53) (by decide) (by decide)) ?_))
    · show vp_in (30 + z_dr x 29) 53
      rw [hix]; exact vp_in_nI (by omega) (by omega)
    refine fin (u_dr y (upd (upd (z_dr y) (30 + z_dr x 29).toNatClampNeg v) 29 (upd (z_dr y) (30 + z_dr x 29).toNatClampNeg v 29 + 1))) ?_
    rw [x_lo, h6, if_neg (by decide), if_neg (by decide), if_neg (by decide), if_neg (by decide), if_neg (by decide), if_neg (by decide), x_pl, ← hy, ← hv, hd]
    rw [show upd (z_dr x) (30 + z_dr x 29).toNatClampNeg v 29 = z_dr x 29 by rw [hix, nI_clamp (by omega), upd, if_neg hne]]

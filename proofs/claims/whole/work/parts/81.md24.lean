/-! ===== WishClerkModel: a line of needs, clash ===== -/
/-- the state behind readWishBut -/
def x_rw (ta : Nat → Int32) (ln : Int32) (x : zT) (g : Int32) : zT := x_nx ta ln (x_wb2 x g)
theorem x_rw_J {ta : Nat → Int32} {x : zT} {t : Nat} (h2 : t ≤ 160) (h : zJ x t) (g : Int32) : zJ (x_rw ta (nI t) x g) t := x_nx_I h2 (x_wb2_J h g)
theorem x_wb2_po (x : zT) (g : Int32) : z_po (x_wb2 x g) = z_po x := by
  have h : z_po (x_wb1 x g) = z_po x := by rw [x_wb1, x_mu_po, x_lk, x_mu_po, x_lk1, x_mu_po]
  unfold x_wb2
  obtain ⟨y, hy⟩ : ∃ y, y = x_wb1 x g := ⟨_, rfl⟩
  rw [← hy] at h ⊢
  split
  · split
    · exact h
    · exact h
  · exact h
theorem x_wb2_dr (x : zT) (g : Int32) : z_dr (x_wb2 x g) = z_dr x := by
  have h : z_dr (x_wb1 x g) = z_dr x := by rw [x_wb1, x_mu_dr, x_lk, x_mu_dr, x_lk1, x_mu_dr]
  unfold x_wb2
  obtain ⟨y, hy⟩ : ∃ y, y = x_wb1 x g := ⟨_, rfl⟩
  rw [← hy] at h ⊢
  split
  · split
    · exact h
    · exact h
  · exact h
theorem x_rw_dr (ta : Nat → Int32) (ln : Int32) (x : zT) (g : Int32) : z_dr (x_rw ta ln x g) = z_dr x := by rw [x_rw, x_nx_dr, x_wb2_dr]
def x_ndS (ta : Nat → Int32) (ln : Int32) (w : Nat) (x : zT) : zT := u_dr (x_rw ta ln x (z_dr x (10 + w) ||| ((1 : Int32) <<< (nI w &&& 31)))) (upd (z_dr x) (10 + w) (z_dr x (10 + w) ||| (if z_fa (x_rw ta ln x (z_dr x (10 + w) ||| ((1 : Int32) <<< (nI w &&& 31)))) = 0 then (1 : Int32) <<< (r_lk x 0 7 &&& 31) else 0)))
def x_ndl (ta : Nat → Int32) (ln : Int32) (w : Nat) : Nat → zT → zT
  | 0, x => x
  | f + 1, x => if z_fa x = 0 then (if z_so x = 2 then x_ndl ta ln w f (x_ndS ta ln w x) else x) else x
def x_nd (ta : Nat → Int32) (ln : Int32) (x : zT) : zT := x_ndl ta ln (r_lk x 0 7).toNatClampNeg 161 (x_rw ta ln x 0)
def c_X6_readNeeds : sCtr := ((yX6_readNeeds, cX6_readNeeds, 3, none), (7, 0, 3, 69), false,
  mdfp,
  fun vs L => ∃ (s : Nat → Int32) (A : Nat → Nat → Int32) (x : zT) (t : Nat), vs = [.ref 0] ∧ L = mdZ s A x ∧ s 15 = nI t ∧ t ≤ 160 ∧ zJ x t,
  fun _ L r L' => r = none ∧ L' = mdR L (x_nd (bF L 8) (oI L 0 15) (rX L)))
theorem sta_X6_readNeeds : s_Sta c_X6_readNeeds := ⟨⟨by decide +kernel, by decide +kernel, by decide +kernel⟩, List.mem_of_getElem? (i := 994) (by decide +kernel), List.mem_of_getElem? (i := 70) (by decide +kernel), ⟨List.mem_of_getElem? (i := 993) (by decide +kernel), List.mem_of_getElem? (i := 42) (by decide +kernel), Or.inl ⟨_, rfl, rfl⟩⟩⟩

def k_X6_readNeeds : List sBk := [
  (0, false, [true, false, false], [o0 0 (.aload_n 0), oK 1 (.iconst 0) (.int 0), oC 2 (.invokevirtual 157) [995] c_X6_readWishBut, o0 5 (.istore_n 1), oN 6 .nop [1]]),
  (6, true, [true, true, false], [o0 6 (.aload_n 0), oN 7 (.getfield 97) [6, 20, 842], oN 10 (.ifCond .ne 58) [4], o0 13 (.aload_n 0), oN 14 (.getfield 121) [6, 18, 840], oK 17 (.iconst 2) (.int 2), oN 18 (.if_icmp .ne 50) [4], o0 21 (.aload_n 0), o0 22 (.aload_n 0), oN 23 (.getfield 23) [6, 6, 828], oK 26 (.bipush 10) (.int 10), o0 28 (.iload_n 1), o0 29 .iadd, o0 30 .iaload, oK 31 (.iconst 1) (.int 1), o0 32 (.iload_n 1), o0 33 .ishl, o0 34 .ior, oC 35 (.invokevirtual 157) [995] c_X6_readWishBut, o0 38 (.istore_n 2), o0 39 (.aload_n 0), oN 40 (.getfield 23) [6, 6, 828], oK 43 (.bipush 10) (.int 10), o0 45 (.iload_n 1), o0 46 .iadd, o0 47 .dup2, o0 48 .iaload, o0 49 (.aload_n 0), oN 50 (.getfield 97) [6, 20, 842], oN 53 (.ifCond .ne 9) [2], oK 56 (.iconst 1) (.int 1), o0 57 (.iload_n 2), o0 58 .ishl, oN 59 (.goto 4) [3]]),
  (62, false, [true, true, false], [oK 62 (.iconst 0) (.int 0), oN 63 .nop [3]]),
  (63, false, [true, true, false], [o0 63 .ior, o0 64 .iastore, oN 65 (.goto (-59)) [1]]),
  (68, false, [false, false, false], [o0 68 .return_])]
set_option maxRecDepth 100000 in
theorem ck_X6_readNeeds : s_ck RX6 cX6_readNeeds 3 3 69 k_X6_readNeeds = true := by decide +kernel

set_option maxRecDepth 100000 in
set_option maxHeartbeats 4000000 in
theorem ok_X6_readNeeds : s_Ok c_X6_readNeeds := by
  refine s_ok_of k_X6_readNeeds (by decide +kernel) sta_X6_readNeeds ck_X6_readNeeds (And.intro ok_X6_readWishBut (And.intro ok_X6_readWishBut trivial)) ?_
  rintro vs L ⟨s, A, x, t, rfl, rfl, ht, ht2, hJ⟩
  refine ⟨rfl, fun G hG => ?_⟩
  obtain ⟨w, hw8, hw⟩ := r_lk_7 x
  have ewc : (r_lk x 0 7).toNatClampNeg = w := by rw [hw, nI_clamp (by omega)]
  have e10 : (10 : Int32) + nI w = nI (10 + w) := by rw [show (10 : Int32) = nI 10 from rfl, nI_add]
  have hin53 : vp_in (10 + nI w) 53 := by rw [e10]; exact vp_in_nI (by omega) (by omega)
  have e10c : (10 + nI w).toNatClampNeg = 10 + w := by rw [e10, nI_clamp (by omega)]
  have g1 : ∀ (f : Nat) (y : zT), zJ y t → (z_fa y = 0 → z_so y = 2 → ∃ p, z_po y = nI p ∧ p ≤ t ∧ t < f + p) → x_nd (A 8) (s 15) x = x_ndl (A 8) (s 15) w f y → G 1 [some (.ref 0), some (.int (nI w)), none] [] (mdZ s A y) := by
    intro f
    induction f with
    | zero =>
      intro y hJy hm hy
      have fin : s_PP none false c_X6_readNeeds.2.2.2.2.2 [.ref 0] (mdZ s A x) none (mdZ s A y) := by
        refine ⟨rfl, ⟨rfl, ?_⟩, fun h => by cases h⟩
        show mdZ s A y = mdR (mdZ s A x) (x_nd (bF (mdZ s A x) 8) (oI (mdZ s A x) 0 15) (rX (mdZ s A x)))
        rw [zR, zM, zB8, zO15, hy]; rfl
      refine hG 1 _ _ _ (And.intro (fun h => ?_) (fun h => ?_))
      · have h : z_fa y = 0 := h
        refine And.intro (fun h2 => ?_) (fun h2 => ?_)
        · have h2 : z_so y = 2 := h2
          obtain ⟨p, _, q2, q3⟩ := hm h h2
          omega
        · exact fin
      · exact fin
    | succ f ih =>
      intro y hJy hm hy
      have fin : x_ndl (A 8) (s 15) w (f + 1) y = y → s_PP none false c_X6_readNeeds.2.2.2.2.2 [.ref 0] (mdZ s A x) none (mdZ s A y) := by
        intro e
        refine ⟨rfl, ⟨rfl, ?_⟩, fun h => by cases h⟩
        show mdZ s A y = mdR (mdZ s A x) (x_nd (bF (mdZ s A x) 8) (oI (mdZ s A x) 0 15) (rX (mdZ s A x)))
        rw [zR, zM, zB8, zO15, hy, e]
      refine hG 1 _ _ _ (And.intro (fun h => ?_) (fun h => ?_))
      rotate_left
      · have h : ¬ z_fa y = 0 := h
        exact fin (by rw [x_ndl, if_neg h])
      have h : z_fa y = 0 := h
      refine And.intro (fun h2 => ?_) (fun h2 => ?_)
      rotate_left
      · have h2 : ¬ z_so y = 2 := h2
        exact fin (by rw [x_ndl, if_pos h, if_neg h2])
      have h2 : z_so y = 2 := h2
      obtain ⟨p, hp1, hp2, hp3⟩ := hm h h2
      refine And.intro hin53 ?_
      obtain ⟨g, hg⟩ : ∃ g, g = z_dr y (10 + nI w).toNatClampNeg ||| ((1 : Int32) <<< (nI w &&& 31)) := ⟨_, rfl⟩
      obtain ⟨v, hv⟩ : ∃ v, v = r_lk y 0 7 := ⟨_, rfl⟩
      refine And.intro ⟨s, A, y, z_dr y (10 + nI w).toNatClampNeg ||| ((1 : Int32) <<< (nI w &&& 31)), t, rfl, rfl, ht, ht2, hJy⟩ ?_
      rintro r L' ⟨hr, hL⟩
      replace hL : L' = mdR (mdZ s A y) (x_nx (bF (mdZ s A y) 8) (oI (mdZ s A y) 0 15) (x_wb2 (rX (mdZ s A y)) (z_dr y (10 + nI w).toNatClampNeg ||| ((1 : Int32) <<< (nI w &&& 31))))) := hL
      replace hr : r = some (.int (r_lk (rX (mdZ s A y)) 0 7)) := hr
      rw [zR, zM, zB8, zO15, ← hg] at hL
      rw [zR, ← hv] at hr
      obtain ⟨y1, hy1⟩ : ∃ y1, y1 = x_rw (A 8) (s 15) y g := ⟨_, rfl⟩
      have hL : L' = mdZ s A y1 := by rw [hL, hy1, x_rw]
      subst hL hr
      have hd1 : z_dr y1 = z_dr y := by rw [hy1, x_rw_dr]
      have hJ1 : zJ y1 t := by rw [hy1, ht]; exact x_rw_J ht2 hJy g
      have hg2 : g = z_dr y (10 + w) ||| ((1 : Int32) <<< (nI w &&& 31)) := by rw [hg, e10c]
      have hS : ∀ c, c = (if z_fa y1 = 0 then (1 : Int32) <<< (v &&& 31) else 0) → u_dr y1 (upd (z_dr y1) (10 + nI w).toNatClampNeg (z_dr y1 (10 + nI w).toNatClampNeg ||| c)) = x_ndS (A 8) (s 15) w y := by
        intro c hc
        rw [x_ndS, ← hg2, ← hy1, ← hv, ← hc, hd1, e10c]
      have hm2 := fun q1 q2 => x_nx_num (ta := A 8) (f := f) ht2 (x_wb2_J hJy g) ⟨p, by rw [x_wb2_po]; exact hp1, hp2, by omega⟩ q1 q2
      rw [← ht] at hm2
      have hm3 : z_fa y1 = 0 → z_so y1 = 2 → ∃ p, z_po y1 = nI p ∧ p ≤ t ∧ t < f + p := by rw [hy1, x_rw]; exact hm2
      have nxt : ∀ c, c = (if z_fa y1 = 0 then (1 : Int32) <<< (v &&& 31) else 0) → G 1 [some (.ref 0), some (.int (nI w)), none] [] (mdZ s A (u_dr y1 (upd (z_dr y1) (10 + nI w).toNatClampNeg (z_dr y1 (10 + nI w).toNatClampNeg ||| c)))) := by
        intro c hc
        refine ih _ hJ1 hm3 ?_
        rw [hy, x_ndl, if_pos h, if_pos h2, hS c hc]
      refine And.intro hin53 (And.intro (fun q => ?_) (fun q => ?_))
      · have q : z_fa y1 = 0 := q
        refine And.intro hin53 ?_
        exact nxt ((1 : Int32) <<< (v &&& 31)) (by rw [if_pos q])
      · have q : ¬ z_fa y1 = 0 := q
        refine And.intro hin53 ?_
        exact nxt 0 (by rw [if_neg q])
  refine hG 0 _ _ _ (And.intro ⟨s, A, x, 0, t, rfl, rfl, ht, ht2, hJ⟩ ?_)
  rintro r L' ⟨hr, hL⟩
  replace hL : L' = mdR (mdZ s A x) (x_nx (bF (mdZ s A x) 8) (oI (mdZ s A x) 0 15) (x_wb2 (rX (mdZ s A x)) 0)) := hL
  replace hr : r = some (.int (r_lk (rX (mdZ s A x)) 0 7)) := hr
  rw [zR, zM, zB8, zO15] at hL
  rw [zR, hw] at hr
  obtain ⟨y1, hy1⟩ : ∃ y, y = x_rw (A 8) (s 15) x 0 := ⟨_, rfl⟩
  have hL : L' = mdZ s A y1 := by rw [hL, hy1, x_rw]
  subst hL hr
  have hJ1 : zJ y1 t := by rw [hy1, ht]; exact x_rw_J ht2 hJ 0
  refine g1 161 y1 hJ1 (fun _ _ => ?_) (by rw [x_nd, ewc, ← hy1])
  obtain ⟨⟨p, hp1, hp2⟩, _⟩ := hJ1
  exact ⟨p, hp1, hp2, by omega⟩
def x_clA (ta : Nat → Int32) (ln : Int32) (w : Nat) (y : zT) : zT := x_rw ta ln y (z_dr y (18 + w) ||| ((1 : Int32) <<< (nI w &&& 31)))
def x_cl2 (w v : Nat) (y : zT) : zT := u_dr y (upd (upd (z_dr y) (18 + w) (z_dr y (18 + w) ||| ((1 : Int32) <<< (nI v &&& 31)))) (18 + v) (upd (z_dr y) (18 + w) (z_dr y (18 + w) ||| ((1 : Int32) <<< (nI v &&& 31))) (18 + v) ||| ((1 : Int32) <<< (nI w &&& 31))))
def x_cl1 (ta : Nat → Int32) (ln : Int32) (w : Nat) (y : zT) : zT := if z_fa (x_clA ta ln w y) = 0 then x_cl2 w (r_lk y 0 7).toNatClampNeg (x_clA ta ln w y) else x_clA ta ln w y
def x_cl (ta : Nat → Int32) (ln : Int32) (x : zT) : zT := x_cl1 ta ln (r_lk x 0 7).toNatClampNeg (x_rw ta ln x 0)
def c_X6_readClash : sCtr := ((yX6_readClash, cX6_readClash, 3, none), (7, 0, 3, 69), false,
  mdfp,
  fun vs L => ∃ (s : Nat → Int32) (A : Nat → Nat → Int32) (x : zT) (t : Nat), vs = [.ref 0] ∧ L = mdZ s A x ∧ s 15 = nI t ∧ t ≤ 160 ∧ zJ x t,
  fun _ L r L' => r = none ∧ L' = mdR L (x_cl (bF L 8) (oI L 0 15) (rX L)))
theorem sta_X6_readClash : s_Sta c_X6_readClash := ⟨⟨by decide +kernel, by decide +kernel, by decide +kernel⟩, List.mem_of_getElem? (i := 1002) (by decide +kernel), List.mem_of_getElem? (i := 70) (by decide +kernel), ⟨List.mem_of_getElem? (i := 1001) (by decide +kernel), List.mem_of_getElem? (i := 44) (by decide +kernel), Or.inl ⟨_, rfl, rfl⟩⟩⟩

def k_X6_readClash : List sBk := [
  (0, false, [true, false, false], [o0 0 (.aload_n 0), oK 1 (.iconst 0) (.int 0), oC 2 (.invokevirtual 157) [995] c_X6_readWishBut, o0 5 (.istore_n 1), o0 6 (.aload_n 0), o0 7 (.aload_n 0), oN 8 (.getfield 23) [6, 6, 828], oK 11 (.bipush 18) (.int 18), o0 13 (.iload_n 1), o0 14 .iadd, o0 15 .iaload, oK 16 (.iconst 1) (.int 1), o0 17 (.iload_n 1), o0 18 .ishl, o0 19 .ior, oC 20 (.invokevirtual 157) [995] c_X6_readWishBut, o0 23 (.istore_n 2), o0 24 (.aload_n 0), oN 25 (.getfield 97) [6, 20, 842], oN 28 (.ifCond .ne 33) [1], o0 31 (.aload_n 0), oN 32 (.getfield 23) [6, 6, 828], oK 35 (.bipush 18) (.int 18), o0 37 (.iload_n 1), o0 38 .iadd, o0 39 .dup2, o0 40 .iaload, oK 41 (.iconst 1) (.int 1), o0 42 (.iload_n 2), o0 43 .ishl, o0 44 .ior, o0 45 .iastore, o0 46 (.aload_n 0), oN 47 (.getfield 23) [6, 6, 828], oK 50 (.bipush 18) (.int 18), o0 52 (.iload_n 2), o0 53 .iadd, o0 54 .dup2, o0 55 .iaload, oK 56 (.iconst 1) (.int 1), o0 57 (.iload_n 1), o0 58 .ishl, o0 59 .ior, o0 60 .iastore, oN 61 .nop [1]]),
  (61, false, [false, false, false], [o0 61 .return_])]
set_option maxRecDepth 100000 in
theorem ck_X6_readClash : s_ck RX6 cX6_readClash 3 3 69 k_X6_readClash = true := by decide +kernel

set_option maxRecDepth 100000 in
set_option maxHeartbeats 4000000 in
theorem ok_X6_readClash : s_Ok c_X6_readClash := by
  refine s_ok_of k_X6_readClash (by decide +kernel) sta_X6_readClash ck_X6_readClash (And.intro ok_X6_readWishBut (And.intro ok_X6_readWishBut trivial)) ?_
  rintro vs L ⟨s, A, x, t, rfl, rfl, ht, ht2, hJ⟩
  refine ⟨rfl, fun G hG => ?_⟩
  obtain ⟨w, hw8, hw⟩ := r_lk_7 x
  have ewc : (r_lk x 0 7).toNatClampNeg = w := by rw [hw, nI_clamp (by omega)]
  have e18 : ∀ w : Nat, (18 : Int32) + nI w = nI (18 + w) := fun w => by rw [show (18 : Int32) = nI 18 from rfl, nI_add]
  have hin53 : ∀ w : Nat, w < 8 → vp_in (18 + nI w) 53 := fun w hw => by rw [e18]; exact vp_in_nI (by omega) (by omega)
  have e18c : ∀ w : Nat, w < 8 → (18 + nI w).toNatClampNeg = 18 + w := fun w hw => by rw [e18, nI_clamp (by omega)]
  have fin : ∀ y, x_cl (A 8) (s 15) x = y → s_PP none false c_X6_readClash.2.2.2.2.2 [.ref 0] (mdZ s A x) none (mdZ s A y) := by
    intro y hy
    refine ⟨rfl, ⟨rfl, ?_⟩, fun h => by cases h⟩
    show mdZ s A y = mdR (mdZ s A x) (x_cl (bF (mdZ s A x) 8) (oI (mdZ s A x) 0 15) (rX (mdZ s A x)))
    rw [zR, zM, zB8, zO15, hy]
  refine hG 0 _ _ _ (And.intro ⟨s, A, x, 0, t, rfl, rfl, ht, ht2, hJ⟩ ?_)
  rintro r L' ⟨hr, hL⟩
  replace hL : L' = mdR (mdZ s A x) (x_nx (bF (mdZ s A x) 8) (oI (mdZ s A x) 0 15) (x_wb2 (rX (mdZ s A x)) 0)) := hL
  replace hr : r = some (.int (r_lk (rX (mdZ s A x)) 0 7)) := hr
  rw [zR, zM, zB8, zO15] at hL
  rw [zR, hw] at hr
  obtain ⟨y, hy⟩ : ∃ y, y = x_rw (A 8) (s 15) x 0 := ⟨_, rfl⟩
  have hL : L' = mdZ s A y := by rw [hL, hy, x_rw]
  subst hL hr
  have hJy : zJ y t := by rw [hy, ht]; exact x_rw_J ht2 hJ 0
  refine And.intro (hin53 w hw8) ?_
  obtain ⟨v, hv8, hv⟩ := r_lk_7 y
  have evc : (r_lk y 0 7).toNatClampNeg = v := by rw [hv, nI_clamp (by omega)]
  refine And.intro ⟨s, A, y, z_dr y (18 + nI w).toNatClampNeg ||| ((1 : Int32) <<< (nI w &&& 31)), t, rfl, rfl, ht, ht2, hJy⟩ ?_
  rintro r L' ⟨hr, hL⟩
  replace hL : L' = mdR (mdZ s A y) (x_nx (bF (mdZ s A y) 8) (oI (mdZ s A y) 0 15) (x_wb2 (rX (mdZ s A y)) (z_dr y (18 + nI w).toNatClampNeg ||| ((1 : Int32) <<< (nI w &&& 31))))) := hL
  replace hr : r = some (.int (r_lk (rX (mdZ s A y)) 0 7)) := hr
  rw [zR, zM, zB8, zO15, e18c w hw8] at hL
  rw [zR, hv] at hr
  obtain ⟨y1, hy1⟩ : ∃ y1, y1 = x_clA (A 8) (s 15) w y := ⟨_, rfl⟩
  have hL : L' = mdZ s A y1 := by rw [hL, hy1, x_clA, x_rw]
  subst hL hr
  have hx : x_cl (A 8) (s 15) x = x_cl1 (A 8) (s 15) w y := by rw [x_cl, ewc, ← hy]
  refine And.intro (fun q => ?_) (fun q => ?_)
  · have q : z_fa y1 = 0 := q
    refine And.intro (hin53 w hw8) (And.intro (hin53 w hw8) (And.intro (hin53 v hv8) (And.intro (hin53 v hv8) ?_)))
    have k := fin (x_cl2 w v y1) (by rw [hx, x_cl1, ← hy1, if_pos q, evc])
    rw [x_cl2, ← e18c w hw8, ← e18c v hv8] at k
    exact k
  · have q : ¬ z_fa y1 = 0 := q
    exact fin y1 (by rw [hx, x_cl1, ← hy1, if_neg q])

/-! ===== WishClerkModel: asking, taking back, what is broken, what is seen ===== -/
def p_mfo (st : Nat → Int32) (n : Nat) : Nat → Int32 := fun i => p_fw (fun i => st (10 + i)) n ((1 : Int32) <<< (nI i &&& 31))
def p_mwa (st : Nat → Int32) (n : Nat) : Nat → Int32 := fun i => p_ga (fun i => st (2 + i)) n (p_mfo st n i)
def r_mplan (st : Nat → Int32) (i : Int32) : Int32 := if p_in (st 29) i = 0 then -1 else st (30 + i.toNatClampNeg)
theorem vi159 (k : Nat) (h : k < 159) : vp_in (nI k) 159 := vp_in_nI h (by omega)
def c_X6_plan : sCtr := ((yX6_plan, cX6_plan, 2, (some .int)), (7, 1, 1, 25), true,
  mdfp,
  fun vs L => ∃ (s : Nat → Int32) (A : Nat → Nat → Int32) (i : Int32) (m : Nat), vs = [.ref 0, .int i] ∧ L = mdW s A ∧ A 1 29 = nI m ∧ m ≤ 6,
  fun vs L r _ => r = some (.int (r_mplan (bF L 1) (vI vs 1))))
theorem sta_X6_plan : s_Sta c_X6_plan := ⟨⟨by decide +kernel, by decide +kernel, by decide +kernel⟩, List.mem_of_getElem? (i := 1030) (by decide +kernel), List.mem_of_getElem? (i := 70) (by decide +kernel), ⟨List.mem_of_getElem? (i := 1028) (by decide +kernel), List.mem_of_getElem? (i := 1029) (by decide +kernel), Or.inl ⟨_, rfl, rfl⟩⟩⟩

def k_X6_plan : List sBk := [
  (0, false, [true, true], [o0 0 (.iload_n 1), o0 1 .i2l, oK 2 (.lconst 0) (.long 0), o0 3 (.aload_n 0), oN 4 (.getfield 7) [6, 0, 822], oK 7 (.bipush 29) (.int 29), o0 9 .iaload, oK 10 (.iconst 1) (.int 1), o0 11 .isub, o0 12 .i2l, oC 13 (.invokestatic 90) [921] c_X6_in, oN 16 (.ifCond .eq 15) [1], o0 19 (.aload_n 0), oN 20 (.getfield 7) [6, 0, 822], oK 23 (.bipush 30) (.int 30), o0 25 (.iload_n 1), o0 26 .iadd, o0 27 .iaload, oN 28 (.goto 4) [2]]),
  (31, false, [false, false], [oK 31 (.iconst (-1)) (.int (-1)), oN 32 .nop [2]]),
  (32, false, [false, false], [o0 32 .ireturn])]
set_option maxRecDepth 100000 in
theorem ck_X6_plan : s_ck RX6 cX6_plan 2 1 25 k_X6_plan = true := by decide +kernel

set_option maxRecDepth 100000 in
set_option maxHeartbeats 1000000 in
theorem ok_X6_plan : s_Ok c_X6_plan := by
  refine s_ok_of k_X6_plan (by decide +kernel) sta_X6_plan ck_X6_plan (And.intro ok_X6_in trivial) ?_
  rintro vs L ⟨s, A, i, m, rfl, rfl, hm, hm8⟩
  refine ⟨rfl, fun G hG => ?_⟩
  have fin : ∀ a : Int32, a = r_mplan (A 1) i → s_PP (some .int) true c_X6_plan.2.2.2.2.2 [.ref 0, .int i] (mdW s A) (some (.int a)) (mdW s A) := fun a ha => ⟨rfl, by rw [ha]; rfl, fun _ => rfl⟩
  refine hG 0 _ _ _ (And.intro (vi159 29 (by omega)) (And.intro ⟨_, _, _, rfl⟩ ?_))
  intro r hr
  obtain ⟨b, hb⟩ : ∃ b, b = p_in (A 1 29) i := ⟨_, rfl⟩
  obtain rfl : r = some (.int b) := by
    have h1 : r = some (.int (p_in64 i.toInt64 0 (A 1 29 - 1).toInt64)) := hr
    rw [h1, hb, hm, p_in64_in i (by omega)]
  refine And.intro (fun h => ?_) (fun h => ?_)
  · have h : b = 0 := h
    exact fin _ (by rw [r_mplan, ← hb, if_pos h])
  have h : ¬ b = 0 := h
  have h2 := h
  rw [hb, hm] at h2
  obtain ⟨j, hj, hi⟩ := p_in_ne (by omega) h2
  have e : (30 : Int32) + i = nI (30 + j) := by rw [hi]; exact nI_add 30 j
  have ec : ((30 : Int32) + i).toNatClampNeg = 30 + i.toNatClampNeg := by rw [e, hi, nI_clamp (by omega), nI_clamp (by omega)]
  refine And.intro ?_ ?_
  · show vp_in ((30 : Int32) + i) 159
    rw [e]; exact vi159 _ (by omega)
  · exact fin _ (by rw [r_mplan, ← hb, if_neg h, ← ec])
def r_mlooks (st : Nat → Int32) (y : Int32) (n : Nat) (w : Int32) : Int32 := if p_in y w = 0 then -1 else p_it (fun i => st (10 + i)) n (st 26) ((1 : Int32) <<< (w &&& 31)) (st 28).toNatClampNeg
def c_X6_looks : sCtr := ((yX6_looks, cX6_looks, 2, (some .int)), (7, 1, 2, 49), true,
  mdfp,
  fun vs L => ∃ (s : Nat → Int32) (A : Nat → Nat → Int32) (w : Int32) (n d : Nat), vs = [.ref 0, .int w] ∧ L = mdW s A ∧ s 3 = nI n ∧ n ≤ 8 ∧ A 1 28 = nI d ∧ d ≤ 8,
  fun vs L r _ => r = some (.int (r_mlooks (bF L 1) (oI L 0 3) (oI L 0 3).toNatClampNeg (vI vs 1))))
theorem sta_X6_looks : s_Sta c_X6_looks := ⟨⟨by decide +kernel, by decide +kernel, by decide +kernel⟩, List.mem_of_getElem? (i := 1083) (by decide +kernel), List.mem_of_getElem? (i := 70) (by decide +kernel), ⟨List.mem_of_getElem? (i := 1081) (by decide +kernel), List.mem_of_getElem? (i := 1082) (by decide +kernel), Or.inl ⟨_, rfl, rfl⟩⟩⟩

def k_X6_looks : List sBk := [
  (0, false, [true, true], [o0 0 (.aload_n 0), o0 1 (.iload_n 1), oC 2 (.invokevirtual 185) [1015] c_X6_isWish, oN 5 (.ifCond .eq 25) [1], o0 8 (.aload_n 0), o0 9 (.iload_n 1), o0 10 (.aload_n 0), oN 11 (.getfield 7) [6, 0, 822], oK 14 (.bipush 26) (.int 26), o0 16 .iaload, o0 17 (.aload_n 0), oN 18 (.getfield 7) [6, 0, 822], oK 21 (.bipush 28) (.int 28), o0 23 .iaload, oC 24 (.invokevirtual 204) [1084] c_X6_looksAt, oN 27 (.goto 4) [2]]),
  (30, false, [false, false], [oK 30 (.iconst (-1)) (.int (-1)), oN 31 .nop [2]]),
  (31, false, [false, false], [o0 31 .ireturn])]
set_option maxRecDepth 100000 in
theorem ck_X6_looks : s_ck RX6 cX6_looks 2 2 49 k_X6_looks = true := by decide +kernel

set_option maxRecDepth 100000 in
set_option maxHeartbeats 1000000 in
theorem ok_X6_looks : s_Ok c_X6_looks := by
  refine s_ok_of k_X6_looks (by decide +kernel) sta_X6_looks ck_X6_looks (And.intro ok_X6_isWish (And.intro ok_X6_looksAt trivial)) ?_
  rintro vs L ⟨s, A, w, n, d, rfl, rfl, hn, hn8, hd, hd8⟩
  refine ⟨rfl, fun G hG => ?_⟩
  have fin : ∀ a : Int32, a = r_mlooks (A 1) (s 3) (s 3).toNatClampNeg w → s_PP (some .int) true c_X6_looks.2.2.2.2.2 [.ref 0, .int w] (mdW s A) (some (.int a)) (mdW s A) := fun a ha => ⟨rfl, by rw [ha]; rfl, fun _ => rfl⟩
  refine hG 0 _ _ _ (And.intro ⟨s, A, w, n, rfl, rfl, hn, hn8⟩ ?_)
  intro r hr
  obtain rfl : r = some (.int (p_in (s 3) w)) := hr
  refine And.intro (fun h => ?_) (fun h => ?_)
  · exact fin _ (by rw [r_mlooks, if_pos h])
  refine And.intro (vi159 26 (by omega)) (And.intro (vi159 28 (by omega)) (And.intro ⟨s, A, _, _, _, n, d, rfl, rfl, hn, hn8, hd, hd8⟩ ?_))
  intro r hr
  obtain rfl : r = some (.int (p_it (mNd A) (s 3).toNatClampNeg (A 1 26) ((1 : Int32) <<< (w &&& 31)) (A 1 28).toNatClampNeg)) := hr
  exact fin _ (by rw [r_mlooks, if_neg h]; rfl)
def r_mrefuses (st : Nat → Int32) (y : Int32) (n : Nat) (w : Int32) : Int32 := if p_in y w = 0 then -1 else p_re (fun i => st (2 + i)) (fun i => st (10 + i)) (fun i => st (18 + i)) n (st 27) (st 1) w (st 26) (st 0) (st 28).toNatClampNeg
def c_X6_refuses : sCtr := ((yX6_refuses, cX6_refuses, 2, (some .int)), (7, 1, 3, 75), true,
  mdfp,
  fun vs L => ∃ (s : Nat → Int32) (A : Nat → Nat → Int32) (w : Int32) (n d : Nat), vs = [.ref 0, .int w] ∧ L = mdW s A ∧ s 3 = nI n ∧ n ≤ 8 ∧ A 1 28 = nI d ∧ d ≤ 8,
  fun vs L r _ => r = some (.int (r_mrefuses (bF L 1) (oI L 0 3) (oI L 0 3).toNatClampNeg (vI vs 1))))
theorem sta_X6_refuses : s_Sta c_X6_refuses := ⟨⟨by decide +kernel, by decide +kernel, by decide +kernel⟩, List.mem_of_getElem? (i := 1091) (by decide +kernel), List.mem_of_getElem? (i := 70) (by decide +kernel), ⟨List.mem_of_getElem? (i := 1089) (by decide +kernel), List.mem_of_getElem? (i := 1090) (by decide +kernel), Or.inl ⟨_, rfl, rfl⟩⟩⟩

def k_X6_refuses : List sBk := [
  (0, false, [true, true], [o0 0 (.aload_n 0), o0 1 (.iload_n 1), oC 2 (.invokevirtual 185) [1015] c_X6_isWish, oN 5 (.ifCond .eq 38) [1], o0 8 (.aload_n 0), o0 9 (.iload_n 1), o0 10 (.aload_n 0), oN 11 (.getfield 7) [6, 0, 822], oK 14 (.bipush 26) (.int 26), o0 16 .iaload, o0 17 (.aload_n 0), oN 18 (.getfield 7) [6, 0, 822], oK 21 (.iconst 0) (.int 0), o0 22 .iaload, o0 23 (.aload_n 0), oN 24 (.getfield 7) [6, 0, 822], oK 27 (.bipush 28) (.int 28), o0 29 .iaload, o0 30 (.aload_n 0), oN 31 (.getfield 7) [6, 0, 822], oK 34 (.bipush 27) (.int 27), o0 36 .iaload, oC 37 (.invokevirtual 212) [1092] c_X6_refusal, oN 40 (.goto 4) [2]]),
  (43, false, [false, false], [oK 43 (.iconst (-1)) (.int (-1)), oN 44 .nop [2]]),
  (44, false, [false, false], [o0 44 .ireturn])]
set_option maxRecDepth 100000 in
theorem ck_X6_refuses : s_ck RX6 cX6_refuses 2 3 75 k_X6_refuses = true := by decide +kernel

set_option maxRecDepth 100000 in
set_option maxHeartbeats 1000000 in
theorem ok_X6_refuses : s_Ok c_X6_refuses := by
  refine s_ok_of k_X6_refuses (by decide +kernel) sta_X6_refuses ck_X6_refuses (And.intro ok_X6_isWish (And.intro ok_X6_refusal trivial)) ?_
  rintro vs L ⟨s, A, w, n, d, rfl, rfl, hn, hn8, hd, hd8⟩
  refine ⟨rfl, fun G hG => ?_⟩
  have fin : ∀ a : Int32, a = r_mrefuses (A 1) (s 3) (s 3).toNatClampNeg w → s_PP (some .int) true c_X6_refuses.2.2.2.2.2 [.ref 0, .int w] (mdW s A) (some (.int a)) (mdW s A) := fun a ha => ⟨rfl, by rw [ha]; rfl, fun _ => rfl⟩
  refine hG 0 _ _ _ (And.intro ⟨s, A, w, n, rfl, rfl, hn, hn8⟩ ?_)
  intro r hr
  obtain rfl : r = some (.int (p_in (s 3) w)) := hr
  refine And.intro (fun h => ?_) (fun h => ?_)
  · exact fin _ (by rw [r_mrefuses, if_pos h])
  refine And.intro (vi159 26 (by omega)) (And.intro (vi159 0 (by omega)) (And.intro (vi159 28 (by omega)) (And.intro (vi159 27 (by omega)) (And.intro ⟨s, A, _, _, _, _, _, n, d, rfl, rfl, hn, hn8, hd, hd8⟩ ?_))))
  intro r hr
  obtain rfl : r = some (.int (p_re (mOn A) (mNd A) (mCl A) (s 3).toNatClampNeg (A 1 27) (A 1 1) w (A 1 26) (A 1 0) (A 1 28).toNatClampNeg)) := hr
  exact fin _ (by rw [r_mrefuses, if_neg h]; rfl)
def r_mask (st : Nat → Int32) (y : Int32) (n : Nat) (w : Int32) : Int32 := if p_in y w = 0 then -1 else if p_hb (st 26) w = 0 then (if 0 < r_mrefuses st y n w then -4 else p_bo (p_ga (fun i => st (2 + i)) n (p_fw (fun i => st (10 + i)) n ((1 : Int32) <<< (w &&& 31))) &&& (st 0 ^^^ (-1))) 8) else -2
def q_mask (st : Nat → Int32) (y : Int32) (n : Nat) (w : Int32) : Nat → Int32 := fun j => if p_in y w = 0 then st j else if p_hb (st 26) w = 0 then (if 0 < r_mrefuses st y n w then st j else upd (upd st 26 (st 26 ||| p_fw (fun i => st (10 + i)) n ((1 : Int32) <<< (w &&& 31)))) 0 (st 0 ||| (p_ga (fun i => st (2 + i)) n (p_fw (fun i => st (10 + i)) n ((1 : Int32) <<< (w &&& 31))) &&& (st 0 ^^^ (-1)))) j) else st j
def c_X6_ask : sCtr := ((yX6_ask, cX6_ask, 4, (some .int)), (7, 1, 4, 96), false,
  mdfp,
  fun vs L => ∃ (s : Nat → Int32) (A : Nat → Nat → Int32) (w : Int32) (n d : Nat), vs = [.ref 0, .int w] ∧ L = mdW s A ∧ s 3 = nI n ∧ n ≤ 8 ∧ A 1 28 = nI d ∧ d ≤ 8,
  fun vs L r L' => r = some (.int (r_mask (bF L 1) (oI L 0 3) (oI L 0 3).toNatClampNeg (vI vs 1))) ∧ L' = mdU L (q_mask (bF L 1) (oI L 0 3) (oI L 0 3).toNatClampNeg (vI vs 1)))
theorem sta_X6_ask : s_Sta c_X6_ask := ⟨⟨by decide +kernel, by decide +kernel, by decide +kernel⟩, List.mem_of_getElem? (i := 1103) (by decide +kernel), List.mem_of_getElem? (i := 70) (by decide +kernel), ⟨List.mem_of_getElem? (i := 1101) (by decide +kernel), List.mem_of_getElem? (i := 1102) (by decide +kernel), Or.inl ⟨_, rfl, rfl⟩⟩⟩

def k_X6_ask : List sBk := [
  (0, false, [true, true, false, false], [o0 0 (.aload_n 0), o0 1 (.iload_n 1), oC 2 (.invokevirtual 185) [1015] c_X6_isWish, oN 5 (.ifCond .ne 5) [1], oK 8 (.iconst (-1)) (.int (-1)), o0 9 .ireturn]),
  (10, false, [true, true, false, false], [o0 10 (.aload_n 0), oN 11 (.getfield 7) [6, 0, 822], oK 14 (.bipush 26) (.int 26), o0 16 .iaload, o0 17 (.iload_n 1), o0 18 .ishr, oK 19 (.iconst 1) (.int 1), o0 20 .iand, oK 21 (.iconst 1) (.int 1), oN 22 (.if_icmp .ne 6) [2], oK 25 (.bipush (-2)) (.int (-2)), o0 27 .ireturn]),
  (28, false, [true, true, false, false], [o0 28 (.aload_n 0), o0 29 (.iload_n 1), oC 30 (.invokevirtual 216) [1104] c_X6_refuses, oN 33 (.ifCond .le 6) [3], oK 36 (.bipush (-4)) (.int (-4)), o0 38 .ireturn]),
  (39, false, [true, true, false, false], [o0 39 (.aload_n 0), oK 40 (.iconst 1) (.int 1), o0 41 (.iload_n 1), o0 42 .ishl, oC 43 (.invokevirtual 189) [1019] c_X6_follow, o0 46 (.istore_n 2), o0 47 (.aload_n 0), oK 48 (.iconst 2) (.int 2), o0 49 (.iload_n 2), oC 50 (.invokevirtual 182) [1023] c_X6_allOf, o0 53 (.aload_n 0), oN 54 (.getfield 7) [6, 0, 822], oK 57 (.iconst 0) (.int 0), o0 58 .iaload, oK 59 (.iconst (-1)) (.int (-1)), o0 60 .ixor, o0 61 .iand, o0 62 (.istore_n 3), o0 63 (.aload_n 0), oN 64 (.getfield 7) [6, 0, 822], oK 67 (.bipush 26) (.int 26), o0 69 .dup2, o0 70 .iaload, o0 71 (.iload_n 2), o0 72 .ior, o0 73 .iastore, o0 74 (.aload_n 0), oN 75 (.getfield 7) [6, 0, 822], oK 78 (.iconst 0) (.int 0), o0 79 .dup2, o0 80 .iaload, o0 81 (.iload_n 3), o0 82 .ior, o0 83 .iastore, o0 84 (.iload_n 3), oC 85 (.invokestatic 219) [1105] c_X6_bitsOf, o0 88 .ireturn])]
set_option maxRecDepth 100000 in
theorem ck_X6_ask : s_ck RX6 cX6_ask 4 4 96 k_X6_ask = true := by decide +kernel

set_option maxRecDepth 100000 in
set_option maxHeartbeats 1000000 in
theorem ok_X6_ask : s_Ok c_X6_ask := by
  refine s_ok_of k_X6_ask (by decide +kernel) sta_X6_ask ck_X6_ask (And.intro ok_X6_isWish (And.intro ok_X6_refuses (And.intro ok_X6_follow (And.intro ok_X6_allOf (And.intro ok_X6_bitsOf trivial))))) ?_
  rintro vs L ⟨s, A, w, n, d, rfl, rfl, hn, hn8, hd, hd8⟩
  refine ⟨rfl, fun G hG => ?_⟩
  obtain ⟨N, hN⟩ : ∃ N, N = (s 3).toNatClampNeg := ⟨_, rfl⟩
  have fin : ∀ (a : Int32) (L2 : sH), a = r_mask (A 1) (s 3) N w → L2 = mdW s (va_up A 1 (q_mask (A 1) (s 3) N w)) → s_PP (some .int) false c_X6_ask.2.2.2.2.2 [.ref 0, .int w] (mdW s A) (some (.int a)) L2 := fun a L2 ha hL => ⟨rfl, ⟨by rw [ha, hN]; rfl, by rw [hL, hN]; rfl⟩, fun h => by cases h⟩
  have same : q_mask (A 1) (s 3) N w = A 1 → mdW s A = mdW s (va_up A 1 (q_mask (A 1) (s 3) N w)) := fun h => by rw [h, va_up1]
  refine hG 0 _ _ _ (And.intro ⟨s, A, w, n, rfl, rfl, hn, hn8⟩ ?_)
  intro r hr
  obtain rfl : r = some (.int (p_in (s 3) w)) := hr
  refine And.intro (fun h => ?_) (fun h => ?_)
  · exact fin _ _ (by rw [r_mask, if_pos h]) (same (by funext j; rw [q_mask, if_pos h]))
  refine And.intro (vi159 26 (by omega)) (And.intro (fun h2 => ?_) (fun h2 => ?_))
  · have h2 : ¬ p_hb (A 1 26) w = 0 := fun q => p_hb_0.mp q h2
    exact fin _ _ (by rw [r_mask, if_neg h, if_neg h2]) (same (by funext j; rw [q_mask, if_neg h, if_neg h2]))
  have h2 : p_hb (A 1 26) w = 0 := p_hb_0.mpr h2
  refine And.intro ⟨s, A, w, n, d, rfl, rfl, hn, hn8, hd, hd8⟩ ?_
  intro r hr
  obtain ⟨b, hb⟩ : ∃ b, b = r_mrefuses (A 1) (s 3) N w := ⟨_, rfl⟩
  obtain rfl : r = some (.int b) := by rw [hb, hN]; exact hr
  refine And.intro (fun h3 => ?_) (fun h3 => ?_)
  · have h3 : 0 < b := h3
    exact fin _ _ (by rw [r_mask, if_neg h, if_pos h2, ← hb, if_pos h3]) (same (by funext j; rw [q_mask, if_neg h, if_pos h2, ← hb, if_pos h3]))
  have h3 : ¬ 0 < b := h3
  refine And.intro ⟨s, A, _, n, rfl, rfl, hn, hn8⟩ ?_
  intro r hr
  obtain ⟨g, hg⟩ : ∃ g, g = p_fw (fun i => A 1 (10 + i)) N ((1 : Int32) <<< (w &&& 31)) := ⟨_, rfl⟩
  obtain rfl : r = some (.int g) := by rw [hg, hN]; exact hr
  refine And.intro ⟨s, A, 2, g, n, rfl, rfl, hn, hn8, by omega⟩ ?_
  intro r hr
  obtain ⟨l, hl⟩ : ∃ l, l = p_ga (fun i => A 1 (2 + i)) N g := ⟨_, rfl⟩
  obtain rfl : r = some (.int l) := by rw [hl, hN]; exact hr
  refine And.intro (vi159 0 (by omega)) (And.intro (vi159 26 (by omega)) (And.intro (vi159 26 (by omega)) (And.intro (vi159 0 (by omega)) (And.intro (vi159 0 (by omega)) (And.intro ⟨_, rfl⟩ ?_)))))
  intro r hr
  obtain rfl : r = some (.int (p_bo (l &&& (A 1 0 ^^^ (-1))) 8)) := hr
  exact fin _ _ (by rw [r_mask, if_neg h, if_pos h2, ← hb, if_neg h3, ← hg, ← hl]) (by rw [show q_mask (A 1) (s 3) N w = upd (upd (A 1) 26 (A 1 26 ||| g)) 0 (A 1 0 ||| (l &&& (A 1 0 ^^^ (-1)))) by funext j; rw [q_mask, if_neg h, if_pos h2, ← hb, if_neg h3, ← hg, ← hl]]; rfl)
def r_mtake (st : Nat → Int32) (y : Int32) (n : Nat) (w : Int32) : Int32 := if p_in y w = 0 then -1 else if p_hb (st 26) w = 0 then -2 else p_bo (p_tk (fun i => st (10 + i)) n ((1 : Int32) <<< (w &&& 31)) (st 26) n) 8
def q_mtake (st : Nat → Int32) (y : Int32) (n : Nat) (w : Int32) : Nat → Int32 := fun j => if p_in y w = 0 then st j else if p_hb (st 26) w = 0 then st j else upd st 26 (st 26 &&& (p_tk (fun i => st (10 + i)) n ((1 : Int32) <<< (w &&& 31)) (st 26) n ^^^ (-1))) j
def c_X6_take : sCtr := ((yX6_take, cX6_take, 3, (some .int)), (7, 1, 3, 71), false,
  mdfp,
  fun vs L => ∃ (s : Nat → Int32) (A : Nat → Nat → Int32) (w : Int32) (n : Nat), vs = [.ref 0, .int w] ∧ L = mdW s A ∧ s 3 = nI n ∧ n ≤ 8,
  fun vs L r L' => r = some (.int (r_mtake (bF L 1) (oI L 0 3) (oI L 0 3).toNatClampNeg (vI vs 1))) ∧ L' = mdU L (q_mtake (bF L 1) (oI L 0 3) (oI L 0 3).toNatClampNeg (vI vs 1)))
theorem sta_X6_take : s_Sta c_X6_take := ⟨⟨by decide +kernel, by decide +kernel, by decide +kernel⟩, List.mem_of_getElem? (i := 1111) (by decide +kernel), List.mem_of_getElem? (i := 70) (by decide +kernel), ⟨List.mem_of_getElem? (i := 1109) (by decide +kernel), List.mem_of_getElem? (i := 1110) (by decide +kernel), Or.inl ⟨_, rfl, rfl⟩⟩⟩

def k_X6_take : List sBk := [
  (0, false, [true, true, false], [o0 0 (.aload_n 0), o0 1 (.iload_n 1), oC 2 (.invokevirtual 185) [1015] c_X6_isWish, oN 5 (.ifCond .ne 5) [1], oK 8 (.iconst (-1)) (.int (-1)), o0 9 .ireturn]),
  (10, false, [true, true, false], [o0 10 (.aload_n 0), oN 11 (.getfield 7) [6, 0, 822], oK 14 (.bipush 26) (.int 26), o0 16 .iaload, o0 17 (.iload_n 1), o0 18 .ishr, oK 19 (.iconst 1) (.int 1), o0 20 .iand, oN 21 (.ifCond .ne 6) [2], oK 24 (.bipush (-2)) (.int (-2)), o0 26 .ireturn]),
  (27, false, [true, true, false], [o0 27 (.aload_n 0), oK 28 (.iconst 1) (.int 1), o0 29 (.iload_n 1), o0 30 .ishl, o0 31 (.aload_n 0), oN 32 (.getfield 7) [6, 0, 822], oK 35 (.bipush 26) (.int 26), o0 37 .iaload, oC 38 (.invokevirtual 222) [1112] c_X6_takenBy, o0 41 (.istore_n 2), o0 42 (.aload_n 0), oN 43 (.getfield 7) [6, 0, 822], oK 46 (.bipush 26) (.int 26), o0 48 .dup2, o0 49 .iaload, o0 50 (.iload_n 2), oK 51 (.iconst (-1)) (.int (-1)), o0 52 .ixor, o0 53 .iand, o0 54 .iastore, o0 55 (.iload_n 2), oC 56 (.invokestatic 219) [1105] c_X6_bitsOf, o0 59 .ireturn])]
set_option maxRecDepth 100000 in
theorem ck_X6_take : s_ck RX6 cX6_take 3 3 71 k_X6_take = true := by decide +kernel

set_option maxRecDepth 100000 in
set_option maxHeartbeats 1000000 in
theorem ok_X6_take : s_Ok c_X6_take := by
  refine s_ok_of k_X6_take (by decide +kernel) sta_X6_take ck_X6_take (And.intro ok_X6_isWish (And.intro ok_X6_takenBy (And.intro ok_X6_bitsOf trivial))) ?_
  rintro vs L ⟨s, A, w, n, rfl, rfl, hn, hn8⟩
  refine ⟨rfl, fun G hG => ?_⟩
  obtain ⟨N, hN⟩ : ∃ N, N = (s 3).toNatClampNeg := ⟨_, rfl⟩
  have fin : ∀ (a : Int32) (L2 : sH), a = r_mtake (A 1) (s 3) N w → L2 = mdW s (va_up A 1 (q_mtake (A 1) (s 3) N w)) → s_PP (some .int) false c_X6_take.2.2.2.2.2 [.ref 0, .int w] (mdW s A) (some (.int a)) L2 := fun a L2 ha hL => ⟨rfl, ⟨by rw [ha, hN]; rfl, by rw [hL, hN]; rfl⟩, fun h => by cases h⟩
  have same : q_mtake (A 1) (s 3) N w = A 1 → mdW s A = mdW s (va_up A 1 (q_mtake (A 1) (s 3) N w)) := fun h => by rw [h, va_up1]
  refine hG 0 _ _ _ (And.intro ⟨s, A, w, n, rfl, rfl, hn, hn8⟩ ?_)
  intro r hr
  obtain rfl : r = some (.int (p_in (s 3) w)) := hr
  refine And.intro (fun h => ?_) (fun h => ?_)
  · exact fin _ _ (by rw [r_mtake, if_pos h]) (same (by funext j; rw [q_mtake, if_pos h]))
  refine And.intro (vi159 26 (by omega)) (And.intro (fun h2 => ?_) (fun h2 => ?_))
  · have h2 : (A 1 26 >>> (w &&& 31)) &&& 1 = 0 := h2
    have h2 : p_hb (A 1 26) w = 0 := by rw [← p_hb_v]; exact h2
    exact fin _ _ (by rw [r_mtake, if_neg h, if_pos h2]) (same (by funext j; rw [q_mtake, if_neg h, if_pos h2]))
  have h2 : ¬ (A 1 26 >>> (w &&& 31)) &&& 1 = 0 := h2
  have h2 : ¬ p_hb (A 1 26) w = 0 := by rw [← p_hb_v]; exact h2
  refine And.intro (vi159 26 (by omega)) (And.intro ⟨s, A, _, _, n, rfl, rfl, hn, hn8⟩ ?_)
  intro r hr
  obtain ⟨g, hg⟩ : ∃ g, g = p_tk (fun i => A 1 (10 + i)) N ((1 : Int32) <<< (w &&& 31)) (A 1 26) N := ⟨_, rfl⟩
  obtain rfl : r = some (.int g) := by rw [hg, hN]; exact hr
  refine And.intro (vi159 26 (by omega)) (And.intro (vi159 26 (by omega)) (And.intro ⟨_, rfl⟩ ?_))
  intro r hr
  obtain rfl : r = some (.int (p_bo g 8)) := hr
  exact fin _ _ (by rw [r_mtake, if_neg h, if_neg h2, ← hg]) (by rw [show q_mtake (A 1) (s 3) N w = upd (A 1) 26 (A 1 26 &&& (g ^^^ (-1))) by funext j; rw [q_mtake, if_neg h, if_neg h2, ← hg]]; rfl)
def p_mce (f : Nat → Int32) (h : Int32) : Nat → Int32
  | 0 => 0
  | k + 1 => if p_hb h (nI k) = 0 then p_mce f h k else p_mce f h k + p_bo (f k &&& h) 8
theorem p_add0 (x : Int32) : x + 0 = x := by simp
def c_X6_clashes : sCtr := ((yX6_clashes, cX6_clashes, 3, (some .int)), (7, 0, 1, 22), true,
  mdfp,
  fun vs L => ∃ (s : Nat → Int32) (A : Nat → Nat → Int32) (n : Nat), vs = [.ref 0] ∧ L = mdW s A ∧ s 3 = nI n ∧ n ≤ 8,
  fun _ L r _ => r = some (.int (p_mce (fun i => bF L 1 (18 + i)) (bF L 1 26) (oI L 0 3).toNatClampNeg / 2)))
theorem sta_X6_clashes : s_Sta c_X6_clashes := ⟨⟨by decide +kernel, by decide +kernel, by decide +kernel⟩, List.mem_of_getElem? (i := 1119) (by decide +kernel), List.mem_of_getElem? (i := 70) (by decide +kernel), ⟨List.mem_of_getElem? (i := 1117) (by decide +kernel), List.mem_of_getElem? (i := 1118) (by decide +kernel), Or.inl ⟨_, rfl, rfl⟩⟩⟩

def k_X6_clashes : List sBk := [
  (0, false, [true, false, false], [oK 0 (.iconst 0) (.int 0), o0 1 (.istore_n 1), oK 2 (.iconst 0) (.int 0), o0 3 (.istore_n 2), oN 4 .nop [1]]),
  (4, true, [true, true, true], [o0 4 (.iload_n 2), o0 5 (.aload_n 0), oN 6 (.getfield 85) [6, 3, 825], oN 9 (.if_icmp .ge 51) [4], o0 12 (.iload_n 1), o0 13 (.aload_n 0), oN 14 (.getfield 7) [6, 0, 822], oK 17 (.bipush 26) (.int 26), o0 19 .iaload, o0 20 (.iload_n 2), o0 21 .ishr, oK 22 (.iconst 1) (.int 1), o0 23 .iand, oK 24 (.iconst 1) (.int 1), oN 25 (.if_icmp .ne 26) [2], o0 28 (.aload_n 0), oN 29 (.getfield 7) [6, 0, 822], oK 32 (.bipush 18) (.int 18), o0 34 (.iload_n 2), o0 35 .iadd, o0 36 .iaload, o0 37 (.aload_n 0), oN 38 (.getfield 7) [6, 0, 822], oK 41 (.bipush 26) (.int 26), o0 43 .iaload, o0 44 .iand, oC 45 (.invokestatic 219) [1105] c_X6_bitsOf, oN 48 (.goto 4) [3]]),
  (51, false, [true, false, true], [oK 51 (.iconst 0) (.int 0), oN 52 .nop [3]]),
  (52, false, [true, false, true], [o0 52 .iadd, o0 53 (.istore_n 1), oK 54 (.iinc 2 1) (.int 1), oN 57 (.goto (-53)) [1]]),
  (60, false, [false, true, false], [o0 60 (.iload_n 1), oK 61 (.iconst 2) (.int 2), o0 62 .idiv, o0 63 .ireturn])]
set_option maxRecDepth 100000 in
theorem ck_X6_clashes : s_ck RX6 cX6_clashes 3 1 22 k_X6_clashes = true := by decide +kernel

set_option maxRecDepth 100000 in
set_option maxHeartbeats 1000000 in
theorem ok_X6_clashes : s_Ok c_X6_clashes := by
  refine s_ok_of k_X6_clashes (by decide +kernel) sta_X6_clashes ck_X6_clashes (And.intro ok_X6_bitsOf trivial) ?_
  rintro vs L ⟨s, A, n, rfl, rfl, hn, hn8⟩
  refine ⟨rfl, fun G hG => ?_⟩
  have loop : ∀ (k i : Nat) (x a : Int32), i + k = n → x = nI i → a = p_mce (fun i => A 1 (18 + i)) (A 1 26) i → G 1 [some (.ref 0), some (.int a), some (.int x)] [] (mdW s A) := by
    intro k
    induction k with
    | zero =>
      intro i x a hi hx ha
      refine hG 1 _ _ _ (And.intro (fun h2 => ?_) (fun h2 => ?_))
      · have h2 : x < s 3 := h2
        rw [hx, hn, nI_ltI (by omega) (by omega)] at h2; omega
      · refine And.intro (by decide) ⟨rfl, ?_, fun _ => rfl⟩
        show some (Value.int (a / 2)) = some (Value.int (p_mce (fun i => A 1 (18 + i)) (A 1 26) (s 3).toNatClampNeg / 2))
        rw [hn, nI_clamp (by omega), ha, show i = n by omega]
    | succ k ih =>
      intro i x a hi hx ha
      refine hG 1 _ _ _ (And.intro (fun h2 => ?_) (fun h2 => ?_))
      · refine And.intro (vi159 26 (by omega)) (And.intro (fun h3 => ?_) (fun h3 => ?_))
        · have h3 : ¬ p_hb (A 1 26) x = 0 := fun q => p_hb_0.mp q h3
          have e : (18 : Int32) + x = nI (18 + i) := by rw [hx]; exact nI_add 18 i
          refine And.intro ?_ (And.intro (vi159 26 (by omega)) (And.intro ⟨_, rfl⟩ ?_))
          · show vp_in ((18 : Int32) + x) 159
            rw [e]; exact vi159 _ (by omega)
          intro r hr
          obtain rfl : r = some (.int (p_bo (A 1 ((18 : Int32) + x).toNatClampNeg &&& A 1 26) 8)) := hr
          exact ih (i + 1) _ _ (by omega) (by rw [hx, nI_1]) (by rw [p_mce, ← hx, if_neg h3, ha, e, nI_clamp (by omega)])
        · have h3 : p_hb (A 1 26) x = 0 := p_hb_0.mpr h3
          exact ih (i + 1) _ _ (by omega) (by rw [hx, nI_1]) (by rw [p_mce, ← hx, if_pos h3, ha, p_add0])
      · have h2 : ¬ x < s 3 := h2
        rw [hx, hn, nI_ltI (by omega) (by omega)] at h2; omega
  exact hG 0 _ _ _ (loop n 0 _ _ (by omega) nI_0.symm rfl)
def c_X6_broken : sCtr := ((yX6_broken, cX6_broken, 5, (some .int)), (7, 0, 2, 47), true,
  mdfp,
  fun vs L => ∃ (s : Nat → Int32) (A : Nat → Nat → Int32) (n : Nat), vs = [.ref 0] ∧ L = mdW s A ∧ s 3 = nI n ∧ n ≤ 8,
  fun _ L r _ => r = some (.int (p_br (p_mfo (bF L 1) (oI L 0 3).toNatClampNeg) (p_mwa (bF L 1) (oI L 0 3).toNatClampNeg) (bF L 1 26) (bF L 1 0) (oI L 0 3).toNatClampNeg)))
theorem sta_X6_broken : s_Sta c_X6_broken := ⟨⟨by decide +kernel, by decide +kernel, by decide +kernel⟩, List.mem_of_getElem? (i := 1123) (by decide +kernel), List.mem_of_getElem? (i := 70) (by decide +kernel), ⟨List.mem_of_getElem? (i := 1121) (by decide +kernel), List.mem_of_getElem? (i := 1122) (by decide +kernel), Or.inl ⟨_, rfl, rfl⟩⟩⟩

def k_X6_broken : List sBk := [
  (0, false, [true, false, false, false, false], [oK 0 (.iconst 0) (.int 0), o0 1 (.istore_n 1), oK 2 (.iconst 0) (.int 0), o0 3 (.istore_n 2), oN 4 .nop [1]]),
  (4, true, [true, true, true, false, false], [o0 4 (.iload_n 2), o0 5 (.aload_n 0), oN 6 (.getfield 85) [6, 3, 825], oN 9 (.if_icmp .ge 89) [6], o0 12 (.aload_n 0), oK 13 (.iconst 1) (.int 1), o0 14 (.iload_n 2), o0 15 .ishl, oC 16 (.invokevirtual 189) [1019] c_X6_follow, o0 19 (.istore_n 3), o0 20 (.iload_n 3), o0 21 (.aload_n 0), oN 22 (.getfield 7) [6, 0, 822], oK 25 (.bipush 26) (.int 26), o0 27 .iaload, oK 28 (.iconst (-1)) (.int (-1)), o0 29 .ixor, o0 30 .iand, oN 31 (.ifCond .ne 25) [2], o0 34 (.aload_n 0), oK 35 (.iconst 2) (.int 2), o0 36 (.iload_n 3), oC 37 (.invokevirtual 182) [1023] c_X6_allOf, o0 40 (.aload_n 0), oN 41 (.getfield 7) [6, 0, 822], oK 44 (.iconst 0) (.int 0), o0 45 .iaload, oK 46 (.iconst (-1)) (.int (-1)), o0 47 .ixor, o0 48 .iand, oN 49 (.ifCond .ne 7) [2], oK 52 (.iconst 1) (.int 1), oN 53 (.goto 4) [3]]),
  (56, false, [true, true, true, false, false], [oK 56 (.iconst 0) (.int 0), oN 57 .nop [3]]),
  (57, false, [true, true, true, false, false], [o0 57 (.istore 4), o0 59 (.iload_n 1), o0 60 (.aload_n 0), oN 61 (.getfield 7) [6, 0, 822], oK 64 (.bipush 26) (.int 26), o0 66 .iaload, o0 67 (.iload_n 2), o0 68 .ishr, oK 69 (.iconst 1) (.int 1), o0 70 .iand, oK 71 (.iconst 1) (.int 1), oN 72 (.if_icmp .ne 12) [4], o0 75 (.iload 4), oN 77 (.ifCond .ne 7) [4], oK 80 (.iconst 1) (.int 1), oN 81 (.goto 4) [5]]),
  (84, false, [true, false, true, false, false], [oK 84 (.iconst 0) (.int 0), oN 85 .nop [5]]),
  (85, false, [true, false, true, false, false], [oC 85 (.invokestatic 150) [976] c_X6_flag, o0 88 (.iload_n 2), o0 89 .ishl, o0 90 .ior, o0 91 (.istore_n 1), oK 92 (.iinc 2 1) (.int 1), oN 95 (.goto (-91)) [1]]),
  (98, false, [false, true, false, false, false], [o0 98 (.iload_n 1), o0 99 .ireturn])]
set_option maxRecDepth 100000 in
theorem ck_X6_broken : s_ck RX6 cX6_broken 5 2 47 k_X6_broken = true := by decide +kernel

set_option maxRecDepth 100000 in
set_option maxHeartbeats 1000000 in
theorem ok_X6_broken : s_Ok c_X6_broken := by
  refine s_ok_of k_X6_broken (by decide +kernel) sta_X6_broken ck_X6_broken (And.intro ok_X6_follow (And.intro ok_X6_allOf (And.intro ok_X6_flag trivial))) ?_
  rintro vs L ⟨s, A, n, rfl, rfl, hn, hn8⟩
  refine ⟨rfl, fun G hG => ?_⟩
  have e3 : (s 3).toNatClampNeg = n := by rw [hn, nI_clamp (by omega)]
  obtain ⟨fo, hfo⟩ : ∃ fo, fo = p_mfo (A 1) n := ⟨_, rfl⟩
  obtain ⟨wa, hwa⟩ : ∃ wa, wa = p_mwa (A 1) n := ⟨_, rfl⟩
  have loop : ∀ (k i : Nat) (x a : Int32), i + k = n → x = nI i → a = p_br fo wa (A 1 26) (A 1 0) i → G 1 [some (.ref 0), some (.int a), some (.int x), none, none] [] (mdW s A) := by
    intro k
    induction k with
    | zero =>
      intro i x a hi hx ha
      refine hG 1 _ _ _ (And.intro (fun h2 => ?_) (fun h2 => ?_))
      · have h2 : x < s 3 := h2
        rw [hx, hn, nI_ltI (by omega) (by omega)] at h2; omega
      · refine ⟨rfl, ?_, fun _ => rfl⟩
        show some (Value.int a) = some (Value.int (p_br (p_mfo (A 1) (s 3).toNatClampNeg) (p_mwa (A 1) (s 3).toNatClampNeg) (A 1 26) (A 1 0) (s 3).toNatClampNeg))
        rw [e3, ← hfo, ← hwa, ha, show i = n by omega]
    | succ k ih =>
      intro i x a hi hx ha
      refine hG 1 _ _ _ (And.intro (fun h2 => ?_) (fun h2 => ?_))
      · refine And.intro ⟨s, A, _, n, rfl, rfl, hn, hn8⟩ ?_
        intro r hr
        obtain ⟨g, hg⟩ : ∃ g, g = fo i := ⟨_, rfl⟩
        obtain rfl : r = some (.int g) := by
          have h1 : r = some (.int (p_fw (mNd A) (s 3).toNatClampNeg ((1 : Int32) <<< (x &&& 31)))) := hr
          rw [h1, hg, hfo, e3, hx]; rfl
        have bit : ∀ z : Int32, (z = 0 ∨ z = 1) → (z = 0 → p_br fo wa (A 1 26) (A 1 0) (i + 1) = a) → (z = 1 → p_br fo wa (A 1 26) (A 1 0) (i + 1) = a ||| ((1 : Int32) <<< (x &&& 31))) → G 1 [some (.ref 0), some (.int (a ||| ((if z = 0 then 0 else 1) <<< (x &&& 31)))), some (.int (x + 1)), none, none] [] (mdW s A) := fun z hz h0 h1 => ih (i + 1) _ _ (by omega) (by rw [hx, nI_1]) (by
          rcases hz with rfl | rfl
          · rw [if_pos rfl, p_sh0, p_or0, h0 rfl]
          · rw [if_neg (by decide), h1 rfl])
        refine And.intro (vi159 26 (by omega)) (And.intro (fun h3 => ?_) (fun h3 => ?_))
        · have h3 : fo i &&& (A 1 26 ^^^ (-1)) = 0 := by rw [← hg]; exact h3
          refine And.intro ⟨s, A, 2, g, n, rfl, rfl, hn, hn8, by omega⟩ ?_
          intro r hr
          obtain ⟨l, hl⟩ : ∃ l, l = wa i := ⟨_, rfl⟩
          obtain rfl : r = some (.int l) := by
            have h1 : r = some (.int (p_ga (mOn A) (s 3).toNatClampNeg g)) := hr
            rw [h1, hl, hwa, e3, hg, hfo]; rfl
          refine And.intro (vi159 0 (by omega)) (And.intro (fun h4 => ?_) (fun h4 => ?_))
          · have h4 : wa i &&& (A 1 0 ^^^ (-1)) = 0 := by rw [← hl]; exact h4
            refine And.intro (vi159 26 (by omega)) (And.intro (fun h5 => ?_) (fun h5 => ?_))
            · refine And.intro (fun z => absurd z (by decide)) (fun _ => ?_)
              refine And.intro ⟨_, rfl⟩ ?_
              intro r hr
              obtain rfl : r = some (.int (if (0 : Int32) = 0 then 0 else 1)) := hr
              exact bit 0 (Or.inl rfl) (fun _ => by rw [p_br, if_pos h3, if_pos h4, ha]) (fun z => absurd z (by decide))
            · refine And.intro ⟨_, rfl⟩ ?_
              intro r hr
              obtain rfl : r = some (.int (if (0 : Int32) = 0 then 0 else 1)) := hr
              exact bit 0 (Or.inl rfl) (fun _ => by rw [p_br, if_pos h3, if_pos h4, ha]) (fun z => absurd z (by decide))
          · have h4 : ¬ wa i &&& (A 1 0 ^^^ (-1)) = 0 := by rw [← hl]; exact h4
            refine And.intro (vi159 26 (by omega)) (And.intro (fun h5 => ?_) (fun h5 => ?_))
            · have h5 : ¬ p_hb (A 1 26) x = 0 := fun q => p_hb_0.mp q h5
              refine And.intro (fun _ => ?_) (fun z => absurd rfl z)
              refine And.intro ⟨_, rfl⟩ ?_
              intro r hr
              obtain rfl : r = some (.int (if (1 : Int32) = 0 then 0 else 1)) := hr
              exact bit 1 (Or.inr rfl) (fun z => absurd z (by decide)) (fun _ => by rw [p_br, if_pos h3, if_neg h4, ← hx, if_neg h5, ha])
            · have h5 : p_hb (A 1 26) x = 0 := p_hb_0.mpr h5
              refine And.intro ⟨_, rfl⟩ ?_
              intro r hr
              obtain rfl : r = some (.int (if (0 : Int32) = 0 then 0 else 1)) := hr
              exact bit 0 (Or.inl rfl) (fun _ => by rw [p_br, if_pos h3, if_neg h4, ← hx, if_pos h5, ha]) (fun z => absurd z (by decide))
        · have h3 : ¬ fo i &&& (A 1 26 ^^^ (-1)) = 0 := by rw [← hg]; exact h3
          refine And.intro (vi159 26 (by omega)) (And.intro (fun h5 => ?_) (fun h5 => ?_))
          · have h5 : ¬ p_hb (A 1 26) x = 0 := fun q => p_hb_0.mp q h5
            refine And.intro (fun _ => ?_) (fun z => absurd rfl z)
            refine And.intro ⟨_, rfl⟩ ?_
            intro r hr
            obtain rfl : r = some (.int (if (1 : Int32) = 0 then 0 else 1)) := hr
            exact bit 1 (Or.inr rfl) (fun z => absurd z (by decide)) (fun _ => by rw [p_br, if_neg h3, ← hx, if_neg h5, ha])
          · have h5 : p_hb (A 1 26) x = 0 := p_hb_0.mpr h5
            refine And.intro ⟨_, rfl⟩ ?_
            intro r hr
            obtain rfl : r = some (.int (if (0 : Int32) = 0 then 0 else 1)) := hr
            exact bit 0 (Or.inl rfl) (fun _ => by rw [p_br, if_neg h3, ← hx, if_pos h5, ha]) (fun z => absurd z (by decide))
      · have h2 : ¬ x < s 3 := h2
        rw [hx, hn, nI_ltI (by omega) (by omega)] at h2; omega
  exact hG 0 _ _ _ (loop n 0 _ _ (by omega) nI_0.symm rfl)

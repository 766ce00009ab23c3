/-! ===== WishClerkModel: needs, clash, plans, tape, rule, wish ===== -/
def c_X6_needs : sCtr := ((yX6_needs, cX6_needs, 4, (some .int)), (7, 3, 2, 46), false,
  mdfp,
  fun vs L => ∃ (s : Nat → Int32) (A : Nat → Nat → Int32) (w v z : Int32) (n : Nat), vs = [.ref 0, .int w, .int v, .int z] ∧ L = mdW s A ∧ s 3 = nI n ∧ n ≤ 8,
  fun vs L r L' => r = some (.int (r_mneeds (bF L 1) (oI L 0 3) (vI vs 1) (vI vs 2))) ∧ L' = mdU L (q_mneeds (bF L 1) (oI L 0 3) (vI vs 1) (vI vs 2) (vI vs 3)))
theorem sta_X6_needs : s_Sta c_X6_needs := ⟨⟨by decide +kernel, by decide +kernel, by decide +kernel⟩, List.mem_of_getElem? (i := 1067) (by decide +kernel), List.mem_of_getElem? (i := 70) (by decide +kernel), ⟨List.mem_of_getElem? (i := 1065) (by decide +kernel), List.mem_of_getElem? (i := 1066) (by decide +kernel), Or.inl ⟨_, rfl, rfl⟩⟩⟩

def k_X6_needs : List sBk := [
  (0, false, [true, true, true, true], [o0 0 (.aload_n 0), o0 1 (.iload_n 1), oC 2 (.invokevirtual 185) [1015] c_X6_isWish, oN 5 (.ifCond .eq 29) [1], o0 8 (.aload_n 0), o0 9 (.iload_n 2), oC 10 (.invokevirtual 185) [1015] c_X6_isWish, oN 13 (.ifCond .eq 21) [1], o0 16 (.iload_n 1), o0 17 (.iload_n 2), oN 18 (.if_icmp .eq 16) [1], o0 21 (.aload_n 0), oK 22 (.bipush 10) (.int 10), o0 24 (.iload_n 1), o0 25 .iadd, o0 26 (.iload_n 2), o0 27 (.iload_n 3), oC 28 (.invokevirtual 195) [1039] c_X6_becomesBit, oN 31 (.goto 4) [2]]),
  (34, false, [false, false, false, false], [oK 34 (.iconst (-1)) (.int (-1)), oN 35 .nop [2]]),
  (35, false, [false, false, false, false], [o0 35 .ireturn])]
set_option maxRecDepth 100000 in
theorem ck_X6_needs : s_ck RX6 cX6_needs 4 2 46 k_X6_needs = true := by decide +kernel

set_option maxRecDepth 100000 in
set_option maxHeartbeats 1000000 in
theorem ok_X6_needs : s_Ok c_X6_needs := by
  refine s_ok_of k_X6_needs (by decide +kernel) sta_X6_needs ck_X6_needs (And.intro ok_X6_isWish (And.intro ok_X6_isWish (And.intro ok_X6_becomesBit trivial))) ?_
  rintro vs L ⟨s, A, w, v, z, n, rfl, rfl, hn, hn8⟩
  refine ⟨rfl, fun G hG => ?_⟩
  have fin : ∀ (a : Int32) (L2 : sH), a = r_mneeds (A 1) (s 3) w v → L2 = mdW s (va_up A 1 (q_mneeds (A 1) (s 3) w v z)) → s_PP (some .int) false c_X6_needs.2.2.2.2.2 [.ref 0, .int w, .int v, .int z] (mdW s A) (some (.int a)) L2 := fun a L2 ha hL => ⟨rfl, ⟨by rw [ha]; rfl, by rw [hL]; rfl⟩, fun h => by cases h⟩
  have no : p_two (s 3) w v = 0 → s_PP (some .int) false c_X6_needs.2.2.2.2.2 [.ref 0, .int w, .int v, .int z] (mdW s A) (some (.int (-1))) (mdW s A) := fun h => fin _ _ (by rw [r_mneeds, if_pos h]) (by rw [show q_mneeds (A 1) (s 3) w v z = A 1 by funext j; rw [q_mneeds, if_pos h], va_up1])
  refine hG 0 _ _ _ (And.intro ⟨s, A, w, n, rfl, rfl, hn, hn8⟩ ?_)
  intro r hr
  obtain rfl : r = some (.int (p_in (s 3) w)) := hr
  refine And.intro (fun h => ?_) (fun h => ?_)
  · exact no (by rw [p_two, if_pos h])
  refine And.intro ⟨s, A, v, n, rfl, rfl, hn, hn8⟩ ?_
  intro r hr
  obtain rfl : r = some (.int (p_in (s 3) v)) := hr
  refine And.intro (fun h2 => ?_) (fun h2 => ?_)
  · exact no (by rw [p_two, if_neg h, if_pos h2])
  refine And.intro (fun h3 => ?_) (fun h3 => ?_)
  · exact no (by rw [p_two, if_neg h, if_neg h2, if_pos h3])
  have ht : ¬ p_two (s 3) w v = 0 := by rw [p_two, if_neg h, if_neg h2, if_neg h3]; decide
  have h4 := h
  rw [hn] at h4
  obtain ⟨j, hj, hw⟩ := p_in_ne hn8 h4
  have e : (10 : Int32) + w = nI (10 + j) := by rw [hw]; exact nI_add 10 j
  have ec : ((10 : Int32) + w).toNatClampNeg = 10 + w.toNatClampNeg := by rw [e, hw, nI_clamp (by omega), nI_clamp (by omega)]
  refine And.intro ⟨s, A, _, _, _, 10 + j, rfl, rfl, e, by omega⟩ ?_
  rintro r L' ⟨hr, hL⟩
  obtain rfl : r = some (.int ((A 1 (10 + w.toNatClampNeg) >>> (v &&& 31)) &&& 1)) := by rw [← ec]; exact hr
  obtain rfl : L' = mdW s (va_up A 1 (q_mrow 10 (A 1) w v z)) := by rw [q_mrow, ← ec]; exact hL
  exact fin _ _ (by rw [r_mneeds, if_neg ht]) (by rw [show q_mneeds (A 1) (s 3) w v z = q_mrow 10 (A 1) w v z by funext j; rw [q_mneeds, if_neg ht]]; rfl)
def r_mcl (st : Nat → Int32) (y w v : Int32) : Int32 := if p_two y w v = 0 then -1 else (st (18 + w.toNatClampNeg) >>> (v &&& 31)) &&& 1
def q_mcl (st : Nat → Int32) (y w v z : Int32) : Nat → Int32 := fun j => if p_two y w v = 0 then st j else q_mrow 18 (q_mrow 18 st v w z) w v z j
def c_X6_clash : sCtr := ((yX6_clash, cX6_clash, 4, (some .int)), (7, 3, 2, 46), false,
  mdfp,
  fun vs L => ∃ (s : Nat → Int32) (A : Nat → Nat → Int32) (w v z : Int32) (n : Nat), vs = [.ref 0, .int w, .int v, .int z] ∧ L = mdW s A ∧ s 3 = nI n ∧ n ≤ 8,
  fun vs L r L' => r = some (.int (r_mcl (bF L 1) (oI L 0 3) (vI vs 1) (vI vs 2))) ∧ L' = mdU L (q_mcl (bF L 1) (oI L 0 3) (vI vs 1) (vI vs 2) (vI vs 3)))
theorem sta_X6_clash : s_Sta c_X6_clash := ⟨⟨by decide +kernel, by decide +kernel, by decide +kernel⟩, List.mem_of_getElem? (i := 1071) (by decide +kernel), List.mem_of_getElem? (i := 70) (by decide +kernel), ⟨List.mem_of_getElem? (i := 1069) (by decide +kernel), List.mem_of_getElem? (i := 1070) (by decide +kernel), Or.inl ⟨_, rfl, rfl⟩⟩⟩

def k_X6_clash : List sBk := [
  (0, false, [true, true, true, true], [o0 0 (.aload_n 0), o0 1 (.iload_n 1), oC 2 (.invokevirtual 185) [1015] c_X6_isWish, oN 5 (.ifCond .eq 16) [1], o0 8 (.aload_n 0), o0 9 (.iload_n 2), oC 10 (.invokevirtual 185) [1015] c_X6_isWish, oN 13 (.ifCond .eq 8) [1], o0 16 (.iload_n 1), o0 17 (.iload_n 2), oN 18 (.if_icmp .ne 5) [2], oN 21 .nop [1]]),
  (21, false, [false, false, false, false], [oK 21 (.iconst (-1)) (.int (-1)), o0 22 .ireturn]),
  (23, false, [true, true, true, true], [o0 23 (.aload_n 0), oK 24 (.bipush 18) (.int 18), o0 26 (.iload_n 2), o0 27 .iadd, o0 28 (.iload_n 1), o0 29 (.iload_n 3), oC 30 (.invokevirtual 195) [1039] c_X6_becomesBit, o0 33 .pop, o0 34 (.aload_n 0), oK 35 (.bipush 18) (.int 18), o0 37 (.iload_n 1), o0 38 .iadd, o0 39 (.iload_n 2), o0 40 (.iload_n 3), oC 41 (.invokevirtual 195) [1039] c_X6_becomesBit, o0 44 .ireturn])]
set_option maxRecDepth 100000 in
theorem ck_X6_clash : s_ck RX6 cX6_clash 4 2 46 k_X6_clash = true := by decide +kernel

set_option maxRecDepth 100000 in
set_option maxHeartbeats 1000000 in
theorem ok_X6_clash : s_Ok c_X6_clash := by
  refine s_ok_of k_X6_clash (by decide +kernel) sta_X6_clash ck_X6_clash (And.intro ok_X6_isWish (And.intro ok_X6_isWish (And.intro ok_X6_becomesBit (And.intro ok_X6_becomesBit trivial)))) ?_
  rintro vs L ⟨s, A, w, v, z, n, rfl, rfl, hn, hn8⟩
  refine ⟨rfl, fun G hG => ?_⟩
  have fin : ∀ (a : Int32) (L2 : sH), a = r_mcl (A 1) (s 3) w v → L2 = mdW s (va_up A 1 (q_mcl (A 1) (s 3) w v z)) → s_PP (some .int) false c_X6_clash.2.2.2.2.2 [.ref 0, .int w, .int v, .int z] (mdW s A) (some (.int a)) L2 := fun a L2 ha hL => ⟨rfl, ⟨by rw [ha]; rfl, by rw [hL]; rfl⟩, fun h => by cases h⟩
  have no : p_two (s 3) w v = 0 → s_PP (some .int) false c_X6_clash.2.2.2.2.2 [.ref 0, .int w, .int v, .int z] (mdW s A) (some (.int (-1))) (mdW s A) := fun h => fin _ _ (by rw [r_mcl, if_pos h]) (by rw [show q_mcl (A 1) (s 3) w v z = A 1 by funext j; rw [q_mcl, if_pos h], va_up1])
  refine hG 0 _ _ _ (And.intro ⟨s, A, w, n, rfl, rfl, hn, hn8⟩ ?_)
  intro r hr
  obtain rfl : r = some (.int (p_in (s 3) w)) := hr
  refine And.intro (fun h => ?_) (fun h => ?_)
  · exact no (by rw [p_two, if_pos h])
  refine And.intro ⟨s, A, v, n, rfl, rfl, hn, hn8⟩ ?_
  intro r hr
  obtain rfl : r = some (.int (p_in (s 3) v)) := hr
  refine And.intro (fun h2 => ?_) (fun h2 => ?_)
  · exact no (by rw [p_two, if_neg h, if_pos h2])
  refine And.intro (fun h3 => ?_) (fun h3 => ?_)
  · exact no (by rw [p_two, if_neg h, if_neg h2, if_pos h3])
  have ht : ¬ p_two (s 3) w v = 0 := by rw [p_two, if_neg h, if_neg h2, if_neg h3]; decide
  have h4 := h
  rw [hn] at h4
  obtain ⟨j, hj, hw⟩ := p_in_ne hn8 h4
  have h5 := h2
  rw [hn] at h5
  obtain ⟨i, hi, hv⟩ := p_in_ne hn8 h5
  have hij : i ≠ j := fun q => h3 (by rw [hw, hv, q])
  have e : (18 : Int32) + w = nI (18 + j) := by rw [hw]; exact nI_add 18 j
  have ec : ((18 : Int32) + w).toNatClampNeg = 18 + w.toNatClampNeg := by rw [e, hw, nI_clamp (by omega), nI_clamp (by omega)]
  have f : (18 : Int32) + v = nI (18 + i) := by rw [hv]; exact nI_add 18 i
  have fc : ((18 : Int32) + v).toNatClampNeg = 18 + v.toNatClampNeg := by rw [f, hv, nI_clamp (by omega), nI_clamp (by omega)]
  have hx : q_mrow 18 (A 1) v w z (18 + w.toNatClampNeg) = A 1 (18 + w.toNatClampNeg) := by
    rw [q_mrow, upd, if_neg]
    rw [hw, hv, nI_clamp (by omega), nI_clamp (by omega)]; omega
  refine And.intro ⟨s, A, _, _, _, 18 + i, rfl, rfl, f, by omega⟩ ?_
  rintro r L' ⟨hr, hL⟩
  obtain rfl : r = some (.int ((A 1 (18 + v.toNatClampNeg) >>> (w &&& 31)) &&& 1)) := by rw [← fc]; exact hr
  obtain rfl : L' = mdW s (va_up A 1 (q_mrow 18 (A 1) v w z)) := by rw [q_mrow, ← fc]; exact hL
  refine And.intro ⟨s, va_up A 1 (q_mrow 18 (A 1) v w z), _, _, _, 18 + j, rfl, rfl, e, by omega⟩ ?_
  rintro r L' ⟨hr, hL⟩
  obtain rfl : r = some (.int ((q_mrow 18 (A 1) v w z (18 + w.toNatClampNeg) >>> (v &&& 31)) &&& 1)) := by rw [← ec]; exact hr
  obtain rfl : L' = mdW s (va_up A 1 (q_mrow 18 (q_mrow 18 (A 1) v w z) w v z)) := by rw [q_mrow, ← ec]; exact hL
  exact fin _ _ (by rw [r_mcl, if_neg ht, hx]) (by rw [show q_mcl (A 1) (s 3) w v z = q_mrow 18 (q_mrow 18 (A 1) v w z) w v z by funext j; rw [q_mcl, if_neg ht]]; rfl)
def r_mplans (st : Nat → Int32) (y w : Int32) : Int32 := if p_in y w = 0 then -1 else if st 29 = 6 then -3 else st 29 + 1
def q_mplans (st : Nat → Int32) (y w : Int32) : Nat → Int32 := fun j => if p_in y w = 0 then st j else if st 29 = 6 then st j else upd (upd st (30 + (st 29).toNatClampNeg) w) 29 (st 29 + 1) j
def c_X6_plans : sCtr := ((yX6_plans, cX6_plans, 2, (some .int)), (7, 1, 2, 46), false,
  mdfp,
  fun vs L => ∃ (s : Nat → Int32) (A : Nat → Nat → Int32) (w : Int32) (n m : Nat), vs = [.ref 0, .int w] ∧ L = mdW s A ∧ s 3 = nI n ∧ n ≤ 8 ∧ A 1 29 = nI m ∧ m ≤ 6,
  fun vs L r L' => r = some (.int (r_mplans (bF L 1) (oI L 0 3) (vI vs 1))) ∧ L' = mdU L (q_mplans (bF L 1) (oI L 0 3) (vI vs 1)))
theorem sta_X6_plans : s_Sta c_X6_plans := ⟨⟨by decide +kernel, by decide +kernel, by decide +kernel⟩, List.mem_of_getElem? (i := 1075) (by decide +kernel), List.mem_of_getElem? (i := 70) (by decide +kernel), ⟨List.mem_of_getElem? (i := 1073) (by decide +kernel), List.mem_of_getElem? (i := 1074) (by decide +kernel), Or.inl ⟨_, rfl, rfl⟩⟩⟩

def k_X6_plans : List sBk := [
  (0, false, [true, true], [o0 0 (.aload_n 0), o0 1 (.iload_n 1), oC 2 (.invokevirtual 185) [1015] c_X6_isWish, oN 5 (.ifCond .ne 5) [1], oK 8 (.iconst (-1)) (.int (-1)), o0 9 .ireturn]),
  (10, false, [true, true], [o0 10 (.aload_n 0), oN 11 (.getfield 7) [6, 0, 822], oK 14 (.bipush 29) (.int 29), o0 16 .iaload, oK 17 (.bipush 6) (.int 6), oN 19 (.if_icmp .ne 6) [2], oK 22 (.bipush (-3)) (.int (-3)), o0 24 .ireturn]),
  (25, false, [true, true], [o0 25 (.aload_n 0), oN 26 (.getfield 7) [6, 0, 822], oK 29 (.bipush 30) (.int 30), o0 31 (.aload_n 0), oN 32 (.getfield 7) [6, 0, 822], oK 35 (.bipush 29) (.int 29), o0 37 .iaload, o0 38 .iadd, o0 39 (.iload_n 1), o0 40 .iastore, o0 41 (.aload_n 0), oN 42 (.getfield 7) [6, 0, 822], oK 45 (.bipush 29) (.int 29), o0 47 .dup2, o0 48 .iaload, oK 49 (.iconst 1) (.int 1), o0 50 .iadd, o0 51 .iastore, o0 52 (.aload_n 0), oN 53 (.getfield 7) [6, 0, 822], oK 56 (.bipush 29) (.int 29), o0 58 .iaload, o0 59 .ireturn])]
set_option maxRecDepth 100000 in
theorem ck_X6_plans : s_ck RX6 cX6_plans 2 2 46 k_X6_plans = true := by decide +kernel

set_option maxRecDepth 100000 in
set_option maxHeartbeats 1000000 in
theorem ok_X6_plans : s_Ok c_X6_plans := by
  refine s_ok_of k_X6_plans (by decide +kernel) sta_X6_plans ck_X6_plans (And.intro ok_X6_isWish trivial) ?_
  rintro vs L ⟨s, A, w, n, m, rfl, rfl, hn, hn8, hm, hm8⟩
  refine ⟨rfl, fun G hG => ?_⟩
  have fin : ∀ (a : Int32) (L2 : sH), a = r_mplans (A 1) (s 3) w → L2 = mdW s (va_up A 1 (q_mplans (A 1) (s 3) w)) → s_PP (some .int) false c_X6_plans.2.2.2.2.2 [.ref 0, .int w] (mdW s A) (some (.int a)) L2 := fun a L2 ha hL => ⟨rfl, ⟨by rw [ha]; rfl, by rw [hL]; rfl⟩, fun h => by cases h⟩
  have i29 : vp_in 29 159 := vp_in_nI (n := 29) (N := 159) (by decide) (by decide)
  refine hG 0 _ _ _ (And.intro ⟨s, A, w, n, rfl, rfl, hn, hn8⟩ ?_)
  intro r hr
  obtain rfl : r = some (.int (p_in (s 3) w)) := hr
  refine And.intro (fun h => ?_) (fun h => ?_)
  · exact fin _ _ (by rw [r_mplans, if_pos h]) (by rw [show q_mplans (A 1) (s 3) w = A 1 by funext j; rw [q_mplans, if_pos h], va_up1])
  refine And.intro i29 (And.intro (fun h2 => ?_) (fun h2 => ?_))
  · have h2 : A 1 29 = 6 := h2
    exact fin _ _ (by rw [r_mplans, if_neg h, if_pos h2]) (by rw [show q_mplans (A 1) (s 3) w = A 1 by funext j; rw [q_mplans, if_neg h, if_pos h2], va_up1])
  have h2 : ¬ A 1 29 = 6 := h2
  have hm6 : m ≠ 6 := fun q => h2 (by rw [hm, q]; rfl)
  have e : (30 : Int32) + A 1 29 = nI (30 + m) := by rw [hm]; exact nI_add 30 m
  have ec : ((30 : Int32) + A 1 29).toNatClampNeg = 30 + (A 1 29).toNatClampNeg := by rw [e, hm, nI_clamp (by omega), nI_clamp (by omega)]
  have hx : upd (A 1) (30 + (A 1 29).toNatClampNeg) w 29 = A 1 29 := by
    rw [upd, if_neg]; omega
  have hy : upd (A 1) ((30 : Int32) + A 1 29).toNatClampNeg w 29 = A 1 29 := by rw [ec, hx]
  refine And.intro i29 (And.intro ?_ ?_)
  · show vp_in ((30 : Int32) + A 1 29) 159
    rw [e]; exact vp_in_nI (by omega) (by omega)
  refine And.intro i29 (And.intro i29 (And.intro i29 ?_))
  refine fin _ _ ?_ ?_
  · show upd (A 1) ((30 : Int32) + A 1 29).toNatClampNeg w 29 + 1 = _
    rw [hy, r_mplans, if_neg h, if_neg h2]
  · show mdW s (va_up A 1 (upd (upd (A 1) ((30 : Int32) + A 1 29).toNatClampNeg w) 29 (upd (A 1) ((30 : Int32) + A 1 29).toNatClampNeg w 29 + 1))) = _
    rw [show q_mplans (A 1) (s 3) w = upd (upd (A 1) (30 + (A 1 29).toNatClampNeg) w) 29 (A 1 29 + 1) by funext j; rw [q_mplans, if_neg h, if_neg h2], hy, ec]
def r_mfeed (ln c : Int32) : Int32 := if c < 0 ∨ 127 < c then -1 else if ln = 160 then -3 else ln + 1
def q_mfeed (ln c : Int32) : Int32 := if c < 0 ∨ 127 < c then ln else if ln = 160 then ln else ln + 1
def q_mfeedF (ln c : Int32) (f : Nat → Int32) : Nat → Int32 := fun j => if c < 0 ∨ 127 < c then f j else if ln = 160 then f j else upd f ln.toNatClampNeg c j
theorem va_upI (A : Nat → Nat → Int32) (k : Nat) : va_up A k (A k) = A := by
  funext j
  unfold va_up
  by_cases h : j = k
  · rw [if_pos h, h]
  · rw [if_neg h]
theorem upd_I (s : Nat → Int32) (k : Nat) : upd s k (s k) = s := by
  funext j
  unfold upd
  by_cases h : j = k
  · rw [if_pos h, h]
  · rw [if_neg h]
def c_X6_feed : sCtr := ((yX6_feed, cX6_feed, 2, (some .int)), (7, 1, 1, 25), false,
  mdfp,
  fun vs L => ∃ (s : Nat → Int32) (A : Nat → Nat → Int32) (c : Int32) (t : Nat), vs = [.ref 0, .int c] ∧ L = mdW s A ∧ s 15 = nI t ∧ t ≤ 160,
  fun vs L r L' => r = some (.int (r_mfeed (oI L 0 15) (vI vs 1))) ∧ L' = mdW (upd (oI L 0) 15 (q_mfeed (oI L 0 15) (vI vs 1))) (va_up (bF L) 8 (q_mfeedF (oI L 0 15) (vI vs 1) (bF L 8))))
theorem sta_X6_feed : s_Sta c_X6_feed := ⟨⟨by decide +kernel, by decide +kernel, by decide +kernel⟩, List.mem_of_getElem? (i := 919) (by decide +kernel), List.mem_of_getElem? (i := 70) (by decide +kernel), ⟨List.mem_of_getElem? (i := 917) (by decide +kernel), List.mem_of_getElem? (i := 918) (by decide +kernel), Or.inl ⟨_, rfl, rfl⟩⟩⟩

def k_X6_feed : List sBk := [
  (0, false, [true, true], [o0 0 (.iload_n 1), o0 1 .i2l, oK 2 (.lconst 0) (.long 0), oV 3 (.ldc2_w 88) [920] (.long 127), oC 6 (.invokestatic 90) [921] c_X6_in, oN 9 (.ifCond .ne 5) [1], oK 12 (.iconst (-1)) (.int (-1)), o0 13 .ireturn]),
  (14, false, [true, true], [o0 14 (.aload_n 0), oN 15 (.getfield 94) [6, 15, 837], oK 18 (.sipush 160) (.int 160), oN 21 (.if_icmp .ne 6) [2], oK 24 (.bipush (-3)) (.int (-3)), o0 26 .ireturn]),
  (27, false, [true, true], [o0 27 (.aload_n 0), oN 28 (.getfield 32) [6, 14, 836], o0 31 (.aload_n 0), oN 32 (.getfield 94) [6, 15, 837], o0 35 (.iload_n 1), o0 36 .iastore, o0 37 (.aload_n 0), o0 38 .dup, oN 39 (.getfield 94) [6, 15, 837], oK 42 (.iconst 1) (.int 1), o0 43 .iadd, oN 44 (.putfield 94) [6, 15, 837], o0 47 (.aload_n 0), oN 48 (.getfield 94) [6, 15, 837], o0 51 .ireturn])]
set_option maxRecDepth 100000 in
theorem ck_X6_feed : s_ck RX6 cX6_feed 2 1 25 k_X6_feed = true := by decide +kernel

set_option maxRecDepth 100000 in
set_option maxHeartbeats 1000000 in
theorem ok_X6_feed : s_Ok c_X6_feed := by
  refine s_ok_of k_X6_feed (by decide +kernel) sta_X6_feed ck_X6_feed (And.intro ok_X6_in trivial) ?_
  rintro vs L ⟨s, A, c, t, rfl, rfl, hl, ht⟩
  refine ⟨rfl, fun G hG => ?_⟩
  have fin : ∀ (a : Int32) (L2 : sH), a = r_mfeed (s 15) c → L2 = mdW (upd s 15 (q_mfeed (s 15) c)) (va_up A 8 (q_mfeedF (s 15) c (A 8))) → s_PP (some .int) false c_X6_feed.2.2.2.2.2 [.ref 0, .int c] (mdW s A) (some (.int a)) L2 := fun a L2 ha hL => ⟨rfl, ⟨by rw [ha]; rfl, by rw [hL]; rfl⟩, fun h => by cases h⟩
  have same : (q_mfeed (s 15) c = s 15) → q_mfeedF (s 15) c (A 8) = A 8 → mdW s A = mdW (upd s 15 (q_mfeed (s 15) c)) (va_up A 8 (q_mfeedF (s 15) c (A 8))) := fun h1 h2 => by rw [h1, h2, upd_I, va_upI]
  refine hG 0 _ _ _ (And.intro ⟨_, _, _, rfl⟩ ?_)
  intro r hr
  obtain ⟨b, hb⟩ : ∃ b, b = p_in64 c.toInt64 0 (127 : Int32).toInt64 := ⟨_, rfl⟩
  obtain rfl : r = some (.int b) := by rw [hb]; exact hr
  refine And.intro (fun h => ?_) (fun h => ?_)
  · have h : c < 0 ∨ 127 < c := (p_rng _ _).mp (hb.symm.trans h)
    exact fin _ _ (by rw [r_mfeed, if_pos h]) (same (by rw [q_mfeed, if_pos h]) (by funext j; rw [q_mfeedF, if_pos h]))
  have h : ¬ (c < 0 ∨ 127 < c) := fun q => h (hb.trans ((p_rng _ _).mpr q))
  refine And.intro (fun h2 => ?_) (fun h2 => ?_)
  · have h2 : s 15 = 160 := h2
    exact fin _ _ (by rw [r_mfeed, if_neg h, if_pos h2]) (same (by rw [q_mfeed, if_neg h, if_pos h2]) (by funext j; rw [q_mfeedF, if_neg h, if_pos h2]))
  have h2 : ¬ s 15 = 160 := h2
  have ht2 : t ≠ 160 := fun q => h2 (by rw [hl, q]; rfl)
  refine And.intro ?_ ?_
  · show vp_in (s 15) 160
    rw [hl]; exact vp_in_nI (by omega) (by omega)
  exact fin _ _ (by rw [r_mfeed, if_neg h, if_neg h2]) (by rw [q_mfeed, if_neg h, if_neg h2, show q_mfeedF (s 15) c (A 8) = upd (A 8) (s 15).toNatClampNeg c by funext j; rw [q_mfeedF, if_neg h, if_neg h2]]; rfl)
def r_mend (ln n : Int32) : Int32 := if n < 0 ∨ ln < n then -1 else ln
def q_mend (ln n : Int32) : Int32 := if n < 0 ∨ ln < n then ln else n
def c_X6_end : sCtr := ((yX6_end, cX6_end, 3, (some .int)), (7, 1, 1, 25), false,
  mdfp,
  fun vs L => ∃ (s : Nat → Int32) (A : Nat → Nat → Int32) (c : Int32), vs = [.ref 0, .int c] ∧ L = mdW s A,
  fun vs L r L' => r = some (.int (r_mend (oI L 0 15) (vI vs 1))) ∧ L' = mdW (upd (oI L 0) 15 (q_mend (oI L 0 15) (vI vs 1))) (bF L))
theorem sta_X6_end : s_Sta c_X6_end := ⟨⟨by decide +kernel, by decide +kernel, by decide +kernel⟩, List.mem_of_getElem? (i := 927) (by decide +kernel), List.mem_of_getElem? (i := 70) (by decide +kernel), ⟨List.mem_of_getElem? (i := 925) (by decide +kernel), List.mem_of_getElem? (i := 926) (by decide +kernel), Or.inl ⟨_, rfl, rfl⟩⟩⟩

def k_X6_end : List sBk := [
  (0, false, [true, true, false], [o0 0 (.iload_n 1), o0 1 .i2l, oK 2 (.lconst 0) (.long 0), o0 3 (.aload_n 0), oN 4 (.getfield 94) [6, 15, 837], o0 7 .i2l, oC 8 (.invokestatic 90) [921] c_X6_in, oN 11 (.ifCond .ne 5) [1], oK 14 (.iconst (-1)) (.int (-1)), o0 15 .ireturn]),
  (16, false, [true, true, false], [o0 16 (.aload_n 0), oN 17 (.getfield 94) [6, 15, 837], o0 20 (.istore_n 2), o0 21 (.aload_n 0), o0 22 (.iload_n 1), oN 23 (.putfield 94) [6, 15, 837], o0 26 (.iload_n 2), o0 27 .ireturn])]
set_option maxRecDepth 100000 in
theorem ck_X6_end : s_ck RX6 cX6_end 3 1 25 k_X6_end = true := by decide +kernel

set_option maxRecDepth 100000 in
set_option maxHeartbeats 1000000 in
theorem ok_X6_end : s_Ok c_X6_end := by
  refine s_ok_of k_X6_end (by decide +kernel) sta_X6_end ck_X6_end (And.intro ok_X6_in trivial) ?_
  rintro vs L ⟨s, A, c, rfl, rfl⟩
  refine ⟨rfl, fun G hG => ?_⟩
  have fin : ∀ (a : Int32) (L2 : sH), a = r_mend (s 15) c → L2 = mdW (upd s 15 (q_mend (s 15) c)) A → s_PP (some .int) false c_X6_end.2.2.2.2.2 [.ref 0, .int c] (mdW s A) (some (.int a)) L2 := fun a L2 ha hL => ⟨rfl, ⟨by rw [ha]; rfl, by rw [hL]; rfl⟩, fun h => by cases h⟩
  refine hG 0 _ _ _ (And.intro ⟨_, _, _, rfl⟩ ?_)
  intro r hr
  obtain ⟨b, hb⟩ : ∃ b, b = p_in64 c.toInt64 0 (s 15).toInt64 := ⟨_, rfl⟩
  obtain rfl : r = some (.int b) := by rw [hb]; exact hr
  refine And.intro (fun h => ?_) (fun h => ?_)
  · have h : c < 0 ∨ s 15 < c := (p_rng _ _).mp (hb.symm.trans h)
    exact fin _ _ (by rw [r_mend, if_pos h]) (by rw [q_mend, if_pos h, upd_I])
  have h : ¬ (c < 0 ∨ s 15 < c) := fun q => h (hb.trans ((p_rng _ _).mpr q))
  exact fin _ _ (by rw [r_mend, if_neg h]) (by rw [q_mend, if_neg h]; rfl)
def c_X6_fault : sCtr := ((yX6_fault, cX6_fault, 1, (some .int)), (7, 0, 0, 0), true,
  mdfp,
  fun vs L => ∃ (s : Nat → Int32) (A : Nat → Nat → Int32), vs = [.ref 0] ∧ L = mdW s A,
  fun _ L r _ => r = some (.int (oI L 0 20)))
theorem sta_X6_fault : s_Sta c_X6_fault := ⟨⟨by decide +kernel, by decide +kernel, by decide +kernel⟩, List.mem_of_getElem? (i := 1006) (by decide +kernel), List.mem_of_getElem? (i := 70) (by decide +kernel), ⟨List.mem_of_getElem? (i := 1004) (by decide +kernel), List.mem_of_getElem? (i := 1005) (by decide +kernel), Or.inl ⟨_, rfl, rfl⟩⟩⟩

def k_X6_fault : List sBk := [
  (0, false, [true], [o0 0 (.aload_n 0), oN 1 (.getfield 97) [6, 20, 842], o0 4 .ireturn])]
set_option maxRecDepth 100000 in
theorem ck_X6_fault : s_ck RX6 cX6_fault 1 0 0 k_X6_fault = true := by decide +kernel

set_option maxRecDepth 100000 in
set_option maxHeartbeats 1000000 in
theorem ok_X6_fault : s_Ok c_X6_fault := by
  refine s_ok_of k_X6_fault (by decide +kernel) sta_X6_fault ck_X6_fault trivial ?_
  rintro vs L ⟨s, A, rfl, rfl⟩
  exact ⟨rfl, fun G hG => hG 0 _ _ _ ⟨rfl, rfl, fun _ => rfl⟩⟩
def r_mrule (p0 y : Int32) (st : Nat → Int32) (x : Int32) : Int32 := if x = 0 then p0 else if x = 1 then y else if x = 2 then st 28 else if x = 3 then st 0 else if x = 4 then st 1 else if x = 5 then st 26 else if x = 6 then st 27 else if x = 7 then st 29 else -1
def c_X6_rule : sCtr := ((yX6_rule, cX6_rule, 2, (some .int)), (7, 1, 0, 0), true,
  mdfp,
  fun vs L => ∃ (s : Nat → Int32) (A : Nat → Nat → Int32) (x : Int32), vs = [.ref 0, .int x] ∧ L = mdW s A,
  fun vs L r _ => r = some (.int (r_mrule (oI L 0 2) (oI L 0 3) (bF L 1) (vI vs 1))))
theorem sta_X6_rule : s_Sta c_X6_rule := ⟨⟨by decide +kernel, by decide +kernel, by decide +kernel⟩, List.mem_of_getElem? (i := 1010) (by decide +kernel), List.mem_of_getElem? (i := 70) (by decide +kernel), ⟨List.mem_of_getElem? (i := 1008) (by decide +kernel), List.mem_of_getElem? (i := 1009) (by decide +kernel), Or.inl ⟨_, rfl, rfl⟩⟩⟩

def k_X6_rule : List sBk := [
  (0, false, [true, true], [o0 0 (.iload_n 1), oN 1 (.tableswitch 103 0 7 #[47, 52, 57, 65, 72, 79, 87, 95]) [9, 1, 2, 3, 4, 5, 6, 7, 8]]),
  (48, false, [true, false], [o0 48 (.aload_n 0), oN 49 (.getfield 82) [6, 2, 824], o0 52 .ireturn]),
  (53, false, [true, false], [o0 53 (.aload_n 0), oN 54 (.getfield 85) [6, 3, 825], o0 57 .ireturn]),
  (58, false, [true, false], [o0 58 (.aload_n 0), oN 59 (.getfield 7) [6, 0, 822], oK 62 (.bipush 28) (.int 28), o0 64 .iaload, o0 65 .ireturn]),
  (66, false, [true, false], [o0 66 (.aload_n 0), oN 67 (.getfield 7) [6, 0, 822], oK 70 (.iconst 0) (.int 0), o0 71 .iaload, o0 72 .ireturn]),
  (73, false, [true, false], [o0 73 (.aload_n 0), oN 74 (.getfield 7) [6, 0, 822], oK 77 (.iconst 1) (.int 1), o0 78 .iaload, o0 79 .ireturn]),
  (80, false, [true, false], [o0 80 (.aload_n 0), oN 81 (.getfield 7) [6, 0, 822], oK 84 (.bipush 26) (.int 26), o0 86 .iaload, o0 87 .ireturn]),
  (88, false, [true, false], [o0 88 (.aload_n 0), oN 89 (.getfield 7) [6, 0, 822], oK 92 (.bipush 27) (.int 27), o0 94 .iaload, o0 95 .ireturn]),
  (96, false, [true, false], [o0 96 (.aload_n 0), oN 97 (.getfield 7) [6, 0, 822], oK 100 (.bipush 29) (.int 29), o0 102 .iaload, o0 103 .ireturn]),
  (104, false, [false, false], [oK 104 (.iconst (-1)) (.int (-1)), o0 105 .ireturn])]
set_option maxRecDepth 100000 in
theorem ck_X6_rule : s_ck RX6 cX6_rule 2 0 0 k_X6_rule = true := by decide +kernel

set_option maxRecDepth 100000 in
set_option maxHeartbeats 1000000 in
theorem ok_X6_rule : s_Ok c_X6_rule := by
  refine s_ok_of k_X6_rule (by decide +kernel) sta_X6_rule ck_X6_rule trivial ?_
  rintro vs L ⟨s, A, x, rfl, rfl⟩
  refine ⟨rfl, fun G hG => ?_⟩
  refine hG 0 _ _ _ (And.intro ?_ ?_)
  · refine And.intro ?_ (And.intro ?_ (And.intro ?_ (And.intro ?_ (And.intro ?_ (And.intro ?_ (And.intro ?_ (And.intro ?_ trivial)))))))
    · intro h; obtain rfl := h; exact ⟨rfl, rfl, fun _ => rfl⟩
    · intro h; obtain rfl := h; exact ⟨rfl, rfl, fun _ => rfl⟩
    · intro h; obtain rfl := h; exact And.intro (vp_in_nI (n := 28) (N := 159) (by decide) (by decide)) ⟨rfl, rfl, fun _ => rfl⟩
    · intro h; obtain rfl := h; exact And.intro (vp_in_nI (n := 0) (N := 159) (by decide) (by decide)) ⟨rfl, rfl, fun _ => rfl⟩
    · intro h; obtain rfl := h; exact And.intro (vp_in_nI (n := 1) (N := 159) (by decide) (by decide)) ⟨rfl, rfl, fun _ => rfl⟩
    · intro h; obtain rfl := h; exact And.intro (vp_in_nI (n := 26) (N := 159) (by decide) (by decide)) ⟨rfl, rfl, fun _ => rfl⟩
    · intro h; obtain rfl := h; exact And.intro (vp_in_nI (n := 27) (N := 159) (by decide) (by decide)) ⟨rfl, rfl, fun _ => rfl⟩
    · intro h; obtain rfl := h; exact And.intro (vp_in_nI (n := 29) (N := 159) (by decide) (by decide)) ⟨rfl, rfl, fun _ => rfl⟩
  · intro h
    refine ⟨rfl, ?_, fun _ => rfl⟩
    show some (Value.int (-1)) = some (Value.int (r_mrule (s 2) (s 3) (A 1) x))
    have t := fun k hk => tab_out h k hk
    rw [r_mrule, if_neg (t 0 (by decide)), if_neg (t 1 (by decide)), if_neg (t 2 (by decide)), if_neg (t 3 (by decide)), if_neg (t 4 (by decide)), if_neg (t 5 (by decide)), if_neg (t 6 (by decide)), if_neg (t 7 (by decide))]
def r_mwish (y : Int32) (st ye pr : Nat → Int32) (n : Nat) (w x : Int32) : Int32 := if p_in y w = 0 then -1 else if x = 0 then ye w.toNatClampNeg else if x = 1 then pr w.toNatClampNeg else if x = 2 then st (2 + w.toNatClampNeg) else if x = 3 then st (10 + w.toNatClampNeg) else if x = 4 then st (18 + w.toNatClampNeg) else if x = 5 then p_fw (fun i => st (10 + i)) n ((1 : Int32) <<< (w &&& 31)) else if x = 6 then p_ga (fun i => st (2 + i)) n (p_fw (fun i => st (10 + i)) n ((1 : Int32) <<< (w &&& 31))) else -1
def c_X6_wish : sCtr := ((yX6_wish, cX6_wish, 3, (some .int)), (7, 2, 2, 47), true,
  mdfp,
  fun vs L => ∃ (s : Nat → Int32) (A : Nat → Nat → Int32) (w x : Int32) (n : Nat), vs = [.ref 0, .int w, .int x] ∧ L = mdW s A ∧ s 3 = nI n ∧ n ≤ 8,
  fun vs L r _ => r = some (.int (r_mwish (oI L 0 3) (bF L 1) (bF L 3) (bF L 4) (oI L 0 3).toNatClampNeg (vI vs 1) (vI vs 2))))
theorem sta_X6_wish : s_Sta c_X6_wish := ⟨⟨by decide +kernel, by decide +kernel, by decide +kernel⟩, List.mem_of_getElem? (i := 1014) (by decide +kernel), List.mem_of_getElem? (i := 70) (by decide +kernel), ⟨List.mem_of_getElem? (i := 1012) (by decide +kernel), List.mem_of_getElem? (i := 1013) (by decide +kernel), Or.inl ⟨_, rfl, rfl⟩⟩⟩

def k_X6_wish : List sBk := [
  (0, false, [true, true, true], [o0 0 (.aload_n 0), o0 1 (.iload_n 1), oC 2 (.invokevirtual 185) [1015] c_X6_isWish, oN 5 (.ifCond .ne 5) [1], oK 8 (.iconst (-1)) (.int (-1)), o0 9 .ireturn]),
  (10, false, [true, true, true], [o0 10 (.iload_n 2), oN 11 (.tableswitch 105 0 6 #[41, 48, 55, 64, 74, 84, 92]) [9, 2, 3, 4, 5, 6, 7, 8]]),
  (52, false, [true, true, false], [o0 52 (.aload_n 0), oN 53 (.getfield 17) [6, 4, 826], o0 56 (.iload_n 1), o0 57 .iaload, o0 58 .ireturn]),
  (59, false, [true, true, false], [o0 59 (.aload_n 0), oN 60 (.getfield 20) [6, 5, 827], o0 63 (.iload_n 1), o0 64 .iaload, o0 65 .ireturn]),
  (66, false, [true, true, false], [o0 66 (.aload_n 0), oN 67 (.getfield 7) [6, 0, 822], oK 70 (.iconst 2) (.int 2), o0 71 (.iload_n 1), o0 72 .iadd, o0 73 .iaload, o0 74 .ireturn]),
  (75, false, [true, true, false], [o0 75 (.aload_n 0), oN 76 (.getfield 7) [6, 0, 822], oK 79 (.bipush 10) (.int 10), o0 81 (.iload_n 1), o0 82 .iadd, o0 83 .iaload, o0 84 .ireturn]),
  (85, false, [true, true, false], [o0 85 (.aload_n 0), oN 86 (.getfield 7) [6, 0, 822], oK 89 (.bipush 18) (.int 18), o0 91 (.iload_n 1), o0 92 .iadd, o0 93 .iaload, o0 94 .ireturn]),
  (95, false, [true, true, false], [o0 95 (.aload_n 0), oK 96 (.iconst 1) (.int 1), o0 97 (.iload_n 1), o0 98 .ishl, oC 99 (.invokevirtual 189) [1019] c_X6_follow, o0 102 .ireturn]),
  (103, false, [true, true, false], [o0 103 (.aload_n 0), oK 104 (.iconst 2) (.int 2), o0 105 (.aload_n 0), oK 106 (.iconst 1) (.int 1), o0 107 (.iload_n 1), o0 108 .ishl, oC 109 (.invokevirtual 189) [1019] c_X6_follow, oC 112 (.invokevirtual 182) [1023] c_X6_allOf, o0 115 .ireturn]),
  (116, false, [false, false, false], [oK 116 (.iconst (-1)) (.int (-1)), o0 117 .ireturn])]
set_option maxRecDepth 100000 in
theorem ck_X6_wish : s_ck RX6 cX6_wish 3 2 47 k_X6_wish = true := by decide +kernel

set_option maxRecDepth 100000 in
set_option maxHeartbeats 1000000 in
theorem ok_X6_wish : s_Ok c_X6_wish := by
  refine s_ok_of k_X6_wish (by decide +kernel) sta_X6_wish ck_X6_wish (And.intro ok_X6_isWish (And.intro ok_X6_follow (And.intro ok_X6_follow (And.intro ok_X6_allOf trivial)))) ?_
  rintro vs L ⟨s, A, w, x, n, rfl, rfl, hn, hn8⟩
  refine ⟨rfl, fun G hG => ?_⟩
  have fin : ∀ a : Int32, a = r_mwish (s 3) (A 1) (A 3) (A 4) (s 3).toNatClampNeg w x → s_PP (some .int) true c_X6_wish.2.2.2.2.2 [.ref 0, .int w, .int x] (mdW s A) (some (.int a)) (mdW s A) := fun a ha => ⟨rfl, by rw [ha]; rfl, fun _ => rfl⟩
  refine hG 0 _ _ _ (And.intro ⟨s, A, w, n, rfl, rfl, hn, hn8⟩ ?_)
  intro r hr
  obtain rfl : r = some (.int (p_in (s 3) w)) := hr
  refine And.intro (fun h => ?_) (fun h => ?_)
  · exact fin _ (by rw [r_mwish, if_pos h])
  have h' := h
  rw [hn] at h
  obtain ⟨j, hj, hw⟩ := p_in_ne hn8 h
  have hin : vp_in w 8 := by rw [hw]; exact vp_in_nI (by omega) (by omega)
  have ex : ∀ (K : Nat), K ≤ 18 → nI K + w = nI (K + j) := fun K _ => by rw [hw]; exact nI_add K j
  have ec : ∀ (K : Nat), K ≤ 18 → (nI K + w).toNatClampNeg = K + w.toNatClampNeg := fun K hK => by rw [ex K hK, hw, nI_clamp (by omega), nI_clamp (by omega)]
  have ei : ∀ (K : Nat), K ≤ 18 → vp_in (nI K + w) 159 := fun K hK => by rw [ex K hK]; exact vp_in_nI (by omega) (by omega)
  refine And.intro ?_ ?_
  · refine And.intro ?_ (And.intro ?_ (And.intro ?_ (And.intro ?_ (And.intro ?_ (And.intro ?_ (And.intro ?_ trivial))))))
    · intro hx; obtain rfl := hx; exact And.intro hin (fin _ (by rw [r_mwish, if_neg h']; rfl))
    · intro hx; obtain rfl := hx; exact And.intro hin (fin _ (by rw [r_mwish, if_neg h']; rfl))
    · intro hx; obtain rfl := hx; exact And.intro (ei 2 (by omega)) (fin _ (by rw [r_mwish, if_neg h', ← ec 2 (by omega)]; rfl))
    · intro hx; obtain rfl := hx; exact And.intro (ei 10 (by omega)) (fin _ (by rw [r_mwish, if_neg h', ← ec 10 (by omega)]; rfl))
    · intro hx; obtain rfl := hx; exact And.intro (ei 18 (by omega)) (fin _ (by rw [r_mwish, if_neg h', ← ec 18 (by omega)]; rfl))
    · intro hx; obtain rfl := hx
      refine And.intro ⟨s, A, _, n, rfl, rfl, hn, hn8⟩ ?_
      intro r hr
      obtain rfl : r = some (.int (p_fw (mNd A) (s 3).toNatClampNeg ((1 : Int32) <<< (w &&& 31)))) := hr
      exact fin _ (by rw [r_mwish, if_neg h']; rfl)
    · intro hx; obtain rfl := hx
      refine And.intro ⟨s, A, _, n, rfl, rfl, hn, hn8⟩ ?_
      intro r hr
      obtain rfl : r = some (.int (p_fw (mNd A) (s 3).toNatClampNeg ((1 : Int32) <<< (w &&& 31)))) := hr
      refine And.intro ⟨s, A, 2, _, n, rfl, rfl, hn, hn8, by omega⟩ ?_
      intro r hr
      obtain rfl : r = some (.int (p_ga (mOn A) (s 3).toNatClampNeg (p_fw (mNd A) (s 3).toNatClampNeg ((1 : Int32) <<< (w &&& 31))))) := hr
      exact fin _ (by rw [r_mwish, if_neg h']; rfl)
  · intro hx
    have t := fun k hk => tab_out hx k hk
    exact fin _ (by rw [r_mwish, if_neg h', if_neg (t 0 (by decide)), if_neg (t 1 (by decide)), if_neg (t 2 (by decide)), if_neg (t 3 (by decide)), if_neg (t 4 (by decide)), if_neg (t 5 (by decide)), if_neg (t 6 (by decide))])

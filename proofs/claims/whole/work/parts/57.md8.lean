/-! ===== WishClerkModel: keeping, sheets, counts ===== -/
def q_cpk (st : Nat → Int32) (a b i : Nat) : Nat → Int32 := fun j => if a ≤ j ∧ j < a + i then st (b + (j - a)) else st j
theorem q_cpk0 (st : Nat → Int32) (a b : Nat) : q_cpk st a b 0 = st := by
  funext j
  rw [q_cpk, if_neg (by omega)]
theorem q_cpkS (st : Nat → Int32) (a b i : Nat) (h : b + i < a ∨ a + i ≤ b + i) : upd (q_cpk st a b i) (a + i) (q_cpk st a b i (b + i)) = q_cpk st a b (i + 1) := by
  funext j
  have e : q_cpk st a b i (b + i) = st (b + i) := by
    rw [q_cpk, if_neg (by omega)]
  rw [e, upd]
  by_cases hj : j = a + i
  · rw [if_pos hj, q_cpk, if_pos (by omega), show j - a = i by omega]
  · rw [if_neg hj]
    unfold q_cpk
    by_cases h2 : a ≤ j ∧ j < a + i
    · rw [if_pos h2, if_pos (by omega)]
    · rw [if_neg h2, if_neg (by omega)]
def c_X6_copies : sCtr := ((yX6_copies, cX6_copies, 4, none), (7, 2, 0, 0), false,
  mdfp,
  fun vs L => ∃ (s : Nat → Int32) (A : Nat → Nat → Int32) (x y : Int32) (a b : Nat), vs = [.ref 0, .int x, .int y] ∧ L = mdW s A ∧ x = nI a ∧ y = nI b ∧ a + 53 ≤ 159 ∧ b + 53 ≤ 159 ∧ (b + 53 ≤ a ∨ a ≤ b),
  fun vs L r L' => r = none ∧ L' = mdU L (q_cpk (bF L 1) (vI vs 1).toNatClampNeg (vI vs 2).toNatClampNeg 53))
theorem sta_X6_copies : s_Sta c_X6_copies := ⟨⟨by decide +kernel, by decide +kernel, by decide +kernel⟩, List.mem_of_getElem? (i := 1221) (by decide +kernel), List.mem_of_getElem? (i := 70) (by decide +kernel), ⟨List.mem_of_getElem? (i := 1220) (by decide +kernel), List.mem_of_getElem? (i := 62) (by decide +kernel), Or.inl ⟨_, rfl, rfl⟩⟩⟩

def k_X6_copies : List sBk := [
  (0, false, [true, true, true, false], [oK 0 (.iconst 0) (.int 0), o0 1 (.istore_n 3), oN 2 .nop [1]]),
  (2, true, [true, true, true, true], [o0 2 (.iload_n 3), oK 3 (.bipush 53) (.int 53), oN 5 (.if_icmp .ge 25) [2], o0 8 (.aload_n 0), oN 9 (.getfield 7) [6, 0, 822], o0 12 (.iload_n 1), o0 13 (.iload_n 3), o0 14 .iadd, o0 15 (.aload_n 0), oN 16 (.getfield 7) [6, 0, 822], o0 19 (.iload_n 2), o0 20 (.iload_n 3), o0 21 .iadd, o0 22 .iaload, o0 23 .iastore, oK 24 (.iinc 3 1) (.int 1), oN 27 (.goto (-25)) [1]]),
  (30, false, [false, false, false, false], [o0 30 .return_])]
set_option maxRecDepth 100000 in
theorem ck_X6_copies : s_ck RX6 cX6_copies 4 0 0 k_X6_copies = true := by decide +kernel

set_option maxRecDepth 100000 in
set_option maxHeartbeats 1000000 in
theorem ok_X6_copies : s_Ok c_X6_copies := by
  refine s_ok_of k_X6_copies (by decide +kernel) sta_X6_copies ck_X6_copies trivial ?_
  rintro vs L ⟨s, A, x, y, a, b, rfl, rfl, hx, hy, ha, hb, hd⟩
  refine ⟨rfl, fun G hG => ?_⟩
  have loop : ∀ (k i : Nat) (z : Int32) (f : Nat → Int32), i + k = 53 → z = nI i → f = q_cpk (A 1) a b i → G 1 [some (.ref 0), some (.int x), some (.int y), some (.int z)] [] (mdW s (va_up A 1 f)) := by
    intro k
    induction k with
    | zero =>
      intro i z f hi hz hf
      refine hG 1 _ _ _ (And.intro (fun h => ?_) (fun h => ?_))
      · rw [hz, show (53 : Int32) = nI 53 from rfl, nI_ltI (by omega) (by omega)] at h; omega
      · refine ⟨rfl, ⟨rfl, ?_⟩, fun h => by cases h⟩
        show mdW s (va_up A 1 f) = mdW s (va_up A 1 (q_cpk (A 1) x.toNatClampNeg y.toNatClampNeg 53))
        rw [hx, hy, nI_clamp (by omega), nI_clamp (by omega), hf, show i = 53 by omega]
    | succ k ih =>
      intro i z f hi hz hf
      refine hG 1 _ _ _ (And.intro (fun h => ?_) (fun h => ?_))
      · have e1 : x + z = nI (a + i) := by rw [hx, hz, nI_add]
        have e2 : y + z = nI (b + i) := by rw [hy, hz, nI_add]
        refine And.intro ?_ (And.intro ?_ ?_)
        · show vp_in (y + z) 159
          rw [e2]; exact vi159 _ (by omega)
        · show vp_in (x + z) 159
          rw [e1]; exact vi159 _ (by omega)
        · exact ih (i + 1) _ (upd f (x + z).toNatClampNeg (f (y + z).toNatClampNeg)) (by omega) (by rw [hz, nI_1]) (by
            rw [e1, e2, nI_clamp (by omega), nI_clamp (by omega), hf]
            exact q_cpkS _ _ _ _ (by omega))
      · rw [hz, show (53 : Int32) = nI 53 from rfl, nI_ltI (by omega) (by omega)] at h; omega
  have l := loop 53 0 0 (A 1) (by omega) nI_0.symm (q_cpk0 _ _ _).symm
  rw [va_up1] at l
  exact hG 0 _ _ _ l
def r_mkeep (ke : Nat → Int32) (z : Int32) : Int32 := if z < 0 ∨ 1 < z then -1 else if ke z.toNatClampNeg = 0 then 0 else 1
def q_mkeepK (ke : Nat → Int32) (z : Int32) : Nat → Int32 := fun j => if z < 0 ∨ 1 < z then ke j else upd ke z.toNatClampNeg 1 j
def q_mkeep (st : Nat → Int32) (z : Int32) : Nat → Int32 := fun j => if z < 0 ∨ 1 < z then st j else q_cpk st (53 * (z.toNatClampNeg + 1)) 0 53 j
theorem p_01 {z : Int32} (h : ¬ (z < 0 ∨ 1 < z)) : z = nI 0 ∨ z = nI 1 := by
  obtain ⟨j, hj, rfl⟩ := nI_of (fun q => h (Or.inl q))
  have : ¬ 1 < j := fun q => h (Or.inr ((nI_ltI (a := 1) (by omega) hj).mpr q))
  rcases (show j = 0 ∨ j = 1 by omega) with rfl | rfl
  · exact Or.inl rfl
  · exact Or.inr rfl
def c_X6_keep : sCtr := ((yX6_keep, cX6_keep, 3, (some .int)), (7, 1, 1, 25), false,
  mdfp,
  fun vs L => ∃ (s : Nat → Int32) (A : Nat → Nat → Int32) (z : Int32), vs = [.ref 0, .int z] ∧ L = mdW s A,
  fun vs L r L' => r = some (.int (r_mkeep (bF L 2) (vI vs 1))) ∧ L' = mdW (oI L 0) (va_up (va_up (bF L) 2 (q_mkeepK (bF L 2) (vI vs 1))) 1 (q_mkeep (bF L 1) (vI vs 1))))
theorem sta_X6_keep : s_Sta c_X6_keep := ⟨⟨by decide +kernel, by decide +kernel, by decide +kernel⟩, List.mem_of_getElem? (i := 1217) (by decide +kernel), List.mem_of_getElem? (i := 70) (by decide +kernel), ⟨List.mem_of_getElem? (i := 1215) (by decide +kernel), List.mem_of_getElem? (i := 1216) (by decide +kernel), Or.inl ⟨_, rfl, rfl⟩⟩⟩

def k_X6_keep : List sBk := [
  (0, false, [true, true, false], [o0 0 (.iload_n 1), o0 1 .i2l, oK 2 (.lconst 0) (.long 0), oK 3 (.lconst 1) (.long 1), oC 4 (.invokestatic 90) [921] c_X6_in, oN 7 (.ifCond .ne 5) [1], oK 10 (.iconst (-1)) (.int (-1)), o0 11 .ireturn]),
  (12, false, [true, true, false], [o0 12 (.aload_n 0), oN 13 (.getfield 13) [6, 1, 823], o0 16 (.iload_n 1), o0 17 .baload, oC 18 (.invokestatic 150) [976] c_X6_flag, o0 21 (.istore_n 2), o0 22 (.aload_n 0), oN 23 (.getfield 13) [6, 1, 823], o0 26 (.iload_n 1), oK 27 (.iconst 1) (.int 1), o0 28 .bastore, o0 29 (.aload_n 0), oK 30 (.bipush 53) (.int 53), o0 32 (.iload_n 1), oK 33 (.iconst 1) (.int 1), o0 34 .iadd, o0 35 .imul, oK 36 (.iconst 0) (.int 0), oC 37 (.invokevirtual 264) [1218] c_X6_copies, o0 40 (.iload_n 2), o0 41 .ireturn])]
set_option maxRecDepth 100000 in
theorem ck_X6_keep : s_ck RX6 cX6_keep 3 1 25 k_X6_keep = true := by decide +kernel

set_option maxRecDepth 100000 in
set_option maxHeartbeats 1000000 in
theorem ok_X6_keep : s_Ok c_X6_keep := by
  refine s_ok_of k_X6_keep (by decide +kernel) sta_X6_keep ck_X6_keep (And.intro ok_X6_in (And.intro ok_X6_flag (And.intro ok_X6_copies trivial))) ?_
  rintro vs L ⟨s, A, z, rfl, rfl⟩
  refine ⟨rfl, fun G hG => ?_⟩
  have fin : ∀ (a : Int32) (L2 : sH), a = r_mkeep (A 2) z → L2 = mdW s (va_up (va_up A 2 (q_mkeepK (A 2) z)) 1 (q_mkeep (A 1) z)) → s_PP (some .int) false c_X6_keep.2.2.2.2.2 [.ref 0, .int z] (mdW s A) (some (.int a)) L2 := fun a L2 ha hL => ⟨rfl, ⟨by rw [ha]; rfl, by rw [hL]; rfl⟩, fun h => by cases h⟩
  refine hG 0 _ _ _ (And.intro ⟨_, _, _, rfl⟩ ?_)
  intro r hr
  obtain ⟨b, hb⟩ : ∃ b, b = p_in64 z.toInt64 0 (1 : Int32).toInt64 := ⟨_, rfl⟩
  obtain rfl : r = some (.int b) := by rw [hb]; exact hr
  refine And.intro (fun h => ?_) (fun h => ?_)
  · have h : z < 0 ∨ 1 < z := (p_rng _ _).mp (hb.symm.trans h)
    refine fin _ _ (by rw [r_mkeep, if_pos h]) ?_
    rw [show q_mkeepK (A 2) z = A 2 by funext j; rw [q_mkeepK, if_pos h], va_upI, show q_mkeep (A 1) z = A 1 by funext j; rw [q_mkeep, if_pos h], va_up1]
  have h : ¬ (z < 0 ∨ 1 < z) := fun q => h (hb.trans ((p_rng _ _).mpr q))
  have hin : vp_in z 2 := by
    rcases p_01 h with rfl | rfl
    · exact vp_in_nI (by omega) (by omega)
    · exact vp_in_nI (by omega) (by omega)
  have he : (53 : Int32) * (z + 1) = nI (53 * (z.toNatClampNeg + 1)) := by
    rcases p_01 h with rfl | rfl <;> rfl
  have hz1 : z.toNatClampNeg ≤ 1 := by
    rcases p_01 h with rfl | rfl <;> decide
  refine And.intro hin (And.intro ⟨_, rfl⟩ ?_)
  intro r hr
  obtain rfl : r = some (.int (if A 2 z.toNatClampNeg = 0 then 0 else 1)) := hr
  refine And.intro hin (And.intro ⟨s, va_up A 2 (upd (A 2) z.toNatClampNeg 1), _, _, 53 * (z.toNatClampNeg + 1), 0, rfl, rfl, he, rfl, by omega, by omega, by omega⟩ ?_)
  rintro r L' ⟨hr, hL⟩
  obtain rfl : r = none := hr
  obtain rfl : L' = mdW s (va_up (va_up A 2 (upd (A 2) z.toNatClampNeg 1)) 1 (q_cpk (A 1) (53 * (z.toNatClampNeg + 1)) 0 53)) := by
    have e : ((53 : Int32) * (z + 1)).toNatClampNeg = 53 * (z.toNatClampNeg + 1) := by rw [he, nI_clamp (by omega)]
    rw [← e]; exact hL
  exact fin _ _ (by rw [r_mkeep, if_neg h]) (by rw [show q_mkeepK (A 2) z = upd (A 2) z.toNatClampNeg 1 by funext j; rw [q_mkeepK, if_neg h], show q_mkeep (A 1) z = q_cpk (A 1) (53 * (z.toNatClampNeg + 1)) 0 53 by funext j; rw [q_mkeep, if_neg h]]; rfl)
def r_mback (st ke : Nat → Int32) (z : Int32) : Int32 := if z < 0 ∨ 1 < z then -1 else if ke z.toNatClampNeg = 0 then -2 else st (53 * (z.toNatClampNeg + 1) + 26)
def q_mback (st ke : Nat → Int32) (z : Int32) : Nat → Int32 := fun j => if z < 0 ∨ 1 < z then st j else if ke z.toNatClampNeg = 0 then st j else q_cpk st 0 (53 * (z.toNatClampNeg + 1)) 53 j
def c_X6_back : sCtr := ((yX6_back, cX6_back, 2, (some .int)), (7, 1, 1, 25), false,
  mdfp,
  fun vs L => ∃ (s : Nat → Int32) (A : Nat → Nat → Int32) (z : Int32), vs = [.ref 0, .int z] ∧ L = mdW s A,
  fun vs L r L' => r = some (.int (r_mback (bF L 1) (bF L 2) (vI vs 1))) ∧ L' = mdU L (q_mback (bF L 1) (bF L 2) (vI vs 1)))
theorem sta_X6_back : s_Sta c_X6_back := ⟨⟨by decide +kernel, by decide +kernel, by decide +kernel⟩, List.mem_of_getElem? (i := 1225) (by decide +kernel), List.mem_of_getElem? (i := 70) (by decide +kernel), ⟨List.mem_of_getElem? (i := 1223) (by decide +kernel), List.mem_of_getElem? (i := 1224) (by decide +kernel), Or.inl ⟨_, rfl, rfl⟩⟩⟩

def k_X6_back : List sBk := [
  (0, false, [true, true], [o0 0 (.iload_n 1), o0 1 .i2l, oK 2 (.lconst 0) (.long 0), oK 3 (.lconst 1) (.long 1), oC 4 (.invokestatic 90) [921] c_X6_in, oN 7 (.ifCond .ne 5) [1], oK 10 (.iconst (-1)) (.int (-1)), o0 11 .ireturn]),
  (12, false, [true, true], [o0 12 (.aload_n 0), oN 13 (.getfield 13) [6, 1, 823], o0 16 (.iload_n 1), o0 17 .baload, oN 18 (.ifCond .ne 6) [2], oK 21 (.bipush (-2)) (.int (-2)), o0 23 .ireturn]),
  (24, false, [true, true], [o0 24 (.aload_n 0), oK 25 (.iconst 0) (.int 0), oK 26 (.bipush 53) (.int 53), o0 28 (.iload_n 1), oK 29 (.iconst 1) (.int 1), o0 30 .iadd, o0 31 .imul, oC 32 (.invokevirtual 264) [1218] c_X6_copies, o0 35 (.aload_n 0), oN 36 (.getfield 7) [6, 0, 822], oK 39 (.bipush 26) (.int 26), o0 41 .iaload, o0 42 .ireturn])]
set_option maxRecDepth 100000 in
theorem ck_X6_back : s_ck RX6 cX6_back 2 1 25 k_X6_back = true := by decide +kernel

set_option maxRecDepth 100000 in
set_option maxHeartbeats 1000000 in
theorem ok_X6_back : s_Ok c_X6_back := by
  refine s_ok_of k_X6_back (by decide +kernel) sta_X6_back ck_X6_back (And.intro ok_X6_in (And.intro ok_X6_copies trivial)) ?_
  rintro vs L ⟨s, A, z, rfl, rfl⟩
  refine ⟨rfl, fun G hG => ?_⟩
  have fin : ∀ (a : Int32) (L2 : sH), a = r_mback (A 1) (A 2) z → L2 = mdW s (va_up A 1 (q_mback (A 1) (A 2) z)) → s_PP (some .int) false c_X6_back.2.2.2.2.2 [.ref 0, .int z] (mdW s A) (some (.int a)) L2 := fun a L2 ha hL => ⟨rfl, ⟨by rw [ha]; rfl, by rw [hL]; rfl⟩, fun h => by cases h⟩
  have same : q_mback (A 1) (A 2) z = A 1 → mdW s A = mdW s (va_up A 1 (q_mback (A 1) (A 2) z)) := fun h => by rw [h, va_up1]
  refine hG 0 _ _ _ (And.intro ⟨_, _, _, rfl⟩ ?_)
  intro r hr
  obtain ⟨b, hb⟩ : ∃ b, b = p_in64 z.toInt64 0 (1 : Int32).toInt64 := ⟨_, rfl⟩
  obtain rfl : r = some (.int b) := by rw [hb]; exact hr
  refine And.intro (fun h => ?_) (fun h => ?_)
  · have h : z < 0 ∨ 1 < z := (p_rng _ _).mp (hb.symm.trans h)
    exact fin _ _ (by rw [r_mback, if_pos h]) (same (by funext j; rw [q_mback, if_pos h]))
  have h : ¬ (z < 0 ∨ 1 < z) := fun q => h (hb.trans ((p_rng _ _).mpr q))
  have hin : vp_in z 2 := by
    rcases p_01 h with rfl | rfl
    · exact vp_in_nI (by omega) (by omega)
    · exact vp_in_nI (by omega) (by omega)
  have he : (53 : Int32) * (z + 1) = nI (53 * (z.toNatClampNeg + 1)) := by
    rcases p_01 h with rfl | rfl <;> rfl
  have hz1 : z.toNatClampNeg ≤ 1 := by
    rcases p_01 h with rfl | rfl <;> decide
  refine And.intro hin (And.intro (fun h2 => ?_) (fun h2 => ?_))
  · have h2 : A 2 z.toNatClampNeg = 0 := h2
    exact fin _ _ (by rw [r_mback, if_neg h, if_pos h2]) (same (by funext j; rw [q_mback, if_neg h, if_pos h2]))
  have h2 : ¬ A 2 z.toNatClampNeg = 0 := h2
  refine And.intro ⟨s, A, _, _, 0, 53 * (z.toNatClampNeg + 1), rfl, rfl, rfl, he, by omega, by omega, by omega⟩ ?_
  rintro r L' ⟨hr, hL⟩
  obtain rfl : r = none := hr
  obtain rfl : L' = mdW s (va_up A 1 (q_cpk (A 1) 0 (53 * (z.toNatClampNeg + 1)) 53)) := by
    have e : ((53 : Int32) * (z + 1)).toNatClampNeg = 53 * (z.toNatClampNeg + 1) := by rw [he, nI_clamp (by omega)]
    rw [← e]; exact hL
  refine And.intro (vi159 26 (by omega)) ?_
  refine fin _ _ ?_ (by rw [show q_mback (A 1) (A 2) z = q_cpk (A 1) 0 (53 * (z.toNatClampNeg + 1)) 53 by funext j; rw [q_mback, if_neg h, if_neg h2]]; rfl)
  show q_cpk (A 1) 0 (53 * (z.toNatClampNeg + 1)) 53 26 = _
  rw [r_mback, if_neg h, if_neg h2, q_cpk, if_pos (by omega)]
def c_X6_torn : sCtr := ((yX6_torn, cX6_torn, 1, (some .int)), (7, 0, 0, 0), true,
  mdfp,
  fun vs L => ∃ (s : Nat → Int32) (A : Nat → Nat → Int32), vs = [.ref 0] ∧ L = mdW s A,
  fun _ L r _ => r = some (.int (oI L 0 30)))
theorem sta_X6_torn : s_Sta c_X6_torn := ⟨⟨by decide +kernel, by decide +kernel, by decide +kernel⟩, List.mem_of_getElem? (i := 1247) (by decide +kernel), List.mem_of_getElem? (i := 70) (by decide +kernel), ⟨List.mem_of_getElem? (i := 1245) (by decide +kernel), List.mem_of_getElem? (i := 1246) (by decide +kernel), Or.inl ⟨_, rfl, rfl⟩⟩⟩

def k_X6_torn : List sBk := [
  (0, false, [true], [o0 0 (.aload_n 0), oN 1 (.getfield 277) [6, 30, 852], o0 4 .ireturn])]
set_option maxRecDepth 100000 in
theorem ck_X6_torn : s_ck RX6 cX6_torn 1 0 0 k_X6_torn = true := by decide +kernel

set_option maxRecDepth 100000 in
set_option maxHeartbeats 1000000 in
theorem ok_X6_torn : s_Ok c_X6_torn := by
  refine s_ok_of k_X6_torn (by decide +kernel) sta_X6_torn ck_X6_torn trivial ?_
  rintro vs L ⟨s, A, rfl, rfl⟩
  exact ⟨rfl, fun G hG => hG 0 _ _ _ ⟨rfl, rfl, fun _ => rfl⟩⟩
def p_isS (k l : Int32) : Int32 := if k < 0 ∨ 3 < k then 0 else if l < 0 ∨ 2 < l then 0 else 1
def c_X6_isSheet : sCtr := ((yX6_isSheet, cX6_isSheet, 2, (some .boolean)), (0, 2, 1, 25), true,
  fun _ _ => [],
  fun vs _ => ∃ k l : Int32, vs = [.int k, .int l],
  fun vs _ r _ => r = some (.int (p_isS (vI vs 0) (vI vs 1))))
theorem sta_X6_isSheet : s_Sta c_X6_isSheet := ⟨⟨by decide +kernel, by decide +kernel, by decide +kernel⟩, List.mem_of_getElem? (i := 1232) (by decide +kernel), List.mem_of_getElem? (i := 70) (by decide +kernel), List.mem_of_getElem? (i := 1231) (by decide +kernel)⟩

def k_X6_isSheet : List sBk := [
  (0, false, [true, true], [o0 0 (.iload_n 0), o0 1 .i2l, oK 2 (.lconst 0) (.long 0), oV 3 (.ldc2_w 250) [1195] (.long 3), oC 6 (.invokestatic 90) [921] c_X6_in, oN 9 (.ifCond .eq 19) [1], o0 12 (.iload_n 1), o0 13 .i2l, oK 14 (.lconst 0) (.long 0), oV 15 (.ldc2_w 267) [1233] (.long 2), oC 18 (.invokestatic 90) [921] c_X6_in, oN 21 (.ifCond .eq 7) [1], oK 24 (.iconst 1) (.int 1), oN 25 (.goto 4) [2]]),
  (28, false, [false, false], [oK 28 (.iconst 0) (.int 0), oN 29 .nop [2]]),
  (29, false, [false, false], [o0 29 .ireturn])]
set_option maxRecDepth 100000 in
theorem ck_X6_isSheet : s_ck RX6 cX6_isSheet 2 1 25 k_X6_isSheet = true := by decide +kernel

set_option maxRecDepth 100000 in
set_option maxHeartbeats 1000000 in
theorem ok_X6_isSheet : s_Ok c_X6_isSheet := by
  refine s_ok_of k_X6_isSheet (by decide +kernel) sta_X6_isSheet ck_X6_isSheet (And.intro ok_X6_in (And.intro ok_X6_in trivial)) ?_
  rintro vs L ⟨k, l, rfl⟩
  refine ⟨rfl, fun G hG => ?_⟩
  have fin : ∀ a : Int32, a = 0 ∨ a = 1 → a = p_isS k l → (a = 0 ∨ a = 1) ∧ s_PP (some .boolean) true c_X6_isSheet.2.2.2.2.2 [.int k, .int l] L (some (.int a)) L := fun a h01 ha => ⟨h01, rfl, by rw [ha]; rfl, fun _ => rfl⟩
  refine hG 0 _ _ _ (And.intro ⟨_, _, _, rfl⟩ ?_)
  intro r hr
  obtain ⟨b, hb⟩ : ∃ b, b = p_in64 k.toInt64 0 (3 : Int32).toInt64 := ⟨_, rfl⟩
  obtain rfl : r = some (.int b) := by rw [hb]; exact hr
  refine And.intro (fun h => ?_) (fun h => ?_)
  · have h : k < 0 ∨ 3 < k := (p_rng _ _).mp (hb.symm.trans h)
    exact fin _ (Or.inl rfl) (by rw [p_isS, if_pos h])
  have h : ¬ (k < 0 ∨ 3 < k) := fun q => h (hb.trans ((p_rng _ _).mpr q))
  refine And.intro ⟨_, _, _, rfl⟩ ?_
  intro r hr
  obtain ⟨b, hb⟩ : ∃ b, b = p_in64 l.toInt64 0 (2 : Int32).toInt64 := ⟨_, rfl⟩
  obtain rfl : r = some (.int b) := by rw [hb]; exact hr
  refine And.intro (fun h2 => ?_) (fun h2 => ?_)
  · have h2 : l < 0 ∨ 2 < l := (p_rng _ _).mp (hb.symm.trans h2)
    exact fin _ (Or.inl rfl) (by rw [p_isS, if_neg h, if_pos h2])
  have h2 : ¬ (l < 0 ∨ 2 < l) := fun q => h2 (hb.trans ((p_rng _ _).mpr q))
  exact fin _ (Or.inr rfl) (by rw [p_isS, if_neg h, if_neg h2])
def r_mcount (s st ke la si : Nat → Int32) (x : Int32) : Int32 := if x = 0 then p_bo (st 0) 8 else if x = 1 then p_bo (st 26) 8 else if x = 2 then st 36 else if x = 3 then (if ke 0 = 0 then 0 else 1) + (if ke 1 = 0 then 0 else 1) else if x = 4 then s 15 else if x = 5 then (if la 0 = -4 then -4 else si 0) else if x = 6 then p_bo (st 27) 8 else if x = 7 then p_bo (st 1) 8 else -1
def c_X6_count : sCtr := ((yX6_count, cX6_count, 2, (some .int)), (7, 1, 1, 22), true,
  mdfp,
  fun vs L => ∃ (s : Nat → Int32) (A : Nat → Nat → Int32) (x : Int32), vs = [.ref 0, .int x] ∧ L = mdW s A,
  fun vs L r _ => r = some (.int (r_mcount (oI L 0) (bF L 1) (bF L 2) (bF L 14) (bF L 15) (vI vs 1))))
theorem sta_X6_count : s_Sta c_X6_count := ⟨⟨by decide +kernel, by decide +kernel, by decide +kernel⟩, List.mem_of_getElem? (i := 1251) (by decide +kernel), List.mem_of_getElem? (i := 70) (by decide +kernel), ⟨List.mem_of_getElem? (i := 1249) (by decide +kernel), List.mem_of_getElem? (i := 1250) (by decide +kernel), Or.inl ⟨_, rfl, rfl⟩⟩⟩

def k_X6_count : List sBk := [
  (0, false, [true, true], [o0 0 (.iload_n 1), oN 1 (.tableswitch 145 0 7 #[47, 57, 68, 76, 96, 101, 124, 135]) [11, 1, 2, 3, 4, 5, 6, 9, 10]]),
  (48, false, [true, false], [o0 48 (.aload_n 0), oN 49 (.getfield 7) [6, 0, 822], oK 52 (.iconst 0) (.int 0), o0 53 .iaload, oC 54 (.invokestatic 219) [1105] c_X6_bitsOf, o0 57 .ireturn]),
  (58, false, [true, false], [o0 58 (.aload_n 0), oN 59 (.getfield 7) [6, 0, 822], oK 62 (.bipush 26) (.int 26), o0 64 .iaload, oC 65 (.invokestatic 219) [1105] c_X6_bitsOf, o0 68 .ireturn]),
  (69, false, [true, false], [o0 69 (.aload_n 0), oN 70 (.getfield 7) [6, 0, 822], oK 73 (.bipush 36) (.int 36), o0 75 .iaload, o0 76 .ireturn]),
  (77, false, [true, false], [o0 77 (.aload_n 0), oN 78 (.getfield 13) [6, 1, 823], oK 81 (.iconst 0) (.int 0), o0 82 .baload, oC 83 (.invokestatic 150) [976] c_X6_flag, o0 86 (.aload_n 0), oN 87 (.getfield 13) [6, 1, 823], oK 90 (.iconst 1) (.int 1), o0 91 .baload, oC 92 (.invokestatic 150) [976] c_X6_flag, o0 95 .iadd, o0 96 .ireturn]),
  (97, false, [true, false], [o0 97 (.aload_n 0), oN 98 (.getfield 94) [6, 15, 837], o0 101 .ireturn]),
  (102, false, [true, false], [o0 102 (.aload_n 0), oN 103 (.getfield 50) [6, 27, 849], oK 106 (.iconst 0) (.int 0), o0 107 .iaload, oK 108 (.bipush (-4)) (.int (-4)), oN 110 (.if_icmp .ne 8) [7], oK 113 (.bipush (-4)) (.int (-4)), oN 115 (.goto 9) [8]]),
  (118, false, [true, false], [o0 118 (.aload_n 0), oN 119 (.getfield 53) [6, 28, 850], oK 122 (.iconst 0) (.int 0), o0 123 .iaload, oN 124 .nop [8]]),
  (124, false, [false, false], [o0 124 .ireturn]),
  (125, false, [true, false], [o0 125 (.aload_n 0), oN 126 (.getfield 7) [6, 0, 822], oK 129 (.bipush 27) (.int 27), o0 131 .iaload, oC 132 (.invokestatic 219) [1105] c_X6_bitsOf, o0 135 .ireturn]),
  (136, false, [true, false], [o0 136 (.aload_n 0), oN 137 (.getfield 7) [6, 0, 822], oK 140 (.iconst 1) (.int 1), o0 141 .iaload, oC 142 (.invokestatic 219) [1105] c_X6_bitsOf, o0 145 .ireturn]),
  (146, false, [false, false], [oK 146 (.iconst (-1)) (.int (-1)), o0 147 .ireturn])]
set_option maxRecDepth 100000 in
theorem ck_X6_count : s_ck RX6 cX6_count 2 1 22 k_X6_count = true := by decide +kernel

set_option maxRecDepth 100000 in
set_option maxHeartbeats 1000000 in
theorem ok_X6_count : s_Ok c_X6_count := by
  refine s_ok_of k_X6_count (by decide +kernel) sta_X6_count ck_X6_count (And.intro ok_X6_bitsOf (And.intro ok_X6_bitsOf (And.intro ok_X6_flag (And.intro ok_X6_flag (And.intro ok_X6_bitsOf (And.intro ok_X6_bitsOf trivial)))))) ?_
  rintro vs L ⟨s, A, x, rfl, rfl⟩
  refine ⟨rfl, fun G hG => ?_⟩
  have fin : ∀ a : Int32, a = r_mcount s (A 1) (A 2) (A 14) (A 15) x → s_PP (some .int) true c_X6_count.2.2.2.2.2 [.ref 0, .int x] (mdW s A) (some (.int a)) (mdW s A) := fun a ha => ⟨rfl, by rw [ha]; rfl, fun _ => rfl⟩
  refine hG 0 _ _ _ (And.intro ?_ ?_)
  · refine And.intro ?_ (And.intro ?_ (And.intro ?_ (And.intro ?_ (And.intro ?_ (And.intro ?_ (And.intro ?_ (And.intro ?_ trivial)))))))
    · intro h; obtain rfl := h
      refine And.intro (vi159 0 (by omega)) (And.intro ⟨_, rfl⟩ ?_)
      intro r hr
      obtain rfl : r = some (.int (p_bo (A 1 0) 8)) := hr
      exact fin _ rfl
    · intro h; obtain rfl := h
      refine And.intro (vi159 26 (by omega)) (And.intro ⟨_, rfl⟩ ?_)
      intro r hr
      obtain rfl : r = some (.int (p_bo (A 1 26) 8)) := hr
      exact fin _ rfl
    · intro h; obtain rfl := h
      exact And.intro (vi159 36 (by omega)) (fin _ rfl)
    · intro h; obtain rfl := h
      refine And.intro (vp_in_nI (n := 0) (N := 2) (by decide) (by decide)) (And.intro ⟨_, rfl⟩ ?_)
      intro r hr
      obtain rfl : r = some (.int (if A 2 0 = 0 then 0 else 1)) := hr
      refine And.intro (vp_in_nI (n := 1) (N := 2) (by decide) (by decide)) (And.intro ⟨_, rfl⟩ ?_)
      intro r hr
      obtain rfl : r = some (.int (if A 2 1 = 0 then 0 else 1)) := hr
      exact fin _ rfl
    · intro h; obtain rfl := h
      exact fin _ rfl
    · intro h; obtain rfl := h
      refine And.intro (vp_in_nI (n := 0) (N := 4) (by decide) (by decide)) (And.intro (fun h2 => ?_) (fun h2 => ?_))
      · have h2 : A 14 0 = -4 := h2
        exact fin _ (by show _ = if A 14 0 = -4 then (-4 : Int32) else A 15 0; rw [if_pos h2])
      · have h2 : ¬ A 14 0 = -4 := h2
        exact And.intro (vp_in_nI (n := 0) (N := 4) (by decide) (by decide)) (fin _ (by show _ = if A 14 0 = -4 then (-4 : Int32) else A 15 0; rw [if_neg h2]; rfl))
    · intro h; obtain rfl := h
      refine And.intro (vi159 27 (by omega)) (And.intro ⟨_, rfl⟩ ?_)
      intro r hr
      obtain rfl : r = some (.int (p_bo (A 1 27) 8)) := hr
      exact fin _ rfl
    · intro h; obtain rfl := h
      refine And.intro (vi159 1 (by omega)) (And.intro ⟨_, rfl⟩ ?_)
      intro r hr
      obtain rfl : r = some (.int (p_bo (A 1 1) 8)) := hr
      exact fin _ rfl
  · intro h
    have t := fun k hk => tab_out h k hk
    exact fin _ (by rw [r_mcount, if_neg (t 0 (by decide)), if_neg (t 1 (by decide)), if_neg (t 2 (by decide)), if_neg (t 3 (by decide)), if_neg (t 4 (by decide)), if_neg (t 5 (by decide)), if_neg (t 6 (by decide)), if_neg (t 7 (by decide))])

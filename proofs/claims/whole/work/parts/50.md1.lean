/-! ===== WishClerkModel: its world, bits, what follows, refusal ===== -/
def mdO (s : Nat → Int32) : sC := .inr (.inr (6, [.ref 1, .ref 2, .int (s 2), .int (s 3), .ref 3, .ref 4, .ref 5, .int (s 7), .int (s 8), .ref 6, .ref 7, .int (s 11), .int (s 12), .int (s 13), .ref 8, .int (s 15), .int (s 16), .int (s 17), .int (s 18), .int (s 19), .int (s 20), .int (s 21), .ref 9, .ref 10, .ref 11, .ref 12, .ref 13, .ref 14, .ref 15, .ref 16, .int (s 30)]))
/-- itself; st, isKept, years, prices, draft, dYears, dPrices, tape, cost, before, by, line, dates, lanes, sizes, cells -/
def mdW (s : Nat → Int32) (A : Nat → Nat → Int32) : sH := [mdO s, .inl (0, 159, A 1), .inl (2, 2, A 2), .inl (0, 8, A 3), .inl (0, 8, A 4), .inl (0, 53, A 5), .inl (0, 8, A 6), .inl (0, 8, A 7), .inl (0, 160, A 8), .inl (0, 256, A 9), .inl (0, 256, A 10), .inl (0, 256, A 11), .inl (0, 256, A 12), .inl (0, 8, A 13), .inl (0, 4, A 14), .inl (0, 4, A 15), .inl (0, 160, A 16)]
def mdP (L : sH) (b : Nat) : List Nat := [b, s_rf L b 0, s_rf L b 1, s_rf L b 4, s_rf L b 5, s_rf L b 6, s_rf L b 9, s_rf L b 10, s_rf L b 14, s_rf L b 22, s_rf L b 23, s_rf L b 24, s_rf L b 25, s_rf L b 26, s_rf L b 27, s_rf L b 28, s_rf L b 29]
def mdfp (vs : sS) (L : sH) : List Nat := match vs with
  | .ref b :: _ => mdP L b
  | _ => []
def p_in64 (v lo hi : Int64) : Int32 := if v < lo then 0 else if hi < v then 0 else 1
def c_X6_in : sCtr := ((yX6_in, cX6_in, 6, (some .boolean)), (0, 3, 0, 0), true,
  fun _ _ => [],
  fun vs _ => ∃ v lo hi : Int64, vs = [.long v, .long lo, .long hi],
  fun vs _ r _ => r = some (.int (p_in64 (vJ vs 0) (vJ vs 1) (vJ vs 2))))
theorem sta_X6_in : s_Sta c_X6_in := ⟨⟨by decide +kernel, by decide +kernel, by decide +kernel⟩, List.mem_of_getElem? (i := 923) (by decide +kernel), List.mem_of_getElem? (i := 70) (by decide +kernel), List.mem_of_getElem? (i := 922) (by decide +kernel)⟩

def k_X6_in : List sBk := [
  (0, false, [true, false, true, false, true, false], [o0 0 (.lload_n 0), o0 1 (.lload_n 2), o0 2 .lcmp, oN 3 (.ifCond .lt 14) [1], o0 6 (.lload_n 0), o0 7 (.lload 4), o0 9 .lcmp, oN 10 (.ifCond .gt 7) [1], oK 13 (.iconst 1) (.int 1), oN 14 (.goto 4) [2]]),
  (17, false, [false, false, false, false, false, false], [oK 17 (.iconst 0) (.int 0), oN 18 .nop [2]]),
  (18, false, [false, false, false, false, false, false], [o0 18 .ireturn])]
set_option maxRecDepth 100000 in
theorem ck_X6_in : s_ck RX6 cX6_in 6 0 0 k_X6_in = true := by decide +kernel

set_option maxRecDepth 100000 in
set_option maxHeartbeats 1000000 in
theorem ok_X6_in : s_Ok c_X6_in := by
  refine s_ok_of k_X6_in (by decide +kernel) sta_X6_in ck_X6_in trivial ?_
  rintro vs L ⟨v, lo, hi, rfl⟩
  refine ⟨rfl, fun G hG => ?_⟩
  have fin : ∀ a : Int32, a = 0 ∨ a = 1 → a = p_in64 v lo hi → (a = 0 ∨ a = 1) ∧ s_PP (some .boolean) true c_X6_in.2.2.2.2.2 [.long v, .long lo, .long hi] L (some (.int a)) L := fun a h01 ha => ⟨h01, rfl, by rw [ha]; rfl, fun _ => rfl⟩
  refine hG 0 _ _ _ (And.intro (fun h => ?_) (fun h => ?_))
  · have h : v < lo := (lg_cmp_lt _ _).mp h
    exact fin 0 (Or.inl rfl) (by rw [p_in64, if_pos h])
  · have h : ¬ v < lo := fun q => h ((lg_cmp_lt _ _).mpr q)
    refine And.intro (fun h2 => ?_) (fun h2 => ?_)
    · have h2 : hi < v := (lg_cmp_gt _ _).mp h2
      exact fin 0 (Or.inl rfl) (by rw [p_in64, if_neg h, if_pos h2])
    · have h2 : ¬ hi < v := fun q => h2 ((lg_cmp_gt _ _).mpr q)
      exact fin 1 (Or.inr rfl) (by rw [p_in64, if_neg h, if_neg h2])
def c_X6_flag : sCtr := ((yX6_flag, cX6_flag, 1, (some .int)), (0, 1, 0, 0), true,
  fun _ _ => [],
  fun vs _ => ∃ x : Int32, vs = [.int x],
  fun vs _ r _ => r = some (.int (if vI vs 0 = 0 then 0 else 1)))
theorem sta_X6_flag : s_Sta c_X6_flag := ⟨⟨by decide +kernel, by decide +kernel, by decide +kernel⟩, List.mem_of_getElem? (i := 978) (by decide +kernel), List.mem_of_getElem? (i := 70) (by decide +kernel), List.mem_of_getElem? (i := 977) (by decide +kernel)⟩

def k_X6_flag : List sBk := [
  (0, false, [true], [o0 0 (.iload_n 0), oN 1 (.ifCond .eq 7) [1], oK 4 (.iconst 1) (.int 1), oN 5 (.goto 4) [2]]),
  (8, false, [false], [oK 8 (.iconst 0) (.int 0), oN 9 .nop [2]]),
  (9, false, [false], [o0 9 .ireturn])]
set_option maxRecDepth 100000 in
theorem ck_X6_flag : s_ck RX6 cX6_flag 1 0 0 k_X6_flag = true := by decide +kernel

set_option maxRecDepth 100000 in
set_option maxHeartbeats 1000000 in
theorem ok_X6_flag : s_Ok c_X6_flag := by
  refine s_ok_of k_X6_flag (by decide +kernel) sta_X6_flag ck_X6_flag trivial ?_
  rintro vs L ⟨x, rfl⟩
  refine ⟨rfl, fun G hG => ?_⟩
  refine hG 0 _ _ _ (And.intro (fun h => ?_) (fun h => ?_))
  · refine ⟨rfl, ?_, fun _ => rfl⟩
    show some (Value.int 0) = some (Value.int (if x = 0 then 0 else 1))
    rw [if_pos h]
  · refine ⟨rfl, ?_, fun _ => rfl⟩
    show some (Value.int 1) = some (Value.int (if x = 0 then 0 else 1))
    rw [if_neg h]
theorem p_and1 (y : Int32) : y &&& 1 = 0 ∨ y &&& 1 = 1 := by
  obtain ⟨j, hj, he⟩ := pk_andE y (m := 1) 1 (by decide)
  rcases (show j = 0 ∨ j = 1 by omega) with rfl | rfl
  · exact Or.inl he
  · exact Or.inr he
theorem p_hb_0 {x i : Int32} : p_hb x i = 0 ↔ ¬ (x >>> (i &&& 31)) &&& 1 = 1 := by
  unfold p_hb
  rcases p_and1 (x >>> (i &&& 31)) with h | h
  · rw [h]; decide
  · rw [h]; decide
theorem p_hb_v (x i : Int32) : (x >>> (i &&& 31)) &&& 1 = p_hb x i := by
  unfold p_hb
  rcases p_and1 (x >>> (i &&& 31)) with h | h <;> rw [h] <;> decide
theorem p_or0 (x : Int32) : x ||| 0 = x := by simp
theorem p_andm1 (x : Int32) : x &&& (0 ^^^ (-1)) = x := by simp
def c_X6_allOf : sCtr := ((yX6_allOf, cX6_allOf, 5, (some .int)), (7, 2, 0, 0), true,
  mdfp,
  fun vs L => ∃ (s : Nat → Int32) (A : Nat → Nat → Int32) (R : Nat) (g : Int32) (n : Nat), vs = [.ref 0, .int (nI R), .int g] ∧ L = mdW s A ∧ s 3 = nI n ∧ n ≤ 8 ∧ R ≤ 18,
  fun vs L r _ => r = some (.int (p_ga (fun i => bF L 1 ((vI vs 1).toNatClampNeg + i)) (oI L 0 3).toNatClampNeg (vI vs 2))))
theorem sta_X6_allOf : s_Sta c_X6_allOf := ⟨⟨by decide +kernel, by decide +kernel, by decide +kernel⟩, List.mem_of_getElem? (i := 1026) (by decide +kernel), List.mem_of_getElem? (i := 70) (by decide +kernel), ⟨List.mem_of_getElem? (i := 1025) (by decide +kernel), List.mem_of_getElem? (i := 47) (by decide +kernel), Or.inl ⟨_, rfl, rfl⟩⟩⟩

def k_X6_allOf : List sBk := [
  (0, false, [true, true, true, false, false], [oK 0 (.iconst 0) (.int 0), o0 1 (.istore_n 3), oK 2 (.iconst 0) (.int 0), o0 3 (.istore 4), oN 5 .nop [1]]),
  (5, true, [true, true, true, true, true], [o0 5 (.iload 4), o0 7 (.aload_n 0), oN 8 (.getfield 85) [6, 3, 825], oN 11 (.if_icmp .ge 35) [4], o0 14 (.iload_n 3), o0 15 (.iload_n 2), o0 16 (.iload 4), o0 18 .ishr, oK 19 (.iconst 1) (.int 1), o0 20 .iand, oK 21 (.iconst 1) (.int 1), oN 22 (.if_icmp .ne 15) [2], o0 25 (.aload_n 0), oN 26 (.getfield 7) [6, 0, 822], o0 29 (.iload_n 1), o0 30 (.iload 4), o0 32 .iadd, o0 33 .iaload, oN 34 (.goto 4) [3]]),
  (37, false, [true, true, true, false, true], [oK 37 (.iconst 0) (.int 0), oN 38 .nop [3]]),
  (38, false, [true, true, true, false, true], [o0 38 .ior, o0 39 (.istore_n 3), oK 40 (.iinc 4 1) (.int 1), oN 43 (.goto (-38)) [1]]),
  (46, false, [false, false, false, true, false], [o0 46 (.iload_n 3), o0 47 .ireturn])]
set_option maxRecDepth 100000 in
theorem ck_X6_allOf : s_ck RX6 cX6_allOf 5 0 0 k_X6_allOf = true := by decide +kernel

set_option maxRecDepth 100000 in
set_option maxHeartbeats 1000000 in
theorem ok_X6_allOf : s_Ok c_X6_allOf := by
  refine s_ok_of k_X6_allOf (by decide +kernel) sta_X6_allOf ck_X6_allOf trivial ?_
  rintro vs L ⟨s, A, R, g, n, rfl, rfl, hn, hn8, hR⟩
  refine ⟨rfl, fun G hG => ?_⟩
  have loop : ∀ (k i : Nat) (x a : Int32), i + k = n → x = nI i → a = p_ga (fun i => A 1 (R + i)) i g → G 1 [some (.ref 0), some (.int (nI R)), some (.int g), some (.int a), some (.int x)] [] (mdW s A) := by
    intro k
    induction k with
    | zero =>
      intro i x a hi hx ha
      refine hG 1 _ _ _ (And.intro (fun h => ?_) (fun h => ?_))
      · have h : x < s 3 := h
        rw [hx, hn, nI_ltI (by omega) (by omega)] at h; omega
      · refine ⟨rfl, ?_, fun _ => rfl⟩
        show some (Value.int a) = some (Value.int (p_ga (fun i => A 1 ((nI R).toNatClampNeg + i)) (s 3).toNatClampNeg g))
        rw [ha, hn, nI_clamp (by omega), nI_clamp (by omega), show i = n by omega]
    | succ k ih =>
      intro i x a hi hx ha
      refine hG 1 _ _ _ (And.intro (fun h => ?_) (fun h => ?_))
      · refine And.intro (fun h2 => ?_) (fun h2 => ?_)
        · have h3 : ¬ p_hb g x = 0 := fun q => p_hb_0.mp q h2
          have e : nI R + x = nI (R + i) := by rw [hx, nI_add]
          refine And.intro ?_ ?_
          · show vp_in (nI R + x) 159
            rw [e]; exact vp_in_nI (by omega) (by omega)
          · refine ih (i + 1) _ _ (by omega) (by rw [hx, nI_1]) ?_
            rw [p_ga, ← hx, if_neg h3, ← ha, e, nI_clamp (by omega)]
        · have h3 : p_hb g x = 0 := p_hb_0.mpr h2
          exact ih (i + 1) _ _ (by omega) (by rw [hx, nI_1]) (by rw [p_ga, ← hx, if_pos h3, ← ha, p_or0])
      · have h : ¬ x < s 3 := h
        rw [hx, hn, nI_ltI (by omega) (by omega)] at h; omega
  exact hG 0 _ _ _ (loop n 0 _ _ (by omega) nI_0.symm rfl)
/-- ones, what is needed, what clashes, out of st -/
def mOn (A : Nat → Nat → Int32) : Nat → Int32 := fun i => A 1 (2 + i)
def mNd (A : Nat → Nat → Int32) : Nat → Int32 := fun i => A 1 (10 + i)
def mCl (A : Nat → Nat → Int32) : Nat → Int32 := fun i => A 1 (18 + i)
def p_fw (nd : Nat → Int32) (n : Nat) (g : Int32) : Int32 := p_it nd n 0 g 8
def c_X6_follow : sCtr := ((yX6_follow, cX6_follow, 4, (some .int)), (7, 1, 1, 24), true,
  mdfp,
  fun vs L => ∃ (s : Nat → Int32) (A : Nat → Nat → Int32) (g : Int32) (n : Nat), vs = [.ref 0, .int g] ∧ L = mdW s A ∧ s 3 = nI n ∧ n ≤ 8,
  fun vs L r _ => r = some (.int (p_fw (mNd (bF L)) (oI L 0 3).toNatClampNeg (vI vs 1))))
theorem sta_X6_follow : s_Sta c_X6_follow := ⟨⟨by decide +kernel, by decide +kernel, by decide +kernel⟩, List.mem_of_getElem? (i := 1022) (by decide +kernel), List.mem_of_getElem? (i := 70) (by decide +kernel), ⟨List.mem_of_getElem? (i := 1021) (by decide +kernel), List.mem_of_getElem? (i := 46) (by decide +kernel), Or.inl ⟨_, rfl, rfl⟩⟩⟩

def k_X6_follow : List sBk := [
  (0, false, [true, true, false, false], [o0 0 (.iload_n 1), o0 1 (.istore_n 2), oK 2 (.iconst 0) (.int 0), o0 3 (.istore_n 3), oN 4 .nop [1]]),
  (4, true, [true, false, true, true], [o0 4 (.iload_n 3), oK 5 (.bipush 8) (.int 8), oN 7 (.if_icmp .ge 19) [2], o0 10 (.iload_n 2), o0 11 (.aload_n 0), oK 12 (.bipush 10) (.int 10), o0 14 (.iload_n 2), oC 15 (.invokevirtual 182) [1023] c_X6_allOf, o0 18 .ior, o0 19 (.istore_n 2), oK 20 (.iinc 3 1) (.int 1), oN 23 (.goto (-19)) [1]]),
  (26, false, [false, false, true, false], [o0 26 (.iload_n 2), o0 27 .ireturn])]
set_option maxRecDepth 100000 in
theorem ck_X6_follow : s_ck RX6 cX6_follow 4 1 24 k_X6_follow = true := by decide +kernel

set_option maxRecDepth 100000 in
set_option maxHeartbeats 1000000 in
theorem ok_X6_follow : s_Ok c_X6_follow := by
  refine s_ok_of k_X6_follow (by decide +kernel) sta_X6_follow ck_X6_follow (And.intro ok_X6_allOf trivial) ?_
  rintro vs L ⟨s, A, g, n, rfl, rfl, hn, hn8⟩
  refine ⟨rfl, fun G hG => ?_⟩
  have e : (s 3).toNatClampNeg = n := by rw [hn, nI_clamp (by omega)]
  have loop : ∀ (k i : Nat) (x a : Int32), i + k = 8 → x = nI i → a = p_it (mNd A) n 0 g i → G 1 [some (.ref 0), none, some (.int a), some (.int x)] [] (mdW s A) := by
    intro k
    induction k with
    | zero =>
      intro i x a hi hx ha
      refine hG 1 _ _ _ (And.intro (fun h => ?_) (fun h => ?_))
      · rw [hx, show (8 : Int32) = nI 8 from rfl, nI_ltI (by omega) (by omega)] at h; omega
      · refine ⟨rfl, ?_, fun _ => rfl⟩
        show some (Value.int a) = some (Value.int (p_fw (mNd A) (s 3).toNatClampNeg g))
        rw [ha, e, p_fw, show i = 8 by omega]
    | succ k ih =>
      intro i x a hi hx ha
      refine hG 1 _ _ _ (And.intro (fun h => ?_) (fun h => ?_))
      · refine And.intro ⟨s, A, 10, a, n, rfl, rfl, hn, hn8, by omega⟩ ?_
        intro r hr
        obtain rfl : r = some (.int (p_ga (mNd A) (s 3).toNatClampNeg a)) := hr
        refine ih (i + 1) _ _ (by omega) (by rw [hx, nI_1]) ?_
        rw [p_it, p_st, ← ha, p_andm1, e]
      · rw [hx, show (8 : Int32) = nI 8 from rfl, nI_ltI (by omega) (by omega)] at h; omega
  exact hG 0 _ _ _ (loop 8 0 _ _ (by omega) nI_0.symm rfl)

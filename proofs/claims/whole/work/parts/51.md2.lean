/-! ===== WishClerkModel: ones, wishes, refusal, rows' steps ===== -/
theorem wide_lt (a b : Int32) : a.toInt64 < b.toInt64 ↔ a < b := by
  rw [Int64.lt_iff_toInt_lt, Int32.lt_iff_toInt_lt, Int32.toInt_toInt64, Int32.toInt_toInt64]
theorem p_in64_01 (v lo hi : Int64) : p_in64 v lo hi = 0 ∨ p_in64 v lo hi = 1 := by
  unfold p_in64
  by_cases h : v < lo
  · rw [if_pos h]; exact Or.inl rfl
  · rw [if_neg h]
    by_cases h2 : hi < v
    · rw [if_pos h2]; exact Or.inl rfl
    · rw [if_neg h2]; exact Or.inr rfl
/-- between lo and hi, as ints -/
theorem p_in64_i (p lo hi : Int32) : p_in64 p.toInt64 lo.toInt64 hi.toInt64 = if p < lo then 0 else if hi < p then 0 else 1 := by
  unfold p_in64
  simp only [wide_lt]
theorem p_in64_in (p : Int32) {m : Nat} (hm : m ≤ 256) : p_in64 p.toInt64 0 (nI m - 1).toInt64 = p_in (nI m) p := by
  have e := p_in64_i p 0 (nI m - 1)
  rw [show (0 : Int32).toInt64 = 0 from rfl] at e
  rw [e, p_in]
  by_cases h : p < 0
  · rw [if_pos h, if_pos h]
  · rw [if_neg h, if_neg h]
    obtain ⟨j, hj, rfl⟩ := nI_of h
    have e1 : (nI m - 1).toInt = (m : Int) - 1 := pk_sub_toInt (b := 1) (by omega) (by omega)
    by_cases h2 : j < m
    · rw [if_neg, if_pos ((nI_ltI hj (by omega)).mpr h2)]
      rw [Int32.lt_iff_toInt_lt, e1, nI_toInt hj]; omega
    · rw [if_pos, if_neg (fun q => h2 ((nI_ltI hj (by omega)).mp q))]
      rw [Int32.lt_iff_toInt_lt, e1, nI_toInt hj]; omega
theorem p_in_01 (y p : Int32) : p_in y p = 0 ∨ p_in y p = 1 := by
  unfold p_in
  by_cases h : p < 0
  · rw [if_pos h]; exact Or.inl rfl
  · rw [if_neg h]
    by_cases h2 : p < y
    · rw [if_pos h2]; exact Or.inr rfl
    · rw [if_neg h2]; exact Or.inl rfl
def c_X6_isOne : sCtr := ((yX6_isOne, cX6_isOne, 2, (some .boolean)), (7, 1, 1, 25), true,
  mdfp,
  fun vs L => ∃ (s : Nat → Int32) (A : Nat → Nat → Int32) (p : Int32) (m : Nat), vs = [.ref 0, .int p] ∧ L = mdW s A ∧ s 2 = nI m ∧ m ≤ 8,
  fun vs L r _ => r = some (.int (p_in (oI L 0 2) (vI vs 1))))
theorem sta_X6_isOne : s_Sta c_X6_isOne := ⟨⟨by decide +kernel, by decide +kernel, by decide +kernel⟩, List.mem_of_getElem? (i := 1038) (by decide +kernel), List.mem_of_getElem? (i := 70) (by decide +kernel), ⟨List.mem_of_getElem? (i := 1037) (by decide +kernel), List.mem_of_getElem? (i := 48) (by decide +kernel), Or.inl ⟨_, rfl, rfl⟩⟩⟩

def k_X6_isOne : List sBk := [
  (0, false, [true, true], [o0 0 (.iload_n 1), o0 1 .i2l, oK 2 (.lconst 0) (.long 0), o0 3 (.aload_n 0), oN 4 (.getfield 82) [6, 2, 824], oK 7 (.iconst 1) (.int 1), o0 8 .isub, o0 9 .i2l, oC 10 (.invokestatic 90) [921] c_X6_in, o0 13 .ireturn])]
set_option maxRecDepth 100000 in
theorem ck_X6_isOne : s_ck RX6 cX6_isOne 2 1 25 k_X6_isOne = true := by decide +kernel

set_option maxRecDepth 100000 in
set_option maxHeartbeats 1000000 in
theorem ok_X6_isOne : s_Ok c_X6_isOne := by
  refine s_ok_of k_X6_isOne (by decide +kernel) sta_X6_isOne ck_X6_isOne (And.intro ok_X6_in trivial) ?_
  rintro vs L ⟨s, A, p, m, rfl, rfl, hm, hm8⟩
  refine ⟨rfl, fun G hG => ?_⟩
  refine hG 0 _ _ _ (And.intro ⟨_, _, _, rfl⟩ ?_)
  intro r hr
  obtain rfl : r = some (.int (p_in (s 2) p)) := by
    have h1 : r = some (.int (p_in64 p.toInt64 0 (s 2 - 1).toInt64)) := hr
    rw [h1, hm, p_in64_in p (by omega)]
  exact And.intro (p_in_01 _ _) ⟨rfl, rfl, fun _ => rfl⟩
def c_X6_isWish : sCtr := ((yX6_isWish, cX6_isWish, 2, (some .boolean)), (7, 1, 1, 25), true,
  mdfp,
  fun vs L => ∃ (s : Nat → Int32) (A : Nat → Nat → Int32) (p : Int32) (m : Nat), vs = [.ref 0, .int p] ∧ L = mdW s A ∧ s 3 = nI m ∧ m ≤ 8,
  fun vs L r _ => r = some (.int (p_in (oI L 0 3) (vI vs 1))))
theorem sta_X6_isWish : s_Sta c_X6_isWish := ⟨⟨by decide +kernel, by decide +kernel, by decide +kernel⟩, List.mem_of_getElem? (i := 1018) (by decide +kernel), List.mem_of_getElem? (i := 70) (by decide +kernel), ⟨List.mem_of_getElem? (i := 1017) (by decide +kernel), List.mem_of_getElem? (i := 45) (by decide +kernel), Or.inl ⟨_, rfl, rfl⟩⟩⟩

def k_X6_isWish : List sBk := [
  (0, false, [true, true], [o0 0 (.iload_n 1), o0 1 .i2l, oK 2 (.lconst 0) (.long 0), o0 3 (.aload_n 0), oN 4 (.getfield 85) [6, 3, 825], oK 7 (.iconst 1) (.int 1), o0 8 .isub, o0 9 .i2l, oC 10 (.invokestatic 90) [921] c_X6_in, o0 13 .ireturn])]
set_option maxRecDepth 100000 in
theorem ck_X6_isWish : s_ck RX6 cX6_isWish 2 1 25 k_X6_isWish = true := by decide +kernel

set_option maxRecDepth 100000 in
set_option maxHeartbeats 1000000 in
theorem ok_X6_isWish : s_Ok c_X6_isWish := by
  refine s_ok_of k_X6_isWish (by decide +kernel) sta_X6_isWish ck_X6_isWish (And.intro ok_X6_in trivial) ?_
  rintro vs L ⟨s, A, p, m, rfl, rfl, hm, hm8⟩
  refine ⟨rfl, fun G hG => ?_⟩
  refine hG 0 _ _ _ (And.intro ⟨_, _, _, rfl⟩ ?_)
  intro r hr
  obtain rfl : r = some (.int (p_in (s 3) p)) := by
    have h1 : r = some (.int (p_in64 p.toInt64 0 (s 3 - 1).toInt64)) := hr
    rw [h1, hm, p_in64_in p (by omega)]
  exact And.intro (p_in_01 _ _) ⟨rfl, rfl, fun _ => rfl⟩
def p_bo (x : Int32) : Nat → Int32
  | 0 => 0
  | k + 1 => p_bo x k + p_hb x (nI k)
def c_X6_bitsOf : sCtr := ((yX6_bitsOf, cX6_bitsOf, 3, (some .int)), (0, 1, 0, 0), true,
  fun _ _ => [],
  fun vs _ => ∃ x : Int32, vs = [.int x],
  fun vs _ r _ => r = some (.int (p_bo (vI vs 0) 8)))
theorem sta_X6_bitsOf : s_Sta c_X6_bitsOf := ⟨⟨by decide +kernel, by decide +kernel, by decide +kernel⟩, List.mem_of_getElem? (i := 1107) (by decide +kernel), List.mem_of_getElem? (i := 70) (by decide +kernel), List.mem_of_getElem? (i := 1106) (by decide +kernel)⟩

def k_X6_bitsOf : List sBk := [
  (0, false, [true, false, false], [oK 0 (.iconst 0) (.int 0), o0 1 (.istore_n 1), oK 2 (.iconst 0) (.int 0), o0 3 (.istore_n 2), oN 4 .nop [1]]),
  (4, true, [true, true, true], [o0 4 (.iload_n 2), oK 5 (.bipush 8) (.int 8), oN 7 (.if_icmp .ge 17) [2], o0 10 (.iload_n 1), o0 11 (.iload_n 0), o0 12 (.iload_n 2), o0 13 .ishr, oK 14 (.iconst 1) (.int 1), o0 15 .iand, o0 16 .iadd, o0 17 (.istore_n 1), oK 18 (.iinc 2 1) (.int 1), oN 21 (.goto (-17)) [1]]),
  (24, false, [false, true, false], [o0 24 (.iload_n 1), o0 25 .ireturn])]
set_option maxRecDepth 100000 in
theorem ck_X6_bitsOf : s_ck RX6 cX6_bitsOf 3 0 0 k_X6_bitsOf = true := by decide +kernel

set_option maxRecDepth 100000 in
set_option maxHeartbeats 1000000 in
theorem ok_X6_bitsOf : s_Ok c_X6_bitsOf := by
  refine s_ok_of k_X6_bitsOf (by decide +kernel) sta_X6_bitsOf ck_X6_bitsOf trivial ?_
  rintro vs L ⟨g, rfl⟩
  refine ⟨rfl, fun G hG => ?_⟩
  have loop : ∀ (k i : Nat) (x a : Int32), i + k = 8 → x = nI i → a = p_bo g i → G 1 [some (.int g), some (.int a), some (.int x)] [] L := by
    intro k
    induction k with
    | zero =>
      intro i x a hi hx ha
      refine hG 1 _ _ _ (And.intro (fun h => ?_) (fun h => ?_))
      · rw [hx, show (8 : Int32) = nI 8 from rfl, nI_ltI (by omega) (by omega)] at h; omega
      · refine ⟨rfl, ?_, fun _ => rfl⟩
        show some (Value.int a) = some (Value.int (p_bo g 8))
        rw [ha, show i = 8 by omega]
    | succ k ih =>
      intro i x a hi hx ha
      refine hG 1 _ _ _ (And.intro (fun h => ?_) (fun h => ?_))
      · refine ih (i + 1) _ _ (by omega) (by rw [hx, nI_1]) ?_
        rw [p_bo, ← ha, ← hx, p_hb_v]
      · rw [hx, show (8 : Int32) = nI 8 from rfl, nI_ltI (by omega) (by omega)] at h; omega
  exact hG 0 _ _ _ (loop 8 0 _ _ (by omega) nI_0.symm rfl)
def c_X6_looksAt : sCtr := ((yX6_looksAt, cX6_looksAt, 6, (some .int)), (7, 3, 1, 24), true,
  mdfp,
  fun vs L => ∃ (s : Nat → Int32) (A : Nat → Nat → Int32) (w h e : Int32) (n d : Nat), vs = [.ref 0, .int w, .int h, .int e] ∧ L = mdW s A ∧ s 3 = nI n ∧ n ≤ 8 ∧ e = nI d ∧ d ≤ 8,
  fun vs L r _ => r = some (.int (p_it (mNd (bF L)) (oI L 0 3).toNatClampNeg (vI vs 2) ((1 : Int32) <<< (vI vs 1 &&& 31)) (vI vs 3).toNatClampNeg)))
theorem sta_X6_looksAt : s_Sta c_X6_looksAt := ⟨⟨by decide +kernel, by decide +kernel, by decide +kernel⟩, List.mem_of_getElem? (i := 1087) (by decide +kernel), List.mem_of_getElem? (i := 70) (by decide +kernel), ⟨List.mem_of_getElem? (i := 1086) (by decide +kernel), List.mem_of_getElem? (i := 51) (by decide +kernel), Or.inl ⟨_, rfl, rfl⟩⟩⟩

def k_X6_looksAt : List sBk := [
  (0, false, [true, true, true, true, false, false], [oK 0 (.iconst 1) (.int 1), o0 1 (.iload_n 1), o0 2 .ishl, o0 3 (.istore 4), oK 5 (.iconst 0) (.int 0), o0 6 (.istore 5), oN 8 .nop [1]]),
  (8, true, [true, false, true, true, true, true], [o0 8 (.iload 5), o0 10 (.iload_n 3), oN 11 (.if_icmp .ge 26) [2], o0 14 (.iload 4), o0 16 (.aload_n 0), oK 17 (.bipush 10) (.int 10), o0 19 (.iload 4), oC 21 (.invokevirtual 182) [1023] c_X6_allOf, o0 24 (.iload_n 2), oK 25 (.iconst (-1)) (.int (-1)), o0 26 .ixor, o0 27 .iand, o0 28 .ior, o0 29 (.istore 4), oK 31 (.iinc 5 1) (.int 1), oN 34 (.goto (-26)) [1]]),
  (37, false, [false, false, false, false, true, false], [o0 37 (.iload 4), o0 39 .ireturn])]
set_option maxRecDepth 100000 in
theorem ck_X6_looksAt : s_ck RX6 cX6_looksAt 6 1 24 k_X6_looksAt = true := by decide +kernel

set_option maxRecDepth 100000 in
set_option maxHeartbeats 1000000 in
theorem ok_X6_looksAt : s_Ok c_X6_looksAt := by
  refine s_ok_of k_X6_looksAt (by decide +kernel) sta_X6_looksAt ck_X6_looksAt (And.intro ok_X6_allOf trivial) ?_
  rintro vs L ⟨s, A, w, h, e, n, d, rfl, rfl, hn, hn8, he, hd⟩
  refine ⟨rfl, fun G hG => ?_⟩
  have e3 : (s 3).toNatClampNeg = n := by rw [hn, nI_clamp (by omega)]
  have loop : ∀ (k i : Nat) (x a : Int32), i + k = d → x = nI i → a = p_it (mNd A) n h ((1 : Int32) <<< (w &&& 31)) i → G 1 [some (.ref 0), none, some (.int h), some (.int e), some (.int a), some (.int x)] [] (mdW s A) := by
    intro k
    induction k with
    | zero =>
      intro i x a hi hx ha
      refine hG 1 _ _ _ (And.intro (fun q => ?_) (fun q => ?_))
      · rw [hx, he, nI_ltI (by omega) (by omega)] at q; omega
      · refine ⟨rfl, ?_, fun _ => rfl⟩
        show some (Value.int a) = some (Value.int (p_it (mNd A) (s 3).toNatClampNeg h ((1 : Int32) <<< (w &&& 31)) e.toNatClampNeg))
        rw [ha, e3, he, nI_clamp (by omega), show i = d by omega]
    | succ k ih =>
      intro i x a hi hx ha
      refine hG 1 _ _ _ (And.intro (fun q => ?_) (fun q => ?_))
      · refine And.intro ⟨s, A, 10, a, n, rfl, rfl, hn, hn8, by omega⟩ ?_
        intro r hr
        obtain rfl : r = some (.int (p_ga (mNd A) (s 3).toNatClampNeg a)) := hr
        refine ih (i + 1) _ _ (by omega) (by rw [hx, nI_1]) ?_
        rw [p_it, p_st, ← ha, e3]
      · rw [hx, he, nI_ltI (by omega) (by omega)] at q; omega
  exact hG 0 _ _ _ (loop d 0 _ _ (by omega) nI_0.symm rfl)
def c_X6_doClash : sCtr := ((yX6_doClash, cX6_doClash, 3, (some .boolean)), (7, 2, 1, 24), true,
  mdfp,
  fun vs L => ∃ (s : Nat → Int32) (A : Nat → Nat → Int32) (g h : Int32) (n : Nat), vs = [.ref 0, .int g, .int h] ∧ L = mdW s A ∧ s 3 = nI n ∧ n ≤ 8,
  fun vs L r _ => r = some (.int (if p_ga (mCl (bF L)) (oI L 0 3).toNatClampNeg (vI vs 1) &&& vI vs 2 = 0 then 0 else 1)))
theorem sta_X6_doClash : s_Sta c_X6_doClash := ⟨⟨by decide +kernel, by decide +kernel, by decide +kernel⟩, List.mem_of_getElem? (i := 1099) (by decide +kernel), List.mem_of_getElem? (i := 70) (by decide +kernel), ⟨List.mem_of_getElem? (i := 1098) (by decide +kernel), List.mem_of_getElem? (i := 53) (by decide +kernel), Or.inl ⟨_, rfl, rfl⟩⟩⟩

def k_X6_doClash : List sBk := [
  (0, false, [true, true, true], [o0 0 (.aload_n 0), oK 1 (.bipush 18) (.int 18), o0 3 (.iload_n 1), oC 4 (.invokevirtual 182) [1023] c_X6_allOf, o0 7 (.iload_n 2), o0 8 .iand, oN 9 (.ifCond .eq 7) [1], oK 12 (.iconst 1) (.int 1), oN 13 (.goto 4) [2]]),
  (16, false, [false, false, false], [oK 16 (.iconst 0) (.int 0), oN 17 .nop [2]]),
  (17, false, [false, false, false], [o0 17 .ireturn])]
set_option maxRecDepth 100000 in
theorem ck_X6_doClash : s_ck RX6 cX6_doClash 3 1 24 k_X6_doClash = true := by decide +kernel

set_option maxRecDepth 100000 in
set_option maxHeartbeats 1000000 in
theorem ok_X6_doClash : s_Ok c_X6_doClash := by
  refine s_ok_of k_X6_doClash (by decide +kernel) sta_X6_doClash ck_X6_doClash (And.intro ok_X6_allOf trivial) ?_
  rintro vs L ⟨s, A, g, h, n, rfl, rfl, hn, hn8⟩
  refine ⟨rfl, fun G hG => ?_⟩
  refine hG 0 _ _ _ (And.intro ⟨s, A, 18, g, n, rfl, rfl, hn, hn8, by omega⟩ ?_)
  intro r hr
  obtain rfl : r = some (.int (p_ga (mCl A) (s 3).toNatClampNeg g)) := hr
  refine And.intro (fun q => ?_) (fun q => ?_)
  · refine And.intro (Or.inl rfl) ⟨rfl, ?_, fun _ => rfl⟩
    show some (Value.int 0) = some (Value.int (if p_ga (mCl A) (s 3).toNatClampNeg g &&& h = 0 then 0 else 1))
    rw [if_pos q]
  · refine And.intro (Or.inr rfl) ⟨rfl, ?_, fun _ => rfl⟩
    show some (Value.int 1) = some (Value.int (if p_ga (mCl A) (s 3).toNatClampNeg g &&& h = 0 then 0 else 1))
    rw [if_neg q]
def c_X6_refusal : sCtr := ((yX6_refusal, cX6_refusal, 7, (some .int)), (7, 5, 2, 49), true,
  mdfp,
  fun vs L => ∃ (s : Nat → Int32) (A : Nat → Nat → Int32) (w h a e li : Int32) (n d : Nat), vs = [.ref 0, .int w, .int h, .int a, .int e, .int li] ∧ L = mdW s A ∧ s 3 = nI n ∧ n ≤ 8 ∧ e = nI d ∧ d ≤ 8,
  fun vs L r _ => r = some (.int (p_re (mOn (bF L)) (mNd (bF L)) (mCl (bF L)) (oI L 0 3).toNatClampNeg (vI vs 5) (bF L 1 1) (vI vs 1) (vI vs 2) (vI vs 3) (vI vs 4).toNatClampNeg)))
theorem sta_X6_refusal : s_Sta c_X6_refusal := ⟨⟨by decide +kernel, by decide +kernel, by decide +kernel⟩, List.mem_of_getElem? (i := 1095) (by decide +kernel), List.mem_of_getElem? (i := 70) (by decide +kernel), ⟨List.mem_of_getElem? (i := 1094) (by decide +kernel), List.mem_of_getElem? (i := 52) (by decide +kernel), Or.inl ⟨_, rfl, rfl⟩⟩⟩

def k_X6_refusal : List sBk := [
  (0, false, [true, true, true, true, true, true, false], [o0 0 (.aload_n 0), o0 1 (.iload_n 1), o0 2 (.iload_n 2), o0 3 (.iload 4), oC 5 (.invokevirtual 204) [1084] c_X6_looksAt, o0 8 (.istore 6), o0 10 (.iload 5), o0 12 (.iload_n 1), o0 13 .ishr, oK 14 (.iconst 1) (.int 1), o0 15 .iand, oK 16 (.iconst 1) (.int 1), oN 17 (.if_icmp .ne 5) [1], oK 20 (.iconst 1) (.int 1), o0 21 .ireturn]),
  (22, false, [true, false, true, true, false, false, true], [o0 22 (.aload_n 0), oK 23 (.iconst 2) (.int 2), o0 24 (.iload 6), oC 26 (.invokevirtual 182) [1023] c_X6_allOf, o0 29 (.aload_n 0), oN 30 (.getfield 7) [6, 0, 822], oK 33 (.iconst 1) (.int 1), o0 34 .iaload, o0 35 .iand, o0 36 (.iload_n 3), oK 37 (.iconst (-1)) (.int (-1)), o0 38 .ixor, o0 39 .iand, oN 40 (.ifCond .eq 5) [2], oK 43 (.iconst 2) (.int 2), o0 44 .ireturn]),
  (45, false, [true, false, true, false, false, false, true], [o0 45 (.aload_n 0), o0 46 (.iload 6), o0 48 (.iload 6), o0 50 (.iload_n 2), o0 51 .ior, oC 52 (.invokevirtual 208) [1096] c_X6_doClash, oN 55 (.ifCond .eq 7) [3], oK 58 (.iconst 3) (.int 3), oN 59 (.goto 4) [4]]),
  (62, false, [false, false, false, false, false, false, false], [oK 62 (.iconst 0) (.int 0), oN 63 .nop [4]]),
  (63, false, [false, false, false, false, false, false, false], [o0 63 .ireturn])]
set_option maxRecDepth 100000 in
theorem ck_X6_refusal : s_ck RX6 cX6_refusal 7 2 49 k_X6_refusal = true := by decide +kernel

set_option maxRecDepth 100000 in
set_option maxHeartbeats 1000000 in
theorem ok_X6_refusal : s_Ok c_X6_refusal := by
  refine s_ok_of k_X6_refusal (by decide +kernel) sta_X6_refusal ck_X6_refusal (And.intro ok_X6_looksAt (And.intro ok_X6_allOf (And.intro ok_X6_doClash trivial))) ?_
  rintro vs L ⟨s, A, w, h, a, e, li, n, d, rfl, rfl, hn, hn8, he, hd⟩
  refine ⟨rfl, fun G hG => ?_⟩
  have e3 : (s 3).toNatClampNeg = n := by rw [hn, nI_clamp (by omega)]
  have fin : ∀ a2 : Int32, a2 = p_re (mOn A) (mNd A) (mCl A) (s 3).toNatClampNeg li (A 1 1) w h a e.toNatClampNeg → s_PP (some .int) true c_X6_refusal.2.2.2.2.2 [.ref 0, .int w, .int h, .int a, .int e, .int li] (mdW s A) (some (.int a2)) (mdW s A) := fun a2 ha => ⟨rfl, by rw [ha]; rfl, fun _ => rfl⟩
  refine hG 0 _ _ _ (And.intro ⟨s, A, w, h, e, n, d, rfl, rfl, hn, hn8, he, hd⟩ ?_)
  intro r hr
  obtain ⟨g, hg⟩ : ∃ g, g = p_it (mNd A) (s 3).toNatClampNeg h ((1 : Int32) <<< (w &&& 31)) e.toNatClampNeg := ⟨_, rfl⟩
  obtain rfl : r = some (.int g) := by rw [hg]; exact hr
  refine And.intro (fun h1 => ?_) (fun h1 => ?_)
  · exact fin _ (by rw [p_re, if_neg (fun q => p_hb_0.mp q h1)])
  · have h1 : p_hb li w = 0 := p_hb_0.mpr h1
    refine And.intro ⟨s, A, 2, g, n, rfl, rfl, hn, hn8, by omega⟩ ?_
    intro r hr
    obtain rfl : r = some (.int (p_ga (mOn A) (s 3).toNatClampNeg g)) := hr
    refine And.intro (vp_in_nI (n := 1) (N := 159) (by decide) (by decide)) (And.intro (fun h2 => ?_) (fun h2 => ?_))
    · have h2 : p_ga (mOn A) (s 3).toNatClampNeg g &&& A 1 1 &&& (a ^^^ (-1)) = 0 := h2
      refine And.intro ⟨s, A, _, _, n, rfl, rfl, hn, hn8⟩ ?_
      intro r hr
      obtain rfl : r = some (.int (if p_ga (mCl A) (s 3).toNatClampNeg g &&& (g ||| h) = 0 then 0 else 1)) := hr
      by_cases h3 : p_ga (mCl A) (s 3).toNatClampNeg g &&& (g ||| h) = 0
      · refine And.intro (fun _ => ?_) (fun q => ?_)
        · exact fin _ (by rw [p_re, if_pos h1, ← hg, if_pos h2, if_pos h3])
        · rw [if_pos h3] at q; exact absurd rfl q
      · refine And.intro (fun q => ?_) (fun _ => ?_)
        · rw [if_neg h3] at q; exact absurd q (by decide)
        · exact fin _ (by rw [p_re, if_pos h1, ← hg, if_pos h2, if_neg h3])
    · have h2 : ¬ p_ga (mOn A) (s 3).toNatClampNeg g &&& A 1 1 &&& (a ^^^ (-1)) = 0 := h2
      exact fin _ (by rw [p_re, if_pos h1, ← hg, if_neg h2])
/-- takenBy, as it is written -/
def p_tk (nd : Nat → Int32) (n : Nat) (g h : Int32) : Nat → Int32
  | 0 => 0
  | k + 1 => if p_hb h (nI k) = 0 then p_tk nd n g h k else if p_fw nd n ((1 : Int32) <<< (nI k &&& 31)) &&& g = 0 then p_tk nd n g h k else p_tk nd n g h k ||| ((1 : Int32) <<< (nI k &&& 31))
theorem p_sh0 (x : Int32) : (0 : Int32) <<< (x &&& 31) = 0 := by
  apply Int32.toBitVec_inj.mp
  simp
def c_X6_takenBy : sCtr := ((yX6_takenBy, cX6_takenBy, 5, (some .int)), (7, 2, 2, 47), true,
  mdfp,
  fun vs L => ∃ (s : Nat → Int32) (A : Nat → Nat → Int32) (g h : Int32) (n : Nat), vs = [.ref 0, .int g, .int h] ∧ L = mdW s A ∧ s 3 = nI n ∧ n ≤ 8,
  fun vs L r _ => r = some (.int (p_tk (mNd (bF L)) (oI L 0 3).toNatClampNeg (vI vs 1) (vI vs 2) (oI L 0 3).toNatClampNeg)))
theorem sta_X6_takenBy : s_Sta c_X6_takenBy := ⟨⟨by decide +kernel, by decide +kernel, by decide +kernel⟩, List.mem_of_getElem? (i := 1115) (by decide +kernel), List.mem_of_getElem? (i := 70) (by decide +kernel), ⟨List.mem_of_getElem? (i := 1114) (by decide +kernel), List.mem_of_getElem? (i := 54) (by decide +kernel), Or.inl ⟨_, rfl, rfl⟩⟩⟩

def k_X6_takenBy : List sBk := [
  (0, false, [true, true, true, false, false], [oK 0 (.iconst 0) (.int 0), o0 1 (.istore_n 3), oK 2 (.iconst 0) (.int 0), o0 3 (.istore 4), oN 5 .nop [1]]),
  (5, true, [true, true, true, true, true], [o0 5 (.iload 4), o0 7 (.aload_n 0), oN 8 (.getfield 85) [6, 3, 825], oN 11 (.if_icmp .ge 46) [4], o0 14 (.iload_n 3), o0 15 (.iload_n 2), o0 16 (.iload 4), o0 18 .ishr, oK 19 (.iconst 1) (.int 1), o0 20 .iand, oK 21 (.iconst 1) (.int 1), oN 22 (.if_icmp .ne 20) [2], o0 25 (.aload_n 0), oK 26 (.iconst 1) (.int 1), o0 27 (.iload 4), o0 29 .ishl, oC 30 (.invokevirtual 189) [1019] c_X6_follow, o0 33 (.iload_n 1), o0 34 .iand, oN 35 (.ifCond .eq 7) [2], oK 38 (.iconst 1) (.int 1), oN 39 (.goto 4) [3]]),
  (42, false, [true, true, true, false, true], [oK 42 (.iconst 0) (.int 0), oN 43 .nop [3]]),
  (43, false, [true, true, true, false, true], [oC 43 (.invokestatic 150) [976] c_X6_flag, o0 46 (.iload 4), o0 48 .ishl, o0 49 .ior, o0 50 (.istore_n 3), oK 51 (.iinc 4 1) (.int 1), oN 54 (.goto (-49)) [1]]),
  (57, false, [false, false, false, true, false], [o0 57 (.iload_n 3), o0 58 .ireturn])]
set_option maxRecDepth 100000 in
theorem ck_X6_takenBy : s_ck RX6 cX6_takenBy 5 2 47 k_X6_takenBy = true := by decide +kernel

set_option maxRecDepth 100000 in
set_option maxHeartbeats 1000000 in
theorem ok_X6_takenBy : s_Ok c_X6_takenBy := by
  refine s_ok_of k_X6_takenBy (by decide +kernel) sta_X6_takenBy ck_X6_takenBy (And.intro ok_X6_follow (And.intro ok_X6_flag trivial)) ?_
  rintro vs L ⟨s, A, g, h, n, rfl, rfl, hn, hn8⟩
  refine ⟨rfl, fun G hG => ?_⟩
  have e3 : (s 3).toNatClampNeg = n := by rw [hn, nI_clamp (by omega)]
  have loop : ∀ (k i : Nat) (x a : Int32), i + k = n → x = nI i → a = p_tk (mNd A) n g h i → G 1 [some (.ref 0), some (.int g), some (.int h), some (.int a), some (.int x)] [] (mdW s A) := by
    intro k
    induction k with
    | zero =>
      intro i x a hi hx ha
      refine hG 1 _ _ _ (And.intro (fun q => ?_) (fun q => ?_))
      · have q : x < s 3 := q
        rw [hx, hn, nI_ltI (by omega) (by omega)] at q; omega
      · refine ⟨rfl, ?_, fun _ => rfl⟩
        show some (Value.int a) = some (Value.int (p_tk (mNd A) (s 3).toNatClampNeg g h (s 3).toNatClampNeg))
        rw [ha, e3, show i = n by omega]
    | succ k ih =>
      intro i x a hi hx ha
      refine hG 1 _ _ _ (And.intro (fun q => ?_) (fun q => ?_))
      · refine And.intro (fun h1 => ?_) (fun h1 => ?_)
        · have h1 : ¬ p_hb h x = 0 := fun z => p_hb_0.mp z h1
          refine And.intro ⟨s, A, _, n, rfl, rfl, hn, hn8⟩ ?_
          intro r hr
          obtain rfl : r = some (.int (p_fw (mNd A) (s 3).toNatClampNeg ((1 : Int32) <<< (x &&& 31)))) := hr
          refine And.intro (fun h2 => ?_) (fun h2 => ?_)
          · have h2 : p_fw (mNd A) (s 3).toNatClampNeg ((1 : Int32) <<< (x &&& 31)) &&& g = 0 := h2
            rw [e3] at h2
            refine And.intro ⟨_, rfl⟩ ?_
            intro r hr
            obtain rfl : r = some (.int 0) := hr
            exact ih (i + 1) _ _ (by omega) (by rw [hx, nI_1]) (by rw [p_sh0, p_or0, p_tk, ← hx, if_neg h1, if_pos h2, ha])
          · have h2 : ¬ p_fw (mNd A) (s 3).toNatClampNeg ((1 : Int32) <<< (x &&& 31)) &&& g = 0 := h2
            rw [e3] at h2
            refine And.intro ⟨_, rfl⟩ ?_
            intro r hr
            obtain rfl : r = some (.int 1) := hr
            exact ih (i + 1) _ _ (by omega) (by rw [hx, nI_1]) (by rw [p_tk, ← hx, if_neg h1, if_neg h2, ha])
        · have h1 : p_hb h x = 0 := p_hb_0.mpr h1
          refine And.intro ⟨_, rfl⟩ ?_
          intro r hr
          obtain rfl : r = some (.int 0) := hr
          exact ih (i + 1) _ _ (by omega) (by rw [hx, nI_1]) (by rw [p_sh0, p_or0, p_tk, ← hx, if_pos h1, ha])
      · have q : ¬ x < s 3 := q
        rw [hx, hn, nI_ltI (by omega) (by omega)] at q; omega
  exact hG 0 _ _ _ (loop n 0 _ _ (by omega) nI_0.symm rfl)
/-- who lives where h holds -/
def p_lb (on nd : Nat → Int32) (n : Nat) (l0 h0 h : Int32) : Int32 := l0 ||| p_ga on n (p_fw nd n (h &&& (h0 ^^^ (-1))))
def p_lbM (s : Nat → Int32) (A : Nat → Nat → Int32) (h : Int32) : Int32 := p_lb (mOn A) (mNd A) (s 3).toNatClampNeg (A 1 0) (A 1 26) h
def c_X6_livingBy : sCtr := ((yX6_livingBy, cX6_livingBy, 2, (some .int)), (7, 1, 2, 47), true,
  mdfp,
  fun vs L => ∃ (s : Nat → Int32) (A : Nat → Nat → Int32) (h : Int32) (n : Nat), vs = [.ref 0, .int h] ∧ L = mdW s A ∧ s 3 = nI n ∧ n ≤ 8,
  fun vs L r _ => r = some (.int (p_lbM (oI L 0) (bF L) (vI vs 1))))
theorem sta_X6_livingBy : s_Sta c_X6_livingBy := ⟨⟨by decide +kernel, by decide +kernel, by decide +kernel⟩, List.mem_of_getElem? (i := 1137) (by decide +kernel), List.mem_of_getElem? (i := 70) (by decide +kernel), ⟨List.mem_of_getElem? (i := 1136) (by decide +kernel), List.mem_of_getElem? (i := 56) (by decide +kernel), Or.inl ⟨_, rfl, rfl⟩⟩⟩

def k_X6_livingBy : List sBk := [
  (0, false, [true, true], [o0 0 (.aload_n 0), oN 1 (.getfield 7) [6, 0, 822], oK 4 (.iconst 0) (.int 0), o0 5 .iaload, o0 6 (.aload_n 0), oK 7 (.iconst 2) (.int 2), o0 8 (.aload_n 0), o0 9 (.iload_n 1), o0 10 (.aload_n 0), oN 11 (.getfield 7) [6, 0, 822], oK 14 (.bipush 26) (.int 26), o0 16 .iaload, oK 17 (.iconst (-1)) (.int (-1)), o0 18 .ixor, o0 19 .iand, oC 20 (.invokevirtual 189) [1019] c_X6_follow, oC 23 (.invokevirtual 182) [1023] c_X6_allOf, o0 26 .ior, o0 27 .ireturn])]
set_option maxRecDepth 100000 in
theorem ck_X6_livingBy : s_ck RX6 cX6_livingBy 2 2 47 k_X6_livingBy = true := by decide +kernel

set_option maxRecDepth 100000 in
set_option maxHeartbeats 1000000 in
theorem ok_X6_livingBy : s_Ok c_X6_livingBy := by
  refine s_ok_of k_X6_livingBy (by decide +kernel) sta_X6_livingBy ck_X6_livingBy (And.intro ok_X6_follow (And.intro ok_X6_allOf trivial)) ?_
  rintro vs L ⟨s, A, h, n, rfl, rfl, hn, hn8⟩
  refine ⟨rfl, fun G hG => ?_⟩
  refine hG 0 _ _ _ (And.intro (vp_in_nI (n := 0) (N := 159) (by decide) (by decide)) (And.intro (vp_in_nI (n := 26) (N := 159) (by decide) (by decide)) (And.intro ⟨s, A, _, n, rfl, rfl, hn, hn8⟩ ?_)))
  intro r hr
  obtain rfl : r = some (.int (p_fw (mNd A) (s 3).toNatClampNeg (h &&& (A 1 26 ^^^ (-1))))) := hr
  refine And.intro ⟨s, A, 2, _, n, rfl, rfl, hn, hn8, by omega⟩ ?_
  intro r hr
  obtain rfl : r = some (.int (p_ga (mOn A) (s 3).toNatClampNeg (p_fw (mNd A) (s 3).toNatClampNeg (h &&& (A 1 26 ^^^ (-1)))))) := hr
  exact ⟨rfl, rfl, fun _ => rfl⟩
/-- what holds when w has been asked, or -4 -/
def p_as (on nd cl : Nat → Int32) (n : Nat) (l0 h0 ba w h : Int32) (d : Nat) (li : Int32) : Int32 := if p_hb h w = 0 then (if p_re on nd cl n li ba w h (p_lb on nd n l0 h0 h) d = 0 then h ||| p_fw nd n ((1 : Int32) <<< (w &&& 31)) else -4) else -4
def p_asM (s : Nat → Int32) (A : Nat → Nat → Int32) (w h e li : Int32) : Int32 := p_as (mOn A) (mNd A) (mCl A) (s 3).toNatClampNeg (A 1 0) (A 1 26) (A 1 1) w h e.toNatClampNeg li
def c_X6_askedBy : sCtr := ((yX6_askedBy, cX6_askedBy, 6, (some .int)), (7, 4, 3, 75), true,
  mdfp,
  fun vs L => ∃ (s : Nat → Int32) (A : Nat → Nat → Int32) (w h e li : Int32) (n d : Nat), vs = [.ref 0, .int w, .int h, .int e, .int li] ∧ L = mdW s A ∧ s 3 = nI n ∧ n ≤ 8 ∧ e = nI d ∧ d ≤ 8,
  fun vs L r _ => r = some (.int (p_asM (oI L 0) (bF L) (vI vs 1) (vI vs 2) (vI vs 3) (vI vs 4))))
theorem sta_X6_askedBy : s_Sta c_X6_askedBy := ⟨⟨by decide +kernel, by decide +kernel, by decide +kernel⟩, List.mem_of_getElem? (i := 1141) (by decide +kernel), List.mem_of_getElem? (i := 70) (by decide +kernel), ⟨List.mem_of_getElem? (i := 1140) (by decide +kernel), List.mem_of_getElem? (i := 57) (by decide +kernel), Or.inl ⟨_, rfl, rfl⟩⟩⟩

def k_X6_askedBy : List sBk := [
  (0, false, [true, true, true, true, true, false], [o0 0 (.iload_n 2), o0 1 (.iload_n 1), o0 2 .ishr, oK 3 (.iconst 1) (.int 1), o0 4 .iand, oN 5 (.ifCond .ne 24) [1], o0 8 (.aload_n 0), o0 9 (.iload_n 1), o0 10 (.iload_n 2), o0 11 (.aload_n 0), o0 12 (.iload_n 2), oC 13 (.invokevirtual 225) [1134] c_X6_livingBy, o0 16 (.iload_n 3), o0 17 (.iload 4), oC 19 (.invokevirtual 212) [1092] c_X6_refusal, oN 22 (.ifCond .ne 7) [1], oK 25 (.iconst 1) (.int 1), oN 26 (.goto 4) [2]]),
  (29, false, [true, true, true, false, false, false], [oK 29 (.iconst 0) (.int 0), oN 30 .nop [2]]),
  (30, false, [true, true, true, false, false, false], [o0 30 (.istore 5), o0 32 (.iload 5), oN 34 (.ifCond .eq 15) [3], o0 37 (.iload_n 2), o0 38 (.aload_n 0), oK 39 (.iconst 1) (.int 1), o0 40 (.iload_n 1), o0 41 .ishl, oC 42 (.invokevirtual 189) [1019] c_X6_follow, o0 45 .ior, oN 46 (.goto 5) [4]]),
  (49, false, [false, false, false, false, false, false], [oK 49 (.bipush (-4)) (.int (-4)), oN 51 .nop [4]]),
  (51, false, [false, false, false, false, false, false], [o0 51 .ireturn])]
set_option maxRecDepth 100000 in
theorem ck_X6_askedBy : s_ck RX6 cX6_askedBy 6 3 75 k_X6_askedBy = true := by decide +kernel

set_option maxRecDepth 100000 in
set_option maxHeartbeats 1000000 in
theorem ok_X6_askedBy : s_Ok c_X6_askedBy := by
  refine s_ok_of k_X6_askedBy (by decide +kernel) sta_X6_askedBy ck_X6_askedBy (And.intro ok_X6_livingBy (And.intro ok_X6_refusal (And.intro ok_X6_follow trivial))) ?_
  rintro vs L ⟨s, A, w, h, e, li, n, d, rfl, rfl, hn, hn8, he, hd⟩
  refine ⟨rfl, fun G hG => ?_⟩
  have fin : ∀ a2 : Int32, a2 = p_asM s A w h e li → s_PP (some .int) true c_X6_askedBy.2.2.2.2.2 [.ref 0, .int w, .int h, .int e, .int li] (mdW s A) (some (.int a2)) (mdW s A) := fun a2 ha => ⟨rfl, by rw [ha]; rfl, fun _ => rfl⟩
  have no : p_asM s A w h e li = -4 → s_go none k_X6_askedBy G (s_PP (some .int) true c_X6_askedBy.2.2.2.2.2 [.ref 0, .int w, .int h, .int e, .int li] (mdW s A)) false 98 2 [some (.ref 0), some (.int w), some (.int h), none, none, none] [.int 0] (mdW s A) := by
    intro q
    refine And.intro (fun _ => ?_) (fun z => absurd rfl z)
    exact fin _ q.symm
  refine hG 0 _ _ _ (And.intro (fun h1 => ?_) (fun h1 => ?_))
  · have h1 : p_hb h w = 0 := by rw [← p_hb_v]; exact h1
    refine And.intro ⟨s, A, h, n, rfl, rfl, hn, hn8⟩ ?_
    intro r hr
    obtain rfl : r = some (.int (p_lbM s A h)) := hr
    refine And.intro ⟨s, A, w, h, _, e, li, n, d, rfl, rfl, hn, hn8, he, hd⟩ ?_
    intro r hr
    obtain rfl : r = some (.int (p_re (mOn A) (mNd A) (mCl A) (s 3).toNatClampNeg li (A 1 1) w h (p_lbM s A h) e.toNatClampNeg)) := hr
    refine And.intro (fun h2 => ?_) (fun h2 => ?_)
    · have h2 : p_re (mOn A) (mNd A) (mCl A) (s 3).toNatClampNeg li (A 1 1) w h (p_lb (mOn A) (mNd A) (s 3).toNatClampNeg (A 1 0) (A 1 26) h) e.toNatClampNeg = 0 := h2
      refine And.intro (fun z => absurd z (by decide)) (fun _ => ?_)
      refine And.intro ⟨s, A, _, n, rfl, rfl, hn, hn8⟩ ?_
      intro r hr
      obtain rfl : r = some (.int (p_fw (mNd A) (s 3).toNatClampNeg ((1 : Int32) <<< (w &&& 31)))) := hr
      exact fin _ (by rw [p_asM, p_as, if_pos h1, if_pos h2])
    · have h2 : ¬ p_re (mOn A) (mNd A) (mCl A) (s 3).toNatClampNeg li (A 1 1) w h (p_lb (mOn A) (mNd A) (s 3).toNatClampNeg (A 1 0) (A 1 26) h) e.toNatClampNeg = 0 := h2
      exact no (by rw [p_asM, p_as, if_pos h1, if_neg h2])
  · have h1 : ¬ p_hb h w = 0 := by rw [← p_hb_v]; exact h1
    exact no (by rw [p_asM, p_as, if_neg h1])

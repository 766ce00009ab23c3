/-! ===== Book: bits and rows ===== -/
def vI (vs : sS) (k : Nat) : Int32 := match s_nth vs k with
  | some (.int v) => v
  | _ => 0
/-- a field of the object at cell 0 -/
def bS (L : sH) (k : Nat) : Int32 := match s_nth L 0 with
  | some (.inr (.inr (_, fs))) => vI fs k
  | _ => 0
/-- the ints of the array at a cell -/
def bF (L : sH) (i : Nat) : Nat → Int32 := match s_nth L i with
  | some (.inl (_, _, f)) => f
  | _ => fun _ => 0
/-- the cell that a field of an object names -/
def s_rf (L : sH) (b k : Nat) : Nat := match s_nth L b with
  | some (.inr (.inr (_, fs))) => match s_nth fs k with
    | some (.ref a) => a
    | _ => 0
  | _ => 0
def bkO (s : Nat → Int32) : sC := .inr (.inr (0, [.int (s 0), .int (s 1), .int (s 2), .int (s 3), .int (s 4), .int (s 5), .int (s 6), .ref 1, .ref 2, .ref 3, .ref 4, .ref 5, .ref 6, .ref 7, .ref 8, .int (s 15), .ref 9, .int (s 17), .int (s 18)]))
/-- a Book's cells: itself; years, price, ones, needed, clashing, follows, wanted, planWish, seenOne -/
def bkW (s : Nat → Int32) (F : Nat → Nat → Int32) : sH := [bkO s, .inl (0, 8, F 1), .inl (0, 8, F 2), .inl (0, 8, F 3), .inl (0, 8, F 4), .inl (0, 8, F 5), .inl (0, 8, F 6), .inl (0, 8, F 7), .inl (0, 6, F 8), .inl (0, 8, F 9)]
def bkP (L : sH) (b : Nat) : List Nat := [b, s_rf L b 7, s_rf L b 8, s_rf L b 9, s_rf L b 10, s_rf L b 11, s_rf L b 12, s_rf L b 13, s_rf L b 14, s_rf L b 16]
def bkfp (vs : sS) (L : sH) : List Nat := match vs with
  | .ref b :: _ => bkP L b
  | _ => []
def p_hb (x i : Int32) : Int32 := if (x >>> (i &&& 31)) &&& 1 = 0 then 0 else 1
def c_X5_hasBit : sCtr := ((yX5_hasBit, cX5_hasBit, 2, (some .boolean)), (0, 2, 0, 0), true,
  fun _ _ => [],
  fun vs _ => ∃ x i : Int32, vs = [.int x, .int i],
  fun vs _ r _ => r = some (.int (p_hb (vI vs 0) (vI vs 1))))
theorem sta_X5_hasBit : s_Sta c_X5_hasBit := ⟨⟨by decide +kernel, by decide +kernel, by decide +kernel⟩, List.mem_of_getElem? (i := 447) (by decide +kernel), List.mem_of_getElem? (i := 64) (by decide +kernel), List.mem_of_getElem? (i := 446) (by decide +kernel)⟩

def k_X5_hasBit : List sBk := [
  (0, false, [true, true], [o0 0 (.iload_n 0), o0 1 (.iload_n 1), o0 2 .ishr, oK 3 (.iconst 1) (.int 1), o0 4 .iand, oN 5 (.ifCond .eq 7) [1], oK 8 (.iconst 1) (.int 1), oN 9 (.goto 4) [2]]),
  (12, false, [false, false], [oK 12 (.iconst 0) (.int 0), oN 13 .nop [2]]),
  (13, false, [false, false], [o0 13 .ireturn])]
set_option maxRecDepth 100000 in
theorem ck_X5_hasBit : s_ck RX5 cX5_hasBit 2 0 0 k_X5_hasBit = true := by decide +kernel

set_option maxRecDepth 100000 in
set_option maxHeartbeats 1000000 in
theorem ok_X5_hasBit : s_Ok c_X5_hasBit := by
  refine s_ok_of k_X5_hasBit (by decide +kernel) sta_X5_hasBit ck_X5_hasBit trivial ?_
  rintro vs L ⟨x, i, rfl⟩
  refine ⟨rfl, fun G hG => ?_⟩
  refine hG 0 _ _ _ ?_
  refine And.intro (fun h => ?_) (fun h => ?_)
  · refine And.intro (Or.inl rfl) ⟨rfl, ?_, fun _ => rfl⟩
    show _ = some (Value.int (p_hb x i))
    rw [p_hb, if_pos h]
  · refine And.intro (Or.inr rfl) ⟨rfl, ?_, fun _ => rfl⟩
    show _ = some (Value.int (p_hb x i))
    rw [p_hb, if_neg h]
def c_X5_bitOf : sCtr := ((yX5_bitOf, cX5_bitOf, 2, (some .int)), (0, 2, 0, 0), true,
  fun _ _ => [],
  fun vs _ => ∃ x i : Int32, vs = [.int x, .int i],
  fun vs _ r _ => r = some (.int ((vI vs 0 >>> (vI vs 1 &&& 31)) &&& 1)))
theorem sta_X5_bitOf : s_Sta c_X5_bitOf := ⟨⟨by decide +kernel, by decide +kernel, by decide +kernel⟩, List.mem_of_getElem? (i := 516) (by decide +kernel), List.mem_of_getElem? (i := 64) (by decide +kernel), List.mem_of_getElem? (i := 515) (by decide +kernel)⟩

def k_X5_bitOf : List sBk := [
  (0, false, [true, true], [o0 0 (.iload_n 0), o0 1 (.iload_n 1), o0 2 .ishr, oK 3 (.iconst 1) (.int 1), o0 4 .iand, o0 5 .ireturn])]
set_option maxRecDepth 100000 in
theorem ck_X5_bitOf : s_ck RX5 cX5_bitOf 2 0 0 k_X5_bitOf = true := by decide +kernel

set_option maxRecDepth 100000 in
set_option maxHeartbeats 1000000 in
theorem ok_X5_bitOf : s_Ok c_X5_bitOf := by
  refine s_ok_of k_X5_bitOf (by decide +kernel) sta_X5_bitOf ck_X5_bitOf trivial ?_
  rintro vs L ⟨x, i, rfl⟩
  refine ⟨rfl, fun G hG => ?_⟩
  exact hG 0 _ _ _ ⟨rfl, rfl, fun _ => rfl⟩
/-- a bit set or taken away -/
def p_wb (x i z : Int32) : Int32 := if z = 0 then x &&& (((1 : Int32) <<< (i &&& 31)) ^^^ (-1)) else x ||| ((1 : Int32) <<< (i &&& 31))
def c_X5_withBit : sCtr := ((yX5_withBit, cX5_withBit, 3, (some .int)), (0, 3, 0, 0), true,
  fun _ _ => [],
  fun vs _ => ∃ x i z : Int32, vs = [.int x, .int i, .int z],
  fun vs _ r _ => r = some (.int (p_wb (vI vs 0) (vI vs 1) (vI vs 2))))
theorem sta_X5_withBit : s_Sta c_X5_withBit := ⟨⟨by decide +kernel, by decide +kernel, by decide +kernel⟩, List.mem_of_getElem? (i := 427) (by decide +kernel), List.mem_of_getElem? (i := 64) (by decide +kernel), List.mem_of_getElem? (i := 426) (by decide +kernel)⟩

def k_X5_withBit : List sBk := [
  (0, false, [true, true, true], [o0 0 (.iload_n 2), oN 1 (.ifCond .eq 11) [1], o0 4 (.iload_n 0), oK 5 (.iconst 1) (.int 1), o0 6 (.iload_n 1), o0 7 .ishl, o0 8 .ior, oN 9 (.goto 10) [2]]),
  (12, false, [true, true, false], [o0 12 (.iload_n 0), oK 13 (.iconst 1) (.int 1), o0 14 (.iload_n 1), o0 15 .ishl, oK 16 (.iconst (-1)) (.int (-1)), o0 17 .ixor, o0 18 .iand, oN 19 .nop [2]]),
  (19, false, [false, false, false], [o0 19 .ireturn])]
set_option maxRecDepth 100000 in
theorem ck_X5_withBit : s_ck RX5 cX5_withBit 3 0 0 k_X5_withBit = true := by decide +kernel

set_option maxRecDepth 100000 in
set_option maxHeartbeats 1000000 in
theorem ok_X5_withBit : s_Ok c_X5_withBit := by
  refine s_ok_of k_X5_withBit (by decide +kernel) sta_X5_withBit ck_X5_withBit trivial ?_
  rintro vs L ⟨x, i, z, rfl⟩
  refine ⟨rfl, fun G hG => ?_⟩
  refine hG 0 _ _ _ (And.intro (fun h => ?_) (fun h => ?_))
  · refine ⟨rfl, ?_, fun _ => rfl⟩
    show _ = some (Value.int (p_wb x i z))
    rw [p_wb, if_pos h]
  · refine ⟨rfl, ?_, fun _ => rfl⟩
    show _ = some (Value.int (p_wb x i z))
    rw [p_wb, if_neg h]
/-- the union of row's places whose bits stand in g, below n -/
def p_ga (f : Nat → Int32) : Nat → Int32 → Int32
  | 0, _ => 0
  | n + 1, g => if p_hb g (nI n) = 0 then p_ga f n g else p_ga f n g ||| f n
def c_X0_gather : sCtr := ((yX0_gather, cX0_gather, 5, (some .int)), (1, 2, 1, 21), true,
  fun vs _ => match vs with
    | .ref b :: .ref r :: _ => [b, r]
    | _ => [],
  fun vs L => ∃ (v0 : Value) (y : Int32) (w : Nat) (rest : List Value) (n : Nat) (f : Nat → Int32) (g : Int32), vs = [.ref 0, .ref 1, .int g] ∧ L = [.inr (.inr (0, v0 :: .int y :: rest)), .inl (0, n, f)] ∧ y = nI w ∧ w ≤ n ∧ n ≤ 8,
  fun vs L r _ => r = some (.int (p_ga (bF L 1) (bS L 1).toNatClampNeg (vI vs 2))))
theorem sta_X0_gather : s_Sta c_X0_gather := ⟨⟨by decide +kernel, by decide +kernel, by decide +kernel⟩, List.mem_of_getElem? (i := 484) (by decide +kernel), List.mem_of_getElem? (i := 67) (by decide +kernel), ⟨List.mem_of_getElem? (i := 483) (by decide +kernel), List.mem_of_getElem? (i := 15) (by decide +kernel), Or.inl ⟨_, rfl, rfl⟩⟩⟩

def k_X0_gather : List sBk := [
  (0, false, [true, true, true, false, false], [oK 0 (.iconst 0) (.int 0), o0 1 (.istore_n 3), oK 2 (.iconst 0) (.int 0), o0 3 (.istore 4), oN 5 .nop [1]]),
  (5, true, [true, true, true, true, true], [o0 5 (.iload 4), o0 7 (.aload_n 0), oN 8 (.getfield 43) [0, 1, 119], oN 11 (.if_icmp .ge 25) [3], o0 14 (.iload_n 2), o0 15 (.iload 4), oC 17 (.invokestatic 88) [0, 0] c_X5_hasBit, oN 20 (.ifCond .eq 10) [2], o0 23 (.iload_n 3), o0 24 (.aload_n 1), o0 25 (.iload 4), o0 27 .iaload, o0 28 .ior, o0 29 (.istore_n 3), oN 30 .nop [2]]),
  (30, false, [true, true, true, true, true], [oK 30 (.iinc 4 1) (.int 1), oN 33 (.goto (-28)) [1]]),
  (36, false, [false, false, false, true, false], [o0 36 (.iload_n 3), o0 37 .ireturn])]
set_option maxRecDepth 100000 in
theorem ck_X0_gather : s_ck RX0 cX0_gather 5 1 21 k_X0_gather = true := by decide +kernel

set_option maxRecDepth 100000 in
set_option maxHeartbeats 1000000 in
theorem ok_X0_gather : s_Ok c_X0_gather := by
  refine s_ok_of k_X0_gather (by decide +kernel) sta_X0_gather ck_X0_gather (And.intro ok_X5_hasBit trivial) ?_
  rintro vs L ⟨v0, y, w, rest, n, f, g, rfl, rfl, hy, hw, hn⟩
  refine ⟨rfl, fun G hG => ?_⟩
  have loop : ∀ (k i : Nat) (x a : Int32), i + k = w → x = nI i → a = p_ga f i g → G 1 [some (.ref 0), some (.ref 1), some (.int g), some (.int a), some (.int x)] [] [.inr (.inr (0, v0 :: .int y :: rest)), .inl (0, n, f)] := by
    intro k
    induction k with
    | zero =>
      intro i x a hi hx ha
      refine hG 1 _ _ _ (And.intro (fun h => ?_) (fun h => ?_))
      · rw [hx, hy, nI_ltI (by omega) (by omega)] at h; omega
      · refine ⟨rfl, ?_, fun _ => rfl⟩
        show some (Value.int a) = some (Value.int (p_ga f y.toNatClampNeg g))
        rw [ha, hy, nI_clamp (by omega), show i = w by omega]
    | succ k ih =>
      intro i x a hi hx ha
      refine hG 1 _ _ _ (And.intro (fun h => ?_) (fun h => ?_))
      · refine And.intro ⟨g, x, rfl⟩ ?_
        intro r hr
        obtain rfl : r = some (.int (p_hb g x)) := hr
        refine And.intro (fun h2 => ?_) (fun h2 => ?_)
        · exact ih (i + 1) _ _ (by omega) (by rw [hx, nI_1]) (by rw [p_ga, ← hx, if_pos h2, ha])
        · refine And.intro (by rw [hx]; exact vp_in_nI (by omega) (by omega)) ?_
          exact ih (i + 1) _ _ (by omega) (by rw [hx, nI_1]) (by rw [p_ga, ← hx, if_neg h2, ha, hx, nI_clamp (by omega)])
      · rw [hx, hy, nI_ltI (by omega) (by omega)] at h; omega
  exact hG 0 _ _ _ (loop w 0 _ _ (by omega) nI_0.symm rfl)
def c_X0_hasOne : sCtr := ((yX0_hasOne, cX0_hasOne, 2, (some .boolean)), (1, 1, 0, 0), true,
  fun vs _ => match vs with
    | .ref b :: _ => [b]
    | _ => [],
  fun vs L => ∃ (y p : Int32) (rest : List Value), vs = [.ref 0, .int p] ∧ L = [.inr (.inr (0, .int y :: rest))],
  fun vs L r _ => r = some (.int (if vI vs 1 < 0 then 0 else if vI vs 1 < bS L 0 then 1 else 0)))
theorem sta_X0_hasOne : s_Sta c_X0_hasOne := ⟨⟨by decide +kernel, by decide +kernel, by decide +kernel⟩, List.mem_of_getElem? (i := 513) (by decide +kernel), List.mem_of_getElem? (i := 67) (by decide +kernel), ⟨List.mem_of_getElem? (i := 511) (by decide +kernel), List.mem_of_getElem? (i := 512) (by decide +kernel), Or.inl ⟨_, rfl, rfl⟩⟩⟩

def k_X0_hasOne : List sBk := [
  (0, false, [true, true], [o0 0 (.iload_n 1), oN 1 (.ifCond .lt 15) [1], o0 4 (.iload_n 1), o0 5 (.aload_n 0), oN 6 (.getfield 39) [0, 0, 115], oN 9 (.if_icmp .ge 7) [1], oK 12 (.iconst 1) (.int 1), oN 13 (.goto 4) [2]]),
  (16, false, [false, false], [oK 16 (.iconst 0) (.int 0), oN 17 .nop [2]]),
  (17, false, [false, false], [o0 17 .ireturn])]
set_option maxRecDepth 100000 in
theorem ck_X0_hasOne : s_ck RX0 cX0_hasOne 2 0 0 k_X0_hasOne = true := by decide +kernel

set_option maxRecDepth 100000 in
set_option maxHeartbeats 1000000 in
theorem ok_X0_hasOne : s_Ok c_X0_hasOne := by
  refine s_ok_of k_X0_hasOne (by decide +kernel) sta_X0_hasOne ck_X0_hasOne trivial ?_
  rintro vs L ⟨y, p, rest, rfl, rfl⟩
  refine ⟨rfl, fun G hG => ?_⟩
  refine hG 0 _ _ _ (And.intro (fun h => ?_) (fun h => ?_))
  · refine And.intro (Or.inl rfl) ⟨rfl, ?_, fun _ => rfl⟩
    show some (Value.int 0) = some (Value.int (if p < 0 then 0 else if p < y then 1 else 0))
    rw [if_pos h]
  · refine And.intro (fun h2 => ?_) (fun h2 => ?_)
    · refine And.intro (Or.inr rfl) ⟨rfl, ?_, fun _ => rfl⟩
      show some (Value.int 1) = some (Value.int (if p < 0 then 0 else if p < y then 1 else 0))
      rw [if_neg h, if_pos h2]
    · refine And.intro (Or.inl rfl) ⟨rfl, ?_, fun _ => rfl⟩
      show some (Value.int 0) = some (Value.int (if p < 0 then 0 else if p < y then 1 else 0))
      rw [if_neg h, if_neg h2]
def c_X0_hasWish : sCtr := ((yX0_hasWish, cX0_hasWish, 2, (some .boolean)), (1, 1, 0, 0), true,
  fun vs _ => match vs with
    | .ref b :: _ => [b]
    | _ => [],
  fun vs L => ∃ (v0 : Value) (y p : Int32) (rest : List Value), vs = [.ref 0, .int p] ∧ L = [.inr (.inr (0, v0 :: .int y :: rest))],
  fun vs L r _ => r = some (.int (if vI vs 1 < 0 then 0 else if vI vs 1 < bS L 1 then 1 else 0)))
theorem sta_X0_hasWish : s_Sta c_X0_hasWish := ⟨⟨by decide +kernel, by decide +kernel, by decide +kernel⟩, List.mem_of_getElem? (i := 501) (by decide +kernel), List.mem_of_getElem? (i := 67) (by decide +kernel), ⟨List.mem_of_getElem? (i := 499) (by decide +kernel), List.mem_of_getElem? (i := 500) (by decide +kernel), Or.inl ⟨_, rfl, rfl⟩⟩⟩

def k_X0_hasWish : List sBk := [
  (0, false, [true, true], [o0 0 (.iload_n 1), oN 1 (.ifCond .lt 15) [1], o0 4 (.iload_n 1), o0 5 (.aload_n 0), oN 6 (.getfield 43) [0, 1, 119], oN 9 (.if_icmp .ge 7) [1], oK 12 (.iconst 1) (.int 1), oN 13 (.goto 4) [2]]),
  (16, false, [false, false], [oK 16 (.iconst 0) (.int 0), oN 17 .nop [2]]),
  (17, false, [false, false], [o0 17 .ireturn])]
set_option maxRecDepth 100000 in
theorem ck_X0_hasWish : s_ck RX0 cX0_hasWish 2 0 0 k_X0_hasWish = true := by decide +kernel

set_option maxRecDepth 100000 in
set_option maxHeartbeats 1000000 in
theorem ok_X0_hasWish : s_Ok c_X0_hasWish := by
  refine s_ok_of k_X0_hasWish (by decide +kernel) sta_X0_hasWish ck_X0_hasWish trivial ?_
  rintro vs L ⟨v0, y, p, rest, rfl, rfl⟩
  refine ⟨rfl, fun G hG => ?_⟩
  refine hG 0 _ _ _ (And.intro (fun h => ?_) (fun h => ?_))
  · refine And.intro (Or.inl rfl) ⟨rfl, ?_, fun _ => rfl⟩
    show some (Value.int 0) = some (Value.int (if p < 0 then 0 else if p < y then 1 else 0))
    rw [if_pos h]
  · refine And.intro (fun h2 => ?_) (fun h2 => ?_)
    · refine And.intro (Or.inr rfl) ⟨rfl, ?_, fun _ => rfl⟩
      show some (Value.int 1) = some (Value.int (if p < 0 then 0 else if p < y then 1 else 0))
      rw [if_neg h, if_pos h2]
    · refine And.intro (Or.inl rfl) ⟨rfl, ?_, fun _ => rfl⟩
      show some (Value.int 0) = some (Value.int (if p < 0 then 0 else if p < y then 1 else 0))
      rw [if_neg h, if_neg h2]

/-! ===== WishClerk: tape, sheets, images ===== -/
def w3 (x1 x2 x3 x4 x5 x6 : Nat) (y7 y8 y9 ln : Int32) (f : Nat → Int32) : sH := [.inr (.inr (5, [.ref 1, .ref x1, .ref x2, .ref x3, .ref x4, .ref x5, .ref x6, .int y7, .int y8, .int y9])), .inr (.inr (4, [.ref 2, .int ln])), .inl (1, 160, f)]
def w3fp (vs : sS) (L : sH) : List Nat := match vs with
  | .ref b :: _ => [b, s_rf L b 0, s_rf L (s_rf L b 0) 0]
  | _ => []
def r_feed (ln c : Int32) : Int32 := if c < 0 then -1 else if 127 < c then -1 else if ln < 160 then ln + 1 else -3
def q_feed (ln c : Int32) : Int32 := if c < 0 then ln else if 127 < c then ln else if ln < 160 then ln + 1 else ln
def q_feedF (ln c : Int32) (f : Nat → Int32) : Nat → Int32 := fun j => if c < 0 then f j else if 127 < c then f j else if ln < 160 then upd f ln.toNatClampNeg (vp_nar .byte c.toInt8.toInt32) j else f j
def c_X5_feed : sCtr := ((yX5_feed, cX5_feed, 2, (some .int)), (6, 1, 0, 0), false,
  w3fp,
  fun vs L => ∃ (x1 x2 x3 x4 x5 x6 : Nat) (y7 y8 y9 ln : Int32) (f : Nat → Int32) (c : Int32) (t : Nat), vs = [.ref 0, .int c] ∧ L = w3 x1 x2 x3 x4 x5 x6 y7 y8 y9 ln f ∧ ln = nI t ∧ t ≤ 160,
  fun vs L r L' => r = some (.int (r_feed (oI L 1 1) (vI vs 1))) ∧ L' = [s_hd L, .inr (.inr (4, [.ref 2, .int (q_feed (oI L 1 1) (vI vs 1))])), .inl (1, 160, q_feedF (oI L 1 1) (vI vs 1) (bF L 2))])
theorem sta_X5_feed : s_Sta c_X5_feed := ⟨⟨by decide +kernel, by decide +kernel, by decide +kernel⟩, List.mem_of_getElem? (i := 332) (by decide +kernel), List.mem_of_getElem? (i := 64) (by decide +kernel), ⟨List.mem_of_getElem? (i := 330) (by decide +kernel), List.mem_of_getElem? (i := 331) (by decide +kernel), Or.inl ⟨_, rfl, rfl⟩⟩⟩

def k_X5_feed : List sBk := [
  (0, false, [true, true], [o0 0 (.iload_n 1), oN 1 (.ifCond .lt 9) [1], o0 4 (.iload_n 1), oK 5 (.bipush 127) (.int 127), oN 7 (.if_icmp .le 5) [2], oN 10 .nop [1]]),
  (10, false, [false, false], [oK 10 (.iconst (-1)) (.int (-1)), o0 11 .ireturn]),
  (12, false, [true, true], [o0 12 (.aload_n 0), oN 13 (.getfield 12) [5, 0, 298], oN 16 (.getfield 54) [4, 1, 95], oK 19 (.sipush 160) (.int 160), oN 22 (.if_icmp .lt 6) [3], oK 25 (.bipush (-3)) (.int (-3)), o0 27 .ireturn]),
  (28, false, [true, true], [o0 28 (.aload_n 0), oN 29 (.getfield 12) [5, 0, 298], oN 32 (.getfield 58) [4, 0, 93], o0 35 (.aload_n 0), oN 36 (.getfield 12) [5, 0, 298], oN 39 (.getfield 54) [4, 1, 95], o0 42 (.iload_n 1), o0 43 .i2b, o0 44 .bastore, o0 45 (.aload_n 0), oN 46 (.getfield 12) [5, 0, 298], o0 49 .dup, oN 50 (.getfield 54) [4, 1, 95], oK 53 (.iconst 1) (.int 1), o0 54 .iadd, oN 55 (.putfield 54) [4, 1, 95], o0 58 (.aload_n 0), oN 59 (.getfield 12) [5, 0, 298], oN 62 (.getfield 54) [4, 1, 95], o0 65 .ireturn])]
set_option maxRecDepth 100000 in
theorem ck_X5_feed : s_ck RX5 cX5_feed 2 0 0 k_X5_feed = true := by decide +kernel

set_option maxRecDepth 100000 in
set_option maxHeartbeats 1000000 in
theorem ok_X5_feed : s_Ok c_X5_feed := by
  refine s_ok_of k_X5_feed (by decide +kernel) sta_X5_feed ck_X5_feed trivial ?_
  rintro vs L ⟨x1, x2, x3, x4, x5, x6, y7, y8, y9, ln, f, c, t, rfl, rfl, hl, ht⟩
  refine ⟨rfl, fun G hG => ?_⟩
  have fin : ∀ (a : Int32) (L2 : sH), a = r_feed ln c → L2 = w3 x1 x2 x3 x4 x5 x6 y7 y8 y9 (q_feed ln c) (q_feedF ln c f) → s_PP (some .int) false c_X5_feed.2.2.2.2.2 [.ref 0, .int c] (w3 x1 x2 x3 x4 x5 x6 y7 y8 y9 ln f) (some (.int a)) L2 := fun a L2 ha hL => ⟨rfl, ⟨by rw [ha]; rfl, by rw [hL]; rfl⟩, fun h => by cases h⟩
  refine hG 0 _ _ _ (And.intro (fun h => ?_) (fun h => ?_))
  · exact fin _ _ (by rw [r_feed, if_pos h]) (by rw [q_feed, if_pos h, show q_feedF ln c f = f by funext j; rw [q_feedF, if_pos h]])
  refine And.intro (fun h2 => ?_) (fun h2 => ?_)
  · exact fin _ _ (by rw [r_feed, if_neg h, if_pos h2]) (by rw [q_feed, if_neg h, if_pos h2, show q_feedF ln c f = f by funext j; rw [q_feedF, if_neg h, if_pos h2]])
  refine And.intro (fun h3 => ?_) (fun h3 => ?_)
  · refine And.intro ?_ ?_
    · rw [hl] at h3 ⊢
      exact vp_in_nI ((nI_ltI (b := 160) (by omega) (by omega)).mp h3) (by omega)
    · exact fin _ _ (by rw [r_feed, if_neg h, if_neg h2, if_pos h3]) (by rw [q_feed, if_neg h, if_neg h2, if_pos h3, show q_feedF ln c f = upd f ln.toNatClampNeg (vp_nar .byte c.toInt8.toInt32) by funext j; rw [q_feedF, if_neg h, if_neg h2, if_pos h3]]; rfl)
  · exact fin _ _ (by rw [r_feed, if_neg h, if_neg h2, if_neg h3]) (by rw [q_feed, if_neg h, if_neg h2, if_neg h3, show q_feedF ln c f = f by funext j; rw [q_feedF, if_neg h, if_neg h2, if_neg h3]])
def r_end (ln n : Int32) : Int32 := if n < 0 then -1 else if ln < n then -1 else ln
def q_end (ln n : Int32) : Int32 := if n < 0 then ln else if ln < n then ln else n
def c_X5_end : sCtr := ((yX5_end, cX5_end, 3, (some .int)), (6, 1, 0, 0), false,
  w3fp,
  fun vs L => ∃ (x1 x2 x3 x4 x5 x6 : Nat) (y7 y8 y9 ln : Int32) (f : Nat → Int32) (c : Int32), vs = [.ref 0, .int c] ∧ L = w3 x1 x2 x3 x4 x5 x6 y7 y8 y9 ln f,
  fun vs L r L' => r = some (.int (r_end (oI L 1 1) (vI vs 1))) ∧ L' = [s_hd L, .inr (.inr (4, [.ref 2, .int (q_end (oI L 1 1) (vI vs 1))])), .inl (1, 160, bF L 2)])
theorem sta_X5_end : s_Sta c_X5_end := ⟨⟨by decide +kernel, by decide +kernel, by decide +kernel⟩, List.mem_of_getElem? (i := 336) (by decide +kernel), List.mem_of_getElem? (i := 64) (by decide +kernel), ⟨List.mem_of_getElem? (i := 334) (by decide +kernel), List.mem_of_getElem? (i := 335) (by decide +kernel), Or.inl ⟨_, rfl, rfl⟩⟩⟩

def k_X5_end : List sBk := [
  (0, false, [true, true, false], [o0 0 (.iload_n 1), oN 1 (.ifCond .lt 14) [1], o0 4 (.iload_n 1), o0 5 (.aload_n 0), oN 6 (.getfield 12) [5, 0, 298], oN 9 (.getfield 54) [4, 1, 95], oN 12 (.if_icmp .le 5) [2], oN 15 .nop [1]]),
  (15, false, [false, false, false], [oK 15 (.iconst (-1)) (.int (-1)), o0 16 .ireturn]),
  (17, false, [true, true, false], [o0 17 (.aload_n 0), oN 18 (.getfield 12) [5, 0, 298], oN 21 (.getfield 54) [4, 1, 95], o0 24 (.istore_n 2), o0 25 (.aload_n 0), oN 26 (.getfield 12) [5, 0, 298], o0 29 (.iload_n 1), oN 30 (.putfield 54) [4, 1, 95], o0 33 (.iload_n 2), o0 34 .ireturn])]
set_option maxRecDepth 100000 in
theorem ck_X5_end : s_ck RX5 cX5_end 3 0 0 k_X5_end = true := by decide +kernel

set_option maxRecDepth 100000 in
set_option maxHeartbeats 1000000 in
theorem ok_X5_end : s_Ok c_X5_end := by
  refine s_ok_of k_X5_end (by decide +kernel) sta_X5_end ck_X5_end trivial ?_
  rintro vs L ⟨x1, x2, x3, x4, x5, x6, y7, y8, y9, ln, f, c, rfl, rfl⟩
  refine ⟨rfl, fun G hG => ?_⟩
  have fin : ∀ (a : Int32) (L2 : sH), a = r_end ln c → L2 = w3 x1 x2 x3 x4 x5 x6 y7 y8 y9 (q_end ln c) f → s_PP (some .int) false c_X5_end.2.2.2.2.2 [.ref 0, .int c] (w3 x1 x2 x3 x4 x5 x6 y7 y8 y9 ln f) (some (.int a)) L2 := fun a L2 ha hL => ⟨rfl, ⟨by rw [ha]; rfl, by rw [hL]; rfl⟩, fun h => by cases h⟩
  refine hG 0 _ _ _ (And.intro (fun h => ?_) (fun h => ?_))
  · exact fin _ _ (by rw [r_end, if_pos h]) (by rw [q_end, if_pos h])
  refine And.intro (fun h2 => ?_) (fun h2 => ?_)
  · exact fin _ _ (by rw [r_end, if_neg h, if_pos h2]) (by rw [q_end, if_neg h, if_pos h2])
  · exact fin _ _ (by rw [r_end, if_neg h, if_neg h2]) (by rw [q_end, if_neg h, if_neg h2]; rfl)
def w0fp (vs : sS) (_ : sH) : List Nat := match vs with
  | .ref b :: _ => [b]
  | _ => []
def c_X5_fault : sCtr := ((yX5_fault, cX5_fault, 1, (some .int)), (6, 0, 0, 0), true,
  w0fp,
  fun vs L => ∃ (x0 x1 x2 x3 x4 x5 x6 : Nat) (y7 y8 y9 : Int32), vs = [.ref 0] ∧ L = [.inr (.inr (5, [.ref x0, .ref x1, .ref x2, .ref x3, .ref x4, .ref x5, .ref x6, .int y7, .int y8, .int y9]))],
  fun _ L r _ => r = some (.int (oI L 0 8)))
theorem sta_X5_fault : s_Sta c_X5_fault := ⟨⟨by decide +kernel, by decide +kernel, by decide +kernel⟩, List.mem_of_getElem? (i := 489) (by decide +kernel), List.mem_of_getElem? (i := 64) (by decide +kernel), ⟨List.mem_of_getElem? (i := 487) (by decide +kernel), List.mem_of_getElem? (i := 488) (by decide +kernel), Or.inl ⟨_, rfl, rfl⟩⟩⟩

def k_X5_fault : List sBk := [
  (0, false, [true], [o0 0 (.aload_n 0), oN 1 (.getfield 69) [5, 8, 306], o0 4 .ireturn])]
set_option maxRecDepth 100000 in
theorem ck_X5_fault : s_ck RX5 cX5_fault 1 0 0 k_X5_fault = true := by decide +kernel

set_option maxRecDepth 100000 in
set_option maxHeartbeats 1000000 in
theorem ok_X5_fault : s_Ok c_X5_fault := by
  refine s_ok_of k_X5_fault (by decide +kernel) sta_X5_fault ck_X5_fault trivial ?_
  rintro vs L ⟨x0, x1, x2, x3, x4, x5, x6, y7, y8, y9, rfl, rfl⟩
  exact ⟨rfl, fun G hG => hG 0 _ _ _ ⟨rfl, rfl, fun _ => rfl⟩⟩
def c_X5_torn : sCtr := ((yX5_torn, cX5_torn, 1, (some .int)), (6, 0, 0, 0), true,
  w0fp,
  fun vs L => ∃ (x0 x1 x2 x3 x4 x5 x6 : Nat) (y7 y8 y9 : Int32), vs = [.ref 0] ∧ L = [.inr (.inr (5, [.ref x0, .ref x1, .ref x2, .ref x3, .ref x4, .ref x5, .ref x6, .int y7, .int y8, .int y9]))],
  fun _ L r _ => r = some (.int (oI L 0 9)))
theorem sta_X5_torn : s_Sta c_X5_torn := ⟨⟨by decide +kernel, by decide +kernel, by decide +kernel⟩, List.mem_of_getElem? (i := 802) (by decide +kernel), List.mem_of_getElem? (i := 64) (by decide +kernel), ⟨List.mem_of_getElem? (i := 800) (by decide +kernel), List.mem_of_getElem? (i := 801) (by decide +kernel), Or.inl ⟨_, rfl, rfl⟩⟩⟩

def k_X5_torn : List sBk := [
  (0, false, [true], [o0 0 (.aload_n 0), oN 1 (.getfield 273) [5, 9, 307], o0 4 .ireturn])]
set_option maxRecDepth 100000 in
theorem ck_X5_torn : s_ck RX5 cX5_torn 1 0 0 k_X5_torn = true := by decide +kernel

set_option maxRecDepth 100000 in
set_option maxHeartbeats 1000000 in
theorem ok_X5_torn : s_Ok c_X5_torn := by
  refine s_ok_of k_X5_torn (by decide +kernel) sta_X5_torn ck_X5_torn trivial ?_
  rintro vs L ⟨x0, x1, x2, x3, x4, x5, x6, y7, y8, y9, rfl, rfl⟩
  exact ⟨rfl, fun G hG => hG 0 _ _ _ ⟨rfl, rfl, fun _ => rfl⟩⟩
def c_X3_isNothing : sCtr := ((yX3_isNothing, cX3_isNothing, 1, (some .boolean)), (4, 0, 0, 0), true,
  w0fp,
  fun vs L => ∃ (x : Nat) (ln sz : Int32), vs = [.ref 0] ∧ L = [.inr (.inr (3, [.ref x, .int ln, .int sz]))],
  fun _ L r _ => r = some (.int (if oI L 0 1 = -1 then 1 else 0)))
theorem sta_X3_isNothing : s_Sta c_X3_isNothing := ⟨⟨by decide +kernel, by decide +kernel, by decide +kernel⟩, List.mem_of_getElem? (i := 789) (by decide +kernel), List.mem_of_getElem? (i := 69) (by decide +kernel), ⟨List.mem_of_getElem? (i := 787) (by decide +kernel), List.mem_of_getElem? (i := 788) (by decide +kernel), Or.inl ⟨_, rfl, rfl⟩⟩⟩

def k_X3_isNothing : List sBk := [
  (0, false, [true], [o0 0 (.aload_n 0), oN 1 (.getfield 15) [3, 1, 287], oK 4 (.iconst (-1)) (.int (-1)), oN 5 (.if_icmp .ne 7) [1], oK 8 (.iconst 1) (.int 1), oN 9 (.goto 4) [2]]),
  (12, false, [false], [oK 12 (.iconst 0) (.int 0), oN 13 .nop [2]]),
  (13, false, [false], [o0 13 .ireturn])]
set_option maxRecDepth 100000 in
theorem ck_X3_isNothing : s_ck RX3 cX3_isNothing 1 0 0 k_X3_isNothing = true := by decide +kernel

set_option maxRecDepth 100000 in
set_option maxHeartbeats 1000000 in
theorem ok_X3_isNothing : s_Ok c_X3_isNothing := by
  refine s_ok_of k_X3_isNothing (by decide +kernel) sta_X3_isNothing ck_X3_isNothing trivial ?_
  rintro vs L ⟨x, ln, sz, rfl, rfl⟩
  refine ⟨rfl, fun G hG => ?_⟩
  refine hG 0 _ _ _ (And.intro (fun h => ?_) (fun h => ?_))
  · refine And.intro (Or.inr rfl) ⟨rfl, ?_, fun _ => rfl⟩
    show some (Value.int 1) = some (Value.int (if ln = -1 then 1 else 0))
    rw [if_pos h]
  · refine And.intro (Or.inl rfl) ⟨rfl, ?_, fun _ => rfl⟩
    show some (Value.int 0) = some (Value.int (if ln = -1 then 1 else 0))
    rw [if_neg h]
/-- what the machine would find at a cell -/
def p_fa (ln sz as i : Int32) : Int32 := if ln = -1 then 1 else if as = ln then (if i < 0 then 2 else if i < sz then 0 else 2) else 3
def c_X3_faultAt : sCtr := ((yX3_faultAt, cX3_faultAt, 3, (some .int)), (4, 2, 1, 20), true,
  w0fp,
  fun vs L => ∃ (x : Nat) (ln sz as i : Int32), vs = [.ref 0, .int as, .int i] ∧ L = [.inr (.inr (3, [.ref x, .int ln, .int sz]))],
  fun vs L r _ => r = some (.int (p_fa (oI L 0 1) (oI L 0 2) (vI vs 1) (vI vs 2))))
theorem sta_X3_faultAt : s_Sta c_X3_faultAt := ⟨⟨by decide +kernel, by decide +kernel, by decide +kernel⟩, List.mem_of_getElem? (i := 785) (by decide +kernel), List.mem_of_getElem? (i := 69) (by decide +kernel), ⟨List.mem_of_getElem? (i := 783) (by decide +kernel), List.mem_of_getElem? (i := 784) (by decide +kernel), Or.inl ⟨_, rfl, rfl⟩⟩⟩

def k_X3_faultAt : List sBk := [
  (0, false, [true, true, true], [o0 0 (.aload_n 0), oC 1 (.invokevirtual 22) [786] c_X3_isNothing, oN 4 (.ifCond .eq 5) [1], oK 7 (.iconst 1) (.int 1), o0 8 .ireturn]),
  (9, false, [true, true, true], [o0 9 (.iload_n 1), o0 10 (.aload_n 0), oN 11 (.getfield 15) [3, 1, 287], oN 14 (.if_icmp .eq 5) [2], oK 17 (.iconst 3) (.int 3), o0 18 .ireturn]),
  (19, false, [true, false, true], [o0 19 (.iload_n 2), oN 20 (.ifCond .lt 11) [3], o0 23 (.iload_n 2), o0 24 (.aload_n 0), oN 25 (.getfield 19) [3, 2, 289], oN 28 (.if_icmp .lt 7) [4], oN 31 .nop [3]]),
  (31, false, [false, false, false], [oK 31 (.iconst 2) (.int 2), oN 32 (.goto 4) [5]]),
  (35, false, [false, false, false], [oK 35 (.iconst 0) (.int 0), oN 36 .nop [5]]),
  (36, false, [false, false, false], [o0 36 .ireturn])]
set_option maxRecDepth 100000 in
theorem ck_X3_faultAt : s_ck RX3 cX3_faultAt 3 1 20 k_X3_faultAt = true := by decide +kernel

set_option maxRecDepth 100000 in
set_option maxHeartbeats 1000000 in
theorem ok_X3_faultAt : s_Ok c_X3_faultAt := by
  refine s_ok_of k_X3_faultAt (by decide +kernel) sta_X3_faultAt ck_X3_faultAt (And.intro ok_X3_isNothing trivial) ?_
  rintro vs L ⟨x, ln, sz, as, i, rfl, rfl⟩
  refine ⟨rfl, fun G hG => ?_⟩
  have fin : ∀ a : Int32, a = p_fa ln sz as i → s_PP (some .int) true c_X3_faultAt.2.2.2.2.2 [.ref 0, .int as, .int i] [.inr (.inr (3, [.ref x, .int ln, .int sz]))] (some (.int a)) [.inr (.inr (3, [.ref x, .int ln, .int sz]))] := fun a ha => ⟨rfl, by rw [ha]; rfl, fun _ => rfl⟩
  refine hG 0 _ _ _ (And.intro ⟨_, _, _, rfl, rfl⟩ ?_)
  intro r hr
  obtain rfl : r = some (.int (if ln = -1 then 1 else 0)) := hr
  by_cases h : ln = -1
  · refine And.intro (fun q => ?_) (fun _ => ?_)
    · rw [if_pos h] at q; exact absurd q (by decide)
    · exact fin _ (by rw [p_fa, if_pos h])
  refine And.intro (fun _ => ?_) (fun q => ?_)
  rotate_left
  · rw [if_neg h] at q; exact absurd rfl q
  refine And.intro (fun h2 => ?_) (fun h2 => ?_)
  · refine And.intro (fun h3 => ?_) (fun h3 => ?_)
    · exact fin _ (by rw [p_fa, if_neg h, if_pos h2, if_pos h3])
    · refine And.intro (fun h4 => ?_) (fun h4 => ?_)
      · exact fin _ (by rw [p_fa, if_neg h, if_pos h2, if_neg h3, if_pos h4])
      · exact fin _ (by rw [p_fa, if_neg h, if_pos h2, if_neg h3, if_neg h4])
  · exact fin _ (by rw [p_fa, if_neg h, if_neg h2])
def s1fp (vs : sS) (L : sH) : List Nat := match vs with
  | .ref b :: _ => [b, s_rf L b 0]
  | _ => []
def c_X3_makeNew : sCtr := ((yX3_makeNew, cX3_makeNew, 4, none), (4, 2, 0, 0), false,
  s1fp,
  fun vs L => ∃ (ln sz la m : Int32) (f : Nat → Int32) (k : Nat), vs = [.ref 0, .int la, .int m] ∧ L = [.inr (.inr (3, [.ref 1, .int ln, .int sz])), .inl (0, 40, f)] ∧ m = nI k ∧ k ≤ 40,
  fun vs L r L' => r = none ∧ L' = [.inr (.inr (3, [.ref 1, .int (vI vs 1), .int (vI vs 2)])), .inl (0, 40, p_fi (fun _ => 0) (bF L 1) (vI vs 2).toNatClampNeg)])
theorem sta_X3_makeNew : s_Sta c_X3_makeNew := ⟨⟨by decide +kernel, by decide +kernel, by decide +kernel⟩, List.mem_of_getElem? (i := 777) (by decide +kernel), List.mem_of_getElem? (i := 69) (by decide +kernel), ⟨List.mem_of_getElem? (i := 775) (by decide +kernel), List.mem_of_getElem? (i := 776) (by decide +kernel), Or.inl ⟨_, rfl, rfl⟩⟩⟩

def k_X3_makeNew : List sBk := [
  (0, false, [true, true, true, false], [o0 0 (.aload_n 0), o0 1 (.iload_n 1), oN 2 (.putfield 15) [3, 1, 287], o0 5 (.aload_n 0), o0 6 (.iload_n 2), oN 7 (.putfield 19) [3, 2, 289], oK 10 (.iconst 0) (.int 0), o0 11 (.istore_n 3), oN 12 .nop [1]]),
  (12, true, [true, false, true, true], [o0 12 (.iload_n 3), o0 13 (.iload_n 2), oN 14 (.if_icmp .ge 16) [2], o0 17 (.aload_n 0), oN 18 (.getfield 9) [3, 0, 285], o0 21 (.iload_n 3), oK 22 (.iconst 0) (.int 0), o0 23 .iastore, oK 24 (.iinc 3 1) (.int 1), oN 27 (.goto (-15)) [1]]),
  (30, false, [false, false, false, false], [o0 30 .return_])]
set_option maxRecDepth 100000 in
theorem ck_X3_makeNew : s_ck RX3 cX3_makeNew 4 0 0 k_X3_makeNew = true := by decide +kernel

set_option maxRecDepth 100000 in
set_option maxHeartbeats 1000000 in
theorem ok_X3_makeNew : s_Ok c_X3_makeNew := by
  refine s_ok_of k_X3_makeNew (by decide +kernel) sta_X3_makeNew ck_X3_makeNew trivial ?_
  rintro vs L ⟨ln, sz, la, m, f, K, rfl, rfl, hm, hK⟩
  refine ⟨rfl, fun G hG => ?_⟩
  have loop : ∀ (k i : Nat) (x : Int32) (g : Nat → Int32), i + k = K → x = nI i → g = p_fi (fun _ => 0) f i → G 1 [some (.ref 0), none, some (.int m), some (.int x)] [] [.inr (.inr (3, [.ref 1, .int la, .int m])), .inl (0, 40, g)] := by
    intro k
    induction k with
    | zero =>
      intro i x g hi hx hg
      refine hG 1 _ _ _ (And.intro (fun h2 => ?_) (fun h2 => ?_))
      · rw [hx, hm, nI_ltI (by omega) (by omega)] at h2; omega
      · refine ⟨rfl, ⟨rfl, ?_⟩, fun h => by cases h⟩
        show _ = ([.inr (.inr (3, [.ref 1, .int la, .int m])), .inl (0, 40, p_fi (fun _ => 0) f m.toNatClampNeg)] : sH)
        rw [hm, nI_clamp (by omega), hg, show i = K by omega]
    | succ k ih =>
      intro i x g hi hx hg
      refine hG 1 _ _ _ (And.intro (fun h2 => ?_) (fun h2 => ?_))
      · refine And.intro (by rw [hx]; exact vp_in_nI (by omega) (by omega)) ?_
        exact ih (i + 1) _ (upd g x.toNatClampNeg 0) (by omega) (by rw [hx, nI_1]) (by rw [hx, nI_clamp (by omega), hg, ← p_fi_s])
      · rw [hx, hm, nI_ltI (by omega) (by omega)] at h2; omega
  exact hG 0 _ _ _ (loop K 0 _ f (by omega) nI_0.symm (p_fi_0 _ _).symm)
def p_lw (ln v : Int32) : Int32 := if ln = 0 then v.toInt8.toInt32 else if ln = 1 then v.toInt16.toInt32 else v
def c_X3_write : sCtr := ((yX3_write, cX3_write, 3, none), (4, 2, 0, 0), false,
  s1fp,
  fun vs L => ∃ (ln sz i v : Int32) (f : Nat → Int32), vs = [.ref 0, .int i, .int v] ∧ L = [.inr (.inr (3, [.ref 1, .int ln, .int sz])), .inl (0, 40, f)] ∧ vp_in i 40,
  fun vs L r L' => r = none ∧ L' = [s_hd L, .inl (0, 40, upd (bF L 1) (vI vs 1).toNatClampNeg (p_lw (oI L 0 1) (vI vs 2)))])
theorem sta_X3_write : s_Sta c_X3_write := ⟨⟨by decide +kernel, by decide +kernel, by decide +kernel⟩, List.mem_of_getElem? (i := 793) (by decide +kernel), List.mem_of_getElem? (i := 69) (by decide +kernel), ⟨List.mem_of_getElem? (i := 791) (by decide +kernel), List.mem_of_getElem? (i := 792) (by decide +kernel), Or.inl ⟨_, rfl, rfl⟩⟩⟩

def k_X3_write : List sBk := [
  (0, false, [true, true, true], [o0 0 (.aload_n 0), oN 1 (.getfield 15) [3, 1, 287], oN 4 (.lookupswitch 50 #[(0, 28), (1, 39)]) [3, 1, 2]]),
  (32, false, [true, true, true], [o0 32 (.aload_n 0), oN 33 (.getfield 9) [3, 0, 285], o0 36 (.iload_n 1), o0 37 (.iload_n 2), o0 38 .i2b, o0 39 .iastore, oN 40 (.goto 21) [4]]),
  (43, false, [true, true, true], [o0 43 (.aload_n 0), oN 44 (.getfield 9) [3, 0, 285], o0 47 (.iload_n 1), o0 48 (.iload_n 2), o0 49 .i2s, o0 50 .iastore, oN 51 (.goto 10) [4]]),
  (54, false, [true, true, true], [o0 54 (.aload_n 0), oN 55 (.getfield 9) [3, 0, 285], o0 58 (.iload_n 1), o0 59 (.iload_n 2), o0 60 .iastore, oN 61 .nop [4]]),
  (61, false, [false, false, false], [o0 61 .return_])]
set_option maxRecDepth 100000 in
theorem ck_X3_write : s_ck RX3 cX3_write 3 0 0 k_X3_write = true := by decide +kernel

set_option maxRecDepth 100000 in
set_option maxHeartbeats 1000000 in
theorem ok_X3_write : s_Ok c_X3_write := by
  refine s_ok_of k_X3_write (by decide +kernel) sta_X3_write ck_X3_write trivial ?_
  rintro vs L ⟨ln, sz, i, v, f, rfl, rfl, hi⟩
  refine ⟨rfl, fun G hG => ?_⟩
  have fin : ∀ (a : Int32), a = p_lw ln v → s_PP none false c_X3_write.2.2.2.2.2 [.ref 0, .int i, .int v] [.inr (.inr (3, [.ref 1, .int ln, .int sz])), .inl (0, 40, f)] none [.inr (.inr (3, [.ref 1, .int ln, .int sz])), .inl (0, 40, upd f i.toNatClampNeg a)] := fun a ha => ⟨rfl, ⟨rfl, by rw [ha]; rfl⟩, fun h => by cases h⟩
  refine hG 0 _ _ _ (And.intro (fun h => ?_) (fun h => ?_))
  · have h : ln = 0 := h
    exact And.intro hi (fin _ (by rw [p_lw, if_pos h]))
  · have h : ¬ ln = 0 := h
    refine And.intro (fun h2 => ?_) (fun h2 => ?_)
    · have h2 : ln = 1 := h2
      exact And.intro hi (fin _ (by rw [p_lw, if_neg h, if_pos h2]))
    · have h2 : ¬ ln = 1 := h2
      exact And.intro hi (fin _ (by rw [p_lw, if_neg h, if_neg h2]))

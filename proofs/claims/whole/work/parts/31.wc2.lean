/-! ===== WishClerk: what is changed ===== -/
def r_bit (k y : Nat) (s : Nat → Int32) (i : Int32) : Int32 := if p_in (s y) i = 0 then -1 else (s k >>> (i &&& 31)) &&& 1
def q_bit (k y : Nat) (s : Nat → Int32) (i z : Int32) : Nat → Int32 := fun j => if p_in (s y) i = 0 then s j else upd s k (p_wb (s k) i z) j
theorem q_bit_no {k y : Nat} {s : Nat → Int32} {i z : Int32} (h : p_in (s y) i = 0) : q_bit k y s i z = s := by funext j; rw [q_bit, if_pos h]
theorem q_bit_ye {k y : Nat} {s : Nat → Int32} {i z : Int32} (h : ¬ p_in (s y) i = 0) : q_bit k y s i z = upd s k (p_wb (s k) i z) := by funext j; rw [q_bit, if_neg h]
def c_X5_live : sCtr := ((yX5_live, cX5_live, 4, (some .int)), (6, 2, 1, 22), false,
  w1fp,
  fun vs L => ∃ (x0 x1 x2 x3 x4 x5 : Nat) (y7 y8 y9 : Int32) (s : Nat → Int32) (F : Nat → Nat → Int32) (p z : Int32), vs = [.ref 0, .int p, .int z] ∧ L = w1 x0 x1 x2 x3 x4 x5 y7 y8 y9 s F,
  fun vs L r L' => r = some (.int (r_bit 3 0 (oI L 1) (vI vs 1))) ∧ L' = s_hd L :: bkK 1 (q_bit 3 0 (oI L 1) (vI vs 1) (vI vs 2)) (bG 1 L))
theorem sta_X5_live : s_Sta c_X5_live := ⟨⟨by decide +kernel, by decide +kernel, by decide +kernel⟩, List.mem_of_getElem? (i := 509) (by decide +kernel), List.mem_of_getElem? (i := 64) (by decide +kernel), ⟨List.mem_of_getElem? (i := 507) (by decide +kernel), List.mem_of_getElem? (i := 508) (by decide +kernel), Or.inl ⟨_, rfl, rfl⟩⟩⟩

def k_X5_live : List sBk := [
  (0, false, [true, true, true, false], [o0 0 (.aload_n 0), oN 1 (.getfield 49) [5, 6, 304], o0 4 (.iload_n 1), oC 5 (.invokevirtual 131) [510] c_X0_hasOne, oN 8 (.ifCond .ne 5) [1], oK 11 (.iconst (-1)) (.int (-1)), o0 12 .ireturn]),
  (13, false, [true, true, true, false], [o0 13 (.aload_n 0), oN 14 (.getfield 49) [5, 6, 304], oN 17 (.getfield 88) [0, 3, 127], o0 20 (.iload_n 1), oC 21 (.invokestatic 134) [514] c_X5_bitOf, o0 24 (.istore_n 3), o0 25 (.aload_n 0), oN 26 (.getfield 49) [5, 6, 304], o0 29 (.aload_n 0), oN 30 (.getfield 49) [5, 6, 304], oN 33 (.getfield 88) [0, 3, 127], o0 36 (.iload_n 1), o0 37 (.iload_n 2), oC 38 (.invokestatic 138) [517] c_X5_withBit, oN 41 (.putfield 88) [0, 3, 127], o0 44 (.iload_n 3), o0 45 .ireturn])]
set_option maxRecDepth 100000 in
theorem ck_X5_live : s_ck RX5 cX5_live 4 1 22 k_X5_live = true := by decide +kernel

set_option maxRecDepth 100000 in
set_option maxHeartbeats 1000000 in
theorem ok_X5_live : s_Ok c_X5_live := by
  refine s_ok_of k_X5_live (by decide +kernel) sta_X5_live ck_X5_live (And.intro ok_X0_hasOne (And.intro ok_X5_bitOf (And.intro ok_X5_withBit trivial))) ?_
  rintro vs L ⟨x0, x1, x2, x3, x4, x5, y7, y8, y9, s, F, p, z, rfl, rfl⟩
  refine ⟨rfl, fun G hG => ?_⟩
  have fin : ∀ (a : Int32) (L2 : sH), a = r_bit 3 0 s p → L2 = w1 x0 x1 x2 x3 x4 x5 y7 y8 y9 (q_bit 3 0 s p z) F → s_PP (some .int) false c_X5_live.2.2.2.2.2 [.ref 0, .int p, .int z] (w1 x0 x1 x2 x3 x4 x5 y7 y8 y9 s F) (some (.int a)) L2 := fun a L2 ha hL => ⟨rfl, ⟨by rw [ha]; rfl, by rw [hL]; rfl⟩, fun h => by cases h⟩
  refine hG 0 _ _ _ (And.intro ⟨_, _, _, rfl, rfl⟩ ?_)
  intro r hr
  obtain rfl : r = some (.int (p_in (s 0) p)) := hr
  refine And.intro (fun h => ?_) (fun h => ?_)
  · exact fin _ _ (by rw [r_bit, if_pos h]) (by rw [q_bit_no h])
  · refine And.intro ⟨_, _, rfl⟩ ?_
    intro r hr
    obtain rfl : r = some (.int ((s 3 >>> (p &&& 31)) &&& 1)) := hr
    refine And.intro ⟨_, _, _, rfl⟩ ?_
    intro r hr
    obtain rfl : r = some (.int (p_wb (s 3) p z)) := hr
    exact fin _ _ (by rw [r_bit, if_neg h]) (by rw [q_bit_ye h]; rfl)
def c_X5_bar : sCtr := ((yX5_bar, cX5_bar, 4, (some .int)), (6, 2, 1, 22), false,
  w1fp,
  fun vs L => ∃ (x0 x1 x2 x3 x4 x5 : Nat) (y7 y8 y9 : Int32) (s : Nat → Int32) (F : Nat → Nat → Int32) (p z : Int32), vs = [.ref 0, .int p, .int z] ∧ L = w1 x0 x1 x2 x3 x4 x5 y7 y8 y9 s F,
  fun vs L r L' => r = some (.int (r_bit 4 0 (oI L 1) (vI vs 1))) ∧ L' = s_hd L :: bkK 1 (q_bit 4 0 (oI L 1) (vI vs 1) (vI vs 2)) (bG 1 L))
theorem sta_X5_bar : s_Sta c_X5_bar := ⟨⟨by decide +kernel, by decide +kernel, by decide +kernel⟩, List.mem_of_getElem? (i := 521) (by decide +kernel), List.mem_of_getElem? (i := 64) (by decide +kernel), ⟨List.mem_of_getElem? (i := 519) (by decide +kernel), List.mem_of_getElem? (i := 520) (by decide +kernel), Or.inl ⟨_, rfl, rfl⟩⟩⟩

def k_X5_bar : List sBk := [
  (0, false, [true, true, true, false], [o0 0 (.aload_n 0), oN 1 (.getfield 49) [5, 6, 304], o0 4 (.iload_n 1), oC 5 (.invokevirtual 131) [510] c_X0_hasOne, oN 8 (.ifCond .ne 5) [1], oK 11 (.iconst (-1)) (.int (-1)), o0 12 .ireturn]),
  (13, false, [true, true, true, false], [o0 13 (.aload_n 0), oN 14 (.getfield 49) [5, 6, 304], oN 17 (.getfield 91) [0, 4, 130], o0 20 (.iload_n 1), oC 21 (.invokestatic 134) [514] c_X5_bitOf, o0 24 (.istore_n 3), o0 25 (.aload_n 0), oN 26 (.getfield 49) [5, 6, 304], o0 29 (.aload_n 0), oN 30 (.getfield 49) [5, 6, 304], oN 33 (.getfield 91) [0, 4, 130], o0 36 (.iload_n 1), o0 37 (.iload_n 2), oC 38 (.invokestatic 138) [517] c_X5_withBit, oN 41 (.putfield 91) [0, 4, 130], o0 44 (.iload_n 3), o0 45 .ireturn])]
set_option maxRecDepth 100000 in
theorem ck_X5_bar : s_ck RX5 cX5_bar 4 1 22 k_X5_bar = true := by decide +kernel

set_option maxRecDepth 100000 in
set_option maxHeartbeats 1000000 in
theorem ok_X5_bar : s_Ok c_X5_bar := by
  refine s_ok_of k_X5_bar (by decide +kernel) sta_X5_bar ck_X5_bar (And.intro ok_X0_hasOne (And.intro ok_X5_bitOf (And.intro ok_X5_withBit trivial))) ?_
  rintro vs L ⟨x0, x1, x2, x3, x4, x5, y7, y8, y9, s, F, p, z, rfl, rfl⟩
  refine ⟨rfl, fun G hG => ?_⟩
  have fin : ∀ (a : Int32) (L2 : sH), a = r_bit 4 0 s p → L2 = w1 x0 x1 x2 x3 x4 x5 y7 y8 y9 (q_bit 4 0 s p z) F → s_PP (some .int) false c_X5_bar.2.2.2.2.2 [.ref 0, .int p, .int z] (w1 x0 x1 x2 x3 x4 x5 y7 y8 y9 s F) (some (.int a)) L2 := fun a L2 ha hL => ⟨rfl, ⟨by rw [ha]; rfl, by rw [hL]; rfl⟩, fun h => by cases h⟩
  refine hG 0 _ _ _ (And.intro ⟨_, _, _, rfl, rfl⟩ ?_)
  intro r hr
  obtain rfl : r = some (.int (p_in (s 0) p)) := hr
  refine And.intro (fun h => ?_) (fun h => ?_)
  · exact fin _ _ (by rw [r_bit, if_pos h]) (by rw [q_bit_no h])
  · refine And.intro ⟨_, _, rfl⟩ ?_
    intro r hr
    obtain rfl : r = some (.int ((s 4 >>> (p &&& 31)) &&& 1)) := hr
    refine And.intro ⟨_, _, _, rfl⟩ ?_
    intro r hr
    obtain rfl : r = some (.int (p_wb (s 4) p z)) := hr
    exact fin _ _ (by rw [r_bit, if_neg h]) (by rw [q_bit_ye h]; rfl)
def c_X5_list : sCtr := ((yX5_list, cX5_list, 4, (some .int)), (6, 2, 1, 22), false,
  w1fp,
  fun vs L => ∃ (x0 x1 x2 x3 x4 x5 : Nat) (y7 y8 y9 : Int32) (s : Nat → Int32) (F : Nat → Nat → Int32) (p z : Int32), vs = [.ref 0, .int p, .int z] ∧ L = w1 x0 x1 x2 x3 x4 x5 y7 y8 y9 s F,
  fun vs L r L' => r = some (.int (r_bit 6 1 (oI L 1) (vI vs 1))) ∧ L' = s_hd L :: bkK 1 (q_bit 6 1 (oI L 1) (vI vs 1) (vI vs 2)) (bG 1 L))
theorem sta_X5_list : s_Sta c_X5_list := ⟨⟨by decide +kernel, by decide +kernel, by decide +kernel⟩, List.mem_of_getElem? (i := 525) (by decide +kernel), List.mem_of_getElem? (i := 64) (by decide +kernel), ⟨List.mem_of_getElem? (i := 523) (by decide +kernel), List.mem_of_getElem? (i := 524) (by decide +kernel), Or.inl ⟨_, rfl, rfl⟩⟩⟩

def k_X5_list : List sBk := [
  (0, false, [true, true, true, false], [o0 0 (.aload_n 0), oN 1 (.getfield 49) [5, 6, 304], o0 4 (.iload_n 1), oC 5 (.invokevirtual 103) [498] c_X0_hasWish, oN 8 (.ifCond .ne 5) [1], oK 11 (.iconst (-1)) (.int (-1)), o0 12 .ireturn]),
  (13, false, [true, true, true, false], [o0 13 (.aload_n 0), oN 14 (.getfield 49) [5, 6, 304], oN 17 (.getfield 97) [0, 6, 136], o0 20 (.iload_n 1), oC 21 (.invokestatic 134) [514] c_X5_bitOf, o0 24 (.istore_n 3), o0 25 (.aload_n 0), oN 26 (.getfield 49) [5, 6, 304], o0 29 (.aload_n 0), oN 30 (.getfield 49) [5, 6, 304], oN 33 (.getfield 97) [0, 6, 136], o0 36 (.iload_n 1), o0 37 (.iload_n 2), oC 38 (.invokestatic 138) [517] c_X5_withBit, oN 41 (.putfield 97) [0, 6, 136], o0 44 (.iload_n 3), o0 45 .ireturn])]
set_option maxRecDepth 100000 in
theorem ck_X5_list : s_ck RX5 cX5_list 4 1 22 k_X5_list = true := by decide +kernel

set_option maxRecDepth 100000 in
set_option maxHeartbeats 1000000 in
theorem ok_X5_list : s_Ok c_X5_list := by
  refine s_ok_of k_X5_list (by decide +kernel) sta_X5_list ck_X5_list (And.intro ok_X0_hasWish (And.intro ok_X5_bitOf (And.intro ok_X5_withBit trivial))) ?_
  rintro vs L ⟨x0, x1, x2, x3, x4, x5, y7, y8, y9, s, F, p, z, rfl, rfl⟩
  refine ⟨rfl, fun G hG => ?_⟩
  have fin : ∀ (a : Int32) (L2 : sH), a = r_bit 6 1 s p → L2 = w1 x0 x1 x2 x3 x4 x5 y7 y8 y9 (q_bit 6 1 s p z) F → s_PP (some .int) false c_X5_list.2.2.2.2.2 [.ref 0, .int p, .int z] (w1 x0 x1 x2 x3 x4 x5 y7 y8 y9 s F) (some (.int a)) L2 := fun a L2 ha hL => ⟨rfl, ⟨by rw [ha]; rfl, by rw [hL]; rfl⟩, fun h => by cases h⟩
  refine hG 0 _ _ _ (And.intro ⟨_, _, _, _, rfl, rfl⟩ ?_)
  intro r hr
  obtain rfl : r = some (.int (p_in (s 1) p)) := hr
  refine And.intro (fun h => ?_) (fun h => ?_)
  · exact fin _ _ (by rw [r_bit, if_pos h]) (by rw [q_bit_no h])
  · refine And.intro ⟨_, _, rfl⟩ ?_
    intro r hr
    obtain rfl : r = some (.int ((s 6 >>> (p &&& 31)) &&& 1)) := hr
    refine And.intro ⟨_, _, _, rfl⟩ ?_
    intro r hr
    obtain rfl : r = some (.int (p_wb (s 6) p z)) := hr
    exact fin _ _ (by rw [r_bit, if_neg h]) (by rw [q_bit_ye h]; rfl)
/-- a number between 0 and y (y too) takes a field's place -/
def r_cut (k : Nat) (y : Int32) (s : Nat → Int32) (i : Int32) : Int32 := if i < 0 then -1 else if y < i then -1 else s k
def q_cut (k : Nat) (y : Int32) (s : Nat → Int32) (i : Int32) : Nat → Int32 := fun j => if i < 0 then s j else if y < i then s j else upd s k i j
def c_X5_depth : sCtr := ((yX5_depth, cX5_depth, 3, (some .int)), (6, 1, 0, 0), false,
  w1fp,
  fun vs L => ∃ (x0 x1 x2 x3 x4 x5 : Nat) (y7 y8 y9 : Int32) (s : Nat → Int32) (F : Nat → Nat → Int32) (i : Int32), vs = [.ref 0, .int i] ∧ L = w1 x0 x1 x2 x3 x4 x5 y7 y8 y9 s F,
  fun vs L r L' => r = some (.int (r_cut 2 8 (oI L 1) (vI vs 1))) ∧ L' = s_hd L :: bkK 1 (q_cut 2 8 (oI L 1) (vI vs 1)) (bG 1 L))
theorem sta_X5_depth : s_Sta c_X5_depth := ⟨⟨by decide +kernel, by decide +kernel, by decide +kernel⟩, List.mem_of_getElem? (i := 529) (by decide +kernel), List.mem_of_getElem? (i := 64) (by decide +kernel), ⟨List.mem_of_getElem? (i := 527) (by decide +kernel), List.mem_of_getElem? (i := 528) (by decide +kernel), Or.inl ⟨_, rfl, rfl⟩⟩⟩

def k_X5_depth : List sBk := [
  (0, false, [true, true, false], [o0 0 (.iload_n 1), oN 1 (.ifCond .lt 9) [1], o0 4 (.iload_n 1), oK 5 (.bipush 8) (.int 8), oN 7 (.if_icmp .le 5) [2], oN 10 .nop [1]]),
  (10, false, [false, false, false], [oK 10 (.iconst (-1)) (.int (-1)), o0 11 .ireturn]),
  (12, false, [true, true, false], [o0 12 (.aload_n 0), oN 13 (.getfield 49) [5, 6, 304], oN 16 (.getfield 85) [0, 2, 123], o0 19 (.istore_n 2), o0 20 (.aload_n 0), oN 21 (.getfield 49) [5, 6, 304], o0 24 (.iload_n 1), oN 25 (.putfield 85) [0, 2, 123], o0 28 (.iload_n 2), o0 29 .ireturn])]
set_option maxRecDepth 100000 in
theorem ck_X5_depth : s_ck RX5 cX5_depth 3 0 0 k_X5_depth = true := by decide +kernel

set_option maxRecDepth 100000 in
set_option maxHeartbeats 1000000 in
theorem ok_X5_depth : s_Ok c_X5_depth := by
  refine s_ok_of k_X5_depth (by decide +kernel) sta_X5_depth ck_X5_depth trivial ?_
  rintro vs L ⟨x0, x1, x2, x3, x4, x5, y7, y8, y9, s, F, i, rfl, rfl⟩
  refine ⟨rfl, fun G hG => ?_⟩
  have fin : ∀ (a : Int32) (L2 : sH), a = r_cut 2 8 s i → L2 = w1 x0 x1 x2 x3 x4 x5 y7 y8 y9 (q_cut 2 8 s i) F → s_PP (some .int) false c_X5_depth.2.2.2.2.2 [.ref 0, .int i] (w1 x0 x1 x2 x3 x4 x5 y7 y8 y9 s F) (some (.int a)) L2 := fun a L2 ha hL => ⟨rfl, ⟨by rw [ha]; rfl, by rw [hL]; rfl⟩, fun h => by cases h⟩
  refine hG 0 _ _ _ (And.intro (fun h => ?_) (fun h => ?_))
  · exact fin _ _ (by rw [r_cut, if_pos h]) (by rw [show q_cut 2 8 s i = s by funext j; rw [q_cut, if_pos h]])
  · refine And.intro (fun h2 => ?_) (fun h2 => ?_)
    · exact fin _ _ (by rw [r_cut, if_neg h, if_pos h2]) (by rw [show q_cut 2 8 s i = s by funext j; rw [q_cut, if_neg h, if_pos h2]])
    · exact fin _ _ (by rw [r_cut, if_neg h, if_neg h2]) (by rw [show q_cut 2 8 s i = upd s 2 i by funext j; rw [q_cut, if_neg h, if_neg h2]]; rfl)
def c_X5_cut : sCtr := ((yX5_cut, cX5_cut, 3, (some .int)), (6, 1, 0, 0), false,
  w1fp,
  fun vs L => ∃ (x0 x1 x2 x3 x4 x5 : Nat) (y7 y8 y9 : Int32) (s : Nat → Int32) (F : Nat → Nat → Int32) (i : Int32), vs = [.ref 0, .int i] ∧ L = w1 x0 x1 x2 x3 x4 x5 y7 y8 y9 s F,
  fun vs L r L' => r = some (.int (r_cut 15 (oI L 1 15) (oI L 1) (vI vs 1))) ∧ L' = s_hd L :: bkK 1 (q_cut 15 (oI L 1 15) (oI L 1) (vI vs 1)) (bG 1 L))
theorem sta_X5_cut : s_Sta c_X5_cut := ⟨⟨by decide +kernel, by decide +kernel, by decide +kernel⟩, List.mem_of_getElem? (i := 555) (by decide +kernel), List.mem_of_getElem? (i := 64) (by decide +kernel), ⟨List.mem_of_getElem? (i := 553) (by decide +kernel), List.mem_of_getElem? (i := 554) (by decide +kernel), Or.inl ⟨_, rfl, rfl⟩⟩⟩

def k_X5_cut : List sBk := [
  (0, false, [true, true, false], [o0 0 (.iload_n 1), oN 1 (.ifCond .lt 14) [1], o0 4 (.iload_n 1), o0 5 (.aload_n 0), oN 6 (.getfield 49) [5, 6, 304], oN 9 (.getfield 100) [0, 15, 164], oN 12 (.if_icmp .le 5) [2], oN 15 .nop [1]]),
  (15, false, [false, false, false], [oK 15 (.iconst (-1)) (.int (-1)), o0 16 .ireturn]),
  (17, false, [true, true, false], [o0 17 (.aload_n 0), oN 18 (.getfield 49) [5, 6, 304], oN 21 (.getfield 100) [0, 15, 164], o0 24 (.istore_n 2), o0 25 (.aload_n 0), oN 26 (.getfield 49) [5, 6, 304], o0 29 (.iload_n 1), oN 30 (.putfield 100) [0, 15, 164], o0 33 (.iload_n 2), o0 34 .ireturn])]
set_option maxRecDepth 100000 in
theorem ck_X5_cut : s_ck RX5 cX5_cut 3 0 0 k_X5_cut = true := by decide +kernel

set_option maxRecDepth 100000 in
set_option maxHeartbeats 1000000 in
theorem ok_X5_cut : s_Ok c_X5_cut := by
  refine s_ok_of k_X5_cut (by decide +kernel) sta_X5_cut ck_X5_cut trivial ?_
  rintro vs L ⟨x0, x1, x2, x3, x4, x5, y7, y8, y9, s, F, i, rfl, rfl⟩
  refine ⟨rfl, fun G hG => ?_⟩
  have fin : ∀ (a : Int32) (L2 : sH), a = r_cut 15 (s 15) s i → L2 = w1 x0 x1 x2 x3 x4 x5 y7 y8 y9 (q_cut 15 (s 15) s i) F → s_PP (some .int) false c_X5_cut.2.2.2.2.2 [.ref 0, .int i] (w1 x0 x1 x2 x3 x4 x5 y7 y8 y9 s F) (some (.int a)) L2 := fun a L2 ha hL => ⟨rfl, ⟨by rw [ha]; rfl, by rw [hL]; rfl⟩, fun h => by cases h⟩
  refine hG 0 _ _ _ (And.intro (fun h => ?_) (fun h => ?_))
  · exact fin _ _ (by rw [r_cut, if_pos h]) (by rw [show q_cut 15 (s 15) s i = s by funext j; rw [q_cut, if_pos h]])
  · refine And.intro (fun h2 => ?_) (fun h2 => ?_)
    · have h2 : s 15 < i := h2
      exact fin _ _ (by rw [r_cut, if_neg h, if_pos h2]) (by rw [show q_cut 15 (s 15) s i = s by funext j; rw [q_cut, if_neg h, if_pos h2]])
    · have h2 : ¬ s 15 < i := h2
      exact fin _ _ (by rw [r_cut, if_neg h, if_neg h2]) (by rw [show q_cut 15 (s 15) s i = upd s 15 i by funext j; rw [q_cut, if_neg h, if_neg h2]]; rfl)
def c_X5_forget : sCtr := ((yX5_forget, cX5_forget, 3, (some .int)), (6, 1, 0, 0), false,
  w1fp,
  fun vs L => ∃ (x0 x1 x2 x3 x4 x5 : Nat) (y7 y8 y9 : Int32) (s : Nat → Int32) (F : Nat → Nat → Int32) (i : Int32), vs = [.ref 0, .int i] ∧ L = w1 x0 x1 x2 x3 x4 x5 y7 y8 y9 s F,
  fun vs L r L' => r = some (.int (r_cut 18 (oI L 1 18) (oI L 1) (vI vs 1))) ∧ L' = s_hd L :: bkK 1 (q_cut 18 (oI L 1 18) (oI L 1) (vI vs 1)) (bG 1 L))
theorem sta_X5_forget : s_Sta c_X5_forget := ⟨⟨by decide +kernel, by decide +kernel, by decide +kernel⟩, List.mem_of_getElem? (i := 721) (by decide +kernel), List.mem_of_getElem? (i := 64) (by decide +kernel), ⟨List.mem_of_getElem? (i := 719) (by decide +kernel), List.mem_of_getElem? (i := 720) (by decide +kernel), Or.inl ⟨_, rfl, rfl⟩⟩⟩

def k_X5_forget : List sBk := [
  (0, false, [true, true, false], [o0 0 (.iload_n 1), oN 1 (.ifCond .lt 14) [1], o0 4 (.iload_n 1), o0 5 (.aload_n 0), oN 6 (.getfield 49) [5, 6, 304], oN 9 (.getfield 220) [0, 18, 171], oN 12 (.if_icmp .le 5) [2], oN 15 .nop [1]]),
  (15, false, [false, false, false], [oK 15 (.iconst (-1)) (.int (-1)), o0 16 .ireturn]),
  (17, false, [true, true, false], [o0 17 (.aload_n 0), oN 18 (.getfield 49) [5, 6, 304], oN 21 (.getfield 220) [0, 18, 171], o0 24 (.istore_n 2), o0 25 (.aload_n 0), oN 26 (.getfield 49) [5, 6, 304], o0 29 (.iload_n 1), oN 30 (.putfield 220) [0, 18, 171], o0 33 (.iload_n 2), o0 34 .ireturn])]
set_option maxRecDepth 100000 in
theorem ck_X5_forget : s_ck RX5 cX5_forget 3 0 0 k_X5_forget = true := by decide +kernel

set_option maxRecDepth 100000 in
set_option maxHeartbeats 1000000 in
theorem ok_X5_forget : s_Ok c_X5_forget := by
  refine s_ok_of k_X5_forget (by decide +kernel) sta_X5_forget ck_X5_forget trivial ?_
  rintro vs L ⟨x0, x1, x2, x3, x4, x5, y7, y8, y9, s, F, i, rfl, rfl⟩
  refine ⟨rfl, fun G hG => ?_⟩
  have fin : ∀ (a : Int32) (L2 : sH), a = r_cut 18 (s 18) s i → L2 = w1 x0 x1 x2 x3 x4 x5 y7 y8 y9 (q_cut 18 (s 18) s i) F → s_PP (some .int) false c_X5_forget.2.2.2.2.2 [.ref 0, .int i] (w1 x0 x1 x2 x3 x4 x5 y7 y8 y9 s F) (some (.int a)) L2 := fun a L2 ha hL => ⟨rfl, ⟨by rw [ha]; rfl, by rw [hL]; rfl⟩, fun h => by cases h⟩
  refine hG 0 _ _ _ (And.intro (fun h => ?_) (fun h => ?_))
  · exact fin _ _ (by rw [r_cut, if_pos h]) (by rw [show q_cut 18 (s 18) s i = s by funext j; rw [q_cut, if_pos h]])
  · refine And.intro (fun h2 => ?_) (fun h2 => ?_)
    · have h2 : s 18 < i := h2
      exact fin _ _ (by rw [r_cut, if_neg h, if_pos h2]) (by rw [show q_cut 18 (s 18) s i = s by funext j; rw [q_cut, if_neg h, if_pos h2]])
    · have h2 : ¬ s 18 < i := h2
      exact fin _ _ (by rw [r_cut, if_neg h, if_neg h2]) (by rw [show q_cut 18 (s 18) s i = upd s 18 i by funext j; rw [q_cut, if_neg h, if_neg h2]]; rfl)

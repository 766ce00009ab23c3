/-! ===== WishClerk: wishes asked ===== -/
def r_looks (s : Nat → Int32) (F : Nat → Nat → Int32) (w : Int32) : Int32 := if p_in (s 1) w = 0 then -1 else p_it (F 4) (s 1).toNatClampNeg (s 5) ((1 : Int32) <<< (w &&& 31)) (s 2).toNatClampNeg
def c_X5_looks : sCtr := ((yX5_looks, cX5_looks, 2, (some .int)), (6, 1, 3, 71), true,
  w1fp,
  fun vs L => ∃ (x0 x1 x2 x3 x4 x5 : Nat) (y7 y8 y9 : Int32) (s : Nat → Int32) (F : Nat → Nat → Int32) (w : Int32) (n d : Nat), vs = [.ref 0, .int w] ∧ L = w1 x0 x1 x2 x3 x4 x5 y7 y8 y9 s F ∧ s 1 = nI n ∧ n ≤ 8 ∧ s 2 = nI d ∧ d ≤ 8,
  fun vs L r _ => r = some (.int (r_looks (oI L 1) (bG 1 L) (vI vs 1))))
theorem sta_X5_looks : s_Sta c_X5_looks := ⟨⟨by decide +kernel, by decide +kernel, by decide +kernel⟩, List.mem_of_getElem? (i := 559) (by decide +kernel), List.mem_of_getElem? (i := 64) (by decide +kernel), ⟨List.mem_of_getElem? (i := 557) (by decide +kernel), List.mem_of_getElem? (i := 558) (by decide +kernel), Or.inl ⟨_, rfl, rfl⟩⟩⟩

def k_X5_looks : List sBk := [
  (0, false, [true, true], [o0 0 (.aload_n 0), oN 1 (.getfield 49) [5, 6, 304], o0 4 (.iload_n 1), oC 5 (.invokevirtual 103) [498] c_X0_hasWish, oN 8 (.ifCond .eq 28) [1], o0 11 (.aload_n 0), oN 12 (.getfield 49) [5, 6, 304], o0 15 (.iload_n 1), o0 16 (.aload_n 0), oN 17 (.getfield 49) [5, 6, 304], oN 20 (.getfield 94) [0, 5, 134], o0 23 (.aload_n 0), oN 24 (.getfield 49) [5, 6, 304], oN 27 (.getfield 85) [0, 2, 123], oC 30 (.invokevirtual 149) [560] c_X0_lookedAt, oN 33 (.goto 4) [2]]),
  (36, false, [false, false], [oK 36 (.iconst (-1)) (.int (-1)), oN 37 .nop [2]]),
  (37, false, [false, false], [o0 37 .ireturn])]
set_option maxRecDepth 100000 in
theorem ck_X5_looks : s_ck RX5 cX5_looks 2 3 71 k_X5_looks = true := by decide +kernel

set_option maxRecDepth 100000 in
set_option maxHeartbeats 1000000 in
theorem ok_X5_looks : s_Ok c_X5_looks := by
  refine s_ok_of k_X5_looks (by decide +kernel) sta_X5_looks ck_X5_looks (And.intro ok_X0_hasWish (And.intro ok_X0_lookedAt trivial)) ?_
  rintro vs L ⟨x0, x1, x2, x3, x4, x5, y7, y8, y9, s, F, w, n, d, rfl, rfl, hn, hn8, hd, hd8⟩
  refine ⟨rfl, fun G hG => ?_⟩
  have fin : ∀ a : Int32, a = r_looks s F w → s_PP (some .int) true c_X5_looks.2.2.2.2.2 [.ref 0, .int w] (w1 x0 x1 x2 x3 x4 x5 y7 y8 y9 s F) (some (.int a)) (w1 x0 x1 x2 x3 x4 x5 y7 y8 y9 s F) := fun a ha => ⟨rfl, by rw [ha]; rfl, fun _ => rfl⟩
  refine hG 0 _ _ _ (And.intro ⟨_, _, _, _, rfl, rfl⟩ ?_)
  intro r hr
  obtain rfl : r = some (.int (p_in (s 1) w)) := hr
  refine And.intro (fun h => ?_) (fun h => ?_)
  · exact fin _ (by rw [r_looks, if_pos h])
  · refine And.intro ⟨s, F, w, s 5, s 2, n, d, rfl, rfl, hn, hn8, hd, hd8⟩ ?_
    intro r hr
    obtain rfl : r = some (.int (p_it (F 4) (s 1).toNatClampNeg (s 5) ((1 : Int32) <<< (w &&& 31)) (s 2).toNatClampNeg)) := hr
    exact fin _ (by rw [r_looks, if_neg h])
/-- refusal, as the book stands -/
def p_reB (s : Nat → Int32) (F : Nat → Nat → Int32) (w h a : Int32) : Int32 := p_re (F 3) (F 4) (F 5) (s 1).toNatClampNeg (s 6) (s 4) w h a (s 2).toNatClampNeg
def r_refuses (s : Nat → Int32) (F : Nat → Nat → Int32) (w : Int32) : Int32 := if p_in (s 1) w = 0 then -1 else p_reB s F w (s 5) (s 3)
def c_X5_refuses : sCtr := ((yX5_refuses, cX5_refuses, 2, (some .int)), (6, 1, 4, 96), true,
  w1fp,
  fun vs L => ∃ (x0 x1 x2 x3 x4 x5 : Nat) (y7 y8 y9 : Int32) (s : Nat → Int32) (F : Nat → Nat → Int32) (w : Int32) (n d : Nat), vs = [.ref 0, .int w] ∧ L = w1 x0 x1 x2 x3 x4 x5 y7 y8 y9 s F ∧ s 1 = nI n ∧ n ≤ 8 ∧ s 2 = nI d ∧ d ≤ 8,
  fun vs L r _ => r = some (.int (r_refuses (oI L 1) (bG 1 L) (vI vs 1))))
theorem sta_X5_refuses : s_Sta c_X5_refuses := ⟨⟨by decide +kernel, by decide +kernel, by decide +kernel⟩, List.mem_of_getElem? (i := 564) (by decide +kernel), List.mem_of_getElem? (i := 64) (by decide +kernel), ⟨List.mem_of_getElem? (i := 562) (by decide +kernel), List.mem_of_getElem? (i := 563) (by decide +kernel), Or.inl ⟨_, rfl, rfl⟩⟩⟩

def k_X5_refuses : List sBk := [
  (0, false, [true, true], [o0 0 (.aload_n 0), oN 1 (.getfield 49) [5, 6, 304], o0 4 (.iload_n 1), oC 5 (.invokevirtual 103) [498] c_X0_hasWish, oN 8 (.ifCond .eq 35) [1], o0 11 (.aload_n 0), oN 12 (.getfield 49) [5, 6, 304], o0 15 (.iload_n 1), o0 16 (.aload_n 0), oN 17 (.getfield 49) [5, 6, 304], oN 20 (.getfield 94) [0, 5, 134], o0 23 (.aload_n 0), oN 24 (.getfield 49) [5, 6, 304], oN 27 (.getfield 88) [0, 3, 127], o0 30 (.aload_n 0), oN 31 (.getfield 49) [5, 6, 304], oN 34 (.getfield 85) [0, 2, 123], oC 37 (.invokevirtual 153) [565] c_X0_refusal, oN 40 (.goto 4) [2]]),
  (43, false, [false, false], [oK 43 (.iconst (-1)) (.int (-1)), oN 44 .nop [2]]),
  (44, false, [false, false], [o0 44 .ireturn])]
set_option maxRecDepth 100000 in
theorem ck_X5_refuses : s_ck RX5 cX5_refuses 2 4 96 k_X5_refuses = true := by decide +kernel

set_option maxRecDepth 100000 in
set_option maxHeartbeats 1000000 in
theorem ok_X5_refuses : s_Ok c_X5_refuses := by
  refine s_ok_of k_X5_refuses (by decide +kernel) sta_X5_refuses ck_X5_refuses (And.intro ok_X0_hasWish (And.intro ok_X0_refusal trivial)) ?_
  rintro vs L ⟨x0, x1, x2, x3, x4, x5, y7, y8, y9, s, F, w, n, d, rfl, rfl, hn, hn8, hd, hd8⟩
  refine ⟨rfl, fun G hG => ?_⟩
  have fin : ∀ a : Int32, a = r_refuses s F w → s_PP (some .int) true c_X5_refuses.2.2.2.2.2 [.ref 0, .int w] (w1 x0 x1 x2 x3 x4 x5 y7 y8 y9 s F) (some (.int a)) (w1 x0 x1 x2 x3 x4 x5 y7 y8 y9 s F) := fun a ha => ⟨rfl, by rw [ha]; rfl, fun _ => rfl⟩
  refine hG 0 _ _ _ (And.intro ⟨_, _, _, _, rfl, rfl⟩ ?_)
  intro r hr
  obtain rfl : r = some (.int (p_in (s 1) w)) := hr
  refine And.intro (fun h => ?_) (fun h => ?_)
  · exact fin _ (by rw [r_refuses, if_pos h])
  · refine And.intro ⟨s, F, w, s 5, s 3, s 2, n, d, rfl, rfl, hn, hn8, hd, hd8⟩ ?_
    intro r hr
    obtain rfl : r = some (.int (p_reB s F w (s 5) (s 3))) := hr
    exact fin _ (by rw [r_refuses, if_neg h])
def r_ask (s : Nat → Int32) (F : Nat → Nat → Int32) (w : Int32) : Int32 := if p_in (s 1) w = 0 then -1 else if p_hb (s 5) w = 0 then (if p_reB s F w (s 5) (s 3) = 0 then p_bc (F 7 w.toNatClampNeg &&& (s 3 ^^^ (-1))) else -4) else -2
def q_ask (s : Nat → Int32) (F : Nat → Nat → Int32) (w : Int32) : Nat → Int32 := fun j => if p_in (s 1) w = 0 then s j else if p_hb (s 5) w = 0 then (if p_reB s F w (s 5) (s 3) = 0 then upd (upd s 5 (s 5 ||| F 6 w.toNatClampNeg)) 3 (s 3 ||| F 7 w.toNatClampNeg) j else s j) else s j
def c_X5_ask : sCtr := ((yX5_ask, cX5_ask, 3, (some .int)), (6, 1, 4, 96), false,
  w1fp,
  fun vs L => ∃ (x0 x1 x2 x3 x4 x5 : Nat) (y7 y8 y9 : Int32) (s : Nat → Int32) (F : Nat → Nat → Int32) (w : Int32) (n d : Nat), vs = [.ref 0, .int w] ∧ L = w1 x0 x1 x2 x3 x4 x5 y7 y8 y9 s F ∧ s 1 = nI n ∧ n ≤ 8 ∧ s 2 = nI d ∧ d ≤ 8,
  fun vs L r L' => r = some (.int (r_ask (oI L 1) (bG 1 L) (vI vs 1))) ∧ L' = s_hd L :: bkK 1 (q_ask (oI L 1) (bG 1 L) (vI vs 1)) (bG 1 L))
theorem sta_X5_ask : s_Sta c_X5_ask := ⟨⟨by decide +kernel, by decide +kernel, by decide +kernel⟩, List.mem_of_getElem? (i := 572) (by decide +kernel), List.mem_of_getElem? (i := 64) (by decide +kernel), ⟨List.mem_of_getElem? (i := 570) (by decide +kernel), List.mem_of_getElem? (i := 571) (by decide +kernel), Or.inl ⟨_, rfl, rfl⟩⟩⟩

def k_X5_ask : List sBk := [
  (0, false, [true, true, false], [o0 0 (.aload_n 0), oN 1 (.getfield 49) [5, 6, 304], o0 4 (.iload_n 1), oC 5 (.invokevirtual 103) [498] c_X0_hasWish, oN 8 (.ifCond .ne 5) [1], oK 11 (.iconst (-1)) (.int (-1)), o0 12 .ireturn]),
  (13, false, [true, true, false], [o0 13 (.aload_n 0), oN 14 (.getfield 49) [5, 6, 304], oN 17 (.getfield 94) [0, 5, 134], o0 20 (.iload_n 1), oC 21 (.invokestatic 157) [573] c_X5_hasBit, oN 24 (.ifCond .eq 6) [2], oK 27 (.bipush (-2)) (.int (-2)), o0 29 .ireturn]),
  (30, false, [true, true, false], [o0 30 (.aload_n 0), oN 31 (.getfield 49) [5, 6, 304], o0 34 (.iload_n 1), o0 35 (.aload_n 0), oN 36 (.getfield 49) [5, 6, 304], oN 39 (.getfield 94) [0, 5, 134], o0 42 (.aload_n 0), oN 43 (.getfield 49) [5, 6, 304], oN 46 (.getfield 88) [0, 3, 127], o0 49 (.aload_n 0), oN 50 (.getfield 49) [5, 6, 304], oN 53 (.getfield 85) [0, 2, 123], oC 56 (.invokevirtual 153) [565] c_X0_refusal, oN 59 (.ifCond .eq 6) [3], oK 62 (.bipush (-4)) (.int (-4)), o0 64 .ireturn]),
  (65, false, [true, true, false], [o0 65 (.aload_n 0), oN 66 (.getfield 49) [5, 6, 304], oN 69 (.getfield 125) [0, 13, 159], o0 72 (.iload_n 1), o0 73 .iaload, o0 74 (.aload_n 0), oN 75 (.getfield 49) [5, 6, 304], oN 78 (.getfield 88) [0, 3, 127], oK 81 (.iconst (-1)) (.int (-1)), o0 82 .ixor, o0 83 .iand, o0 84 (.istore_n 2), o0 85 (.aload_n 0), oN 86 (.getfield 49) [5, 6, 304], o0 89 .dup, oN 90 (.getfield 94) [0, 5, 134], o0 93 (.aload_n 0), oN 94 (.getfield 49) [5, 6, 304], oN 97 (.getfield 122) [0, 12, 156], o0 100 (.iload_n 1), o0 101 .iaload, o0 102 .ior, oN 103 (.putfield 94) [0, 5, 134], o0 106 (.aload_n 0), oN 107 (.getfield 49) [5, 6, 304], o0 110 .dup, oN 111 (.getfield 88) [0, 3, 127], o0 114 (.aload_n 0), oN 115 (.getfield 49) [5, 6, 304], oN 118 (.getfield 125) [0, 13, 159], o0 121 (.iload_n 1), o0 122 .iaload, o0 123 .ior, oN 124 (.putfield 88) [0, 3, 127], o0 127 (.iload_n 2), oC 128 (.invokestatic 160) [574] c_J6_bitCount_0f7a4, o0 131 .ireturn])]
set_option maxRecDepth 100000 in
theorem ck_X5_ask : s_ck RX5 cX5_ask 3 4 96 k_X5_ask = true := by decide +kernel

set_option maxRecDepth 100000 in
set_option maxHeartbeats 1000000 in
theorem ok_X5_ask : s_Ok c_X5_ask := by
  refine s_ok_of k_X5_ask (by decide +kernel) sta_X5_ask ck_X5_ask (And.intro ok_X0_hasWish (And.intro ok_X5_hasBit (And.intro ok_X0_refusal (And.intro ok_J6_bitCount_0f7a4 trivial)))) ?_
  rintro vs L ⟨x0, x1, x2, x3, x4, x5, y7, y8, y9, s, F, w, n, d, rfl, rfl, hn, hn8, hd, hd8⟩
  refine ⟨rfl, fun G hG => ?_⟩
  have fin : ∀ (a : Int32) (L2 : sH), a = r_ask s F w → L2 = w1 x0 x1 x2 x3 x4 x5 y7 y8 y9 (q_ask s F w) F → s_PP (some .int) false c_X5_ask.2.2.2.2.2 [.ref 0, .int w] (w1 x0 x1 x2 x3 x4 x5 y7 y8 y9 s F) (some (.int a)) L2 := fun a L2 ha hL => ⟨rfl, ⟨by rw [ha]; rfl, by rw [hL]; rfl⟩, fun h => by cases h⟩
  refine hG 0 _ _ _ (And.intro ⟨_, _, _, _, rfl, rfl⟩ ?_)
  intro r hr
  obtain rfl : r = some (.int (p_in (s 1) w)) := hr
  refine And.intro (fun h => ?_) (fun h => ?_)
  · exact fin _ _ (by rw [r_ask, if_pos h]) (by rw [show q_ask s F w = s by funext j; rw [q_ask, if_pos h]])
  · refine And.intro ⟨_, _, rfl⟩ ?_
    intro r hr
    obtain rfl : r = some (.int (p_hb (s 5) w)) := hr
    refine And.intro (fun h2 => ?_) (fun h2 => ?_)
    · refine And.intro ⟨s, F, w, s 5, s 3, s 2, n, d, rfl, rfl, hn, hn8, hd, hd8⟩ ?_
      intro r hr
      obtain rfl : r = some (.int (p_reB s F w (s 5) (s 3))) := hr
      refine And.intro (fun h3 => ?_) (fun h3 => ?_)
      · have hw : vp_in w 8 := by
          have h3 := h
          rw [hn] at h3
          obtain ⟨j, hj, rfl⟩ := p_in_ne hn8 h3
          exact vp_in_nI (by omega) (by omega)
        refine And.intro hw (And.intro hw (And.intro hw (And.intro ⟨_, rfl⟩ ?_)))
        intro r hr
        obtain rfl : r = some (.int (p_bc (F 7 w.toNatClampNeg &&& (s 3 ^^^ (-1))))) := hr
        exact fin _ _ (by rw [r_ask, if_neg h, if_pos h2, if_pos h3]) (by rw [show q_ask s F w = upd (upd s 5 (s 5 ||| F 6 w.toNatClampNeg)) 3 (s 3 ||| F 7 w.toNatClampNeg) by funext j; rw [q_ask, if_neg h, if_pos h2, if_pos h3]]; rfl)
      · exact fin _ _ (by rw [r_ask, if_neg h, if_pos h2, if_neg h3]) (by rw [show q_ask s F w = s by funext j; rw [q_ask, if_neg h, if_pos h2, if_neg h3]])
    · exact fin _ _ (by rw [r_ask, if_neg h, if_neg h2]) (by rw [show q_ask s F w = s by funext j; rw [q_ask, if_neg h, if_neg h2]])
def p_gone (s : Nat → Int32) (F : Nat → Nat → Int32) (w : Int32) : Int32 := p_ro (F 6) ((1 : Int32) <<< (w &&& 31)) (s 5) (s 1).toNatClampNeg
def r_take (s : Nat → Int32) (F : Nat → Nat → Int32) (w : Int32) : Int32 := if p_in (s 1) w = 0 then -1 else if p_hb (s 5) w = 0 then -2 else p_bc (p_gone s F w)
def q_take (s : Nat → Int32) (F : Nat → Nat → Int32) (w : Int32) : Nat → Int32 := fun j => if p_in (s 1) w = 0 then s j else if p_hb (s 5) w = 0 then s j else upd s 5 (s 5 &&& (p_gone s F w ^^^ (-1))) j
def c_X5_take : sCtr := ((yX5_take, cX5_take, 3, (some .int)), (6, 1, 2, 45), false,
  w1fp,
  fun vs L => ∃ (x0 x1 x2 x3 x4 x5 : Nat) (y7 y8 y9 : Int32) (s : Nat → Int32) (F : Nat → Nat → Int32) (w : Int32) (n : Nat), vs = [.ref 0, .int w] ∧ L = w1 x0 x1 x2 x3 x4 x5 y7 y8 y9 s F ∧ s 1 = nI n ∧ n ≤ 8,
  fun vs L r L' => r = some (.int (r_take (oI L 1) (bG 1 L) (vI vs 1))) ∧ L' = s_hd L :: bkK 1 (q_take (oI L 1) (bG 1 L) (vI vs 1)) (bG 1 L))
theorem sta_X5_take : s_Sta c_X5_take := ⟨⟨by decide +kernel, by decide +kernel, by decide +kernel⟩, List.mem_of_getElem? (i := 583) (by decide +kernel), List.mem_of_getElem? (i := 64) (by decide +kernel), ⟨List.mem_of_getElem? (i := 581) (by decide +kernel), List.mem_of_getElem? (i := 582) (by decide +kernel), Or.inl ⟨_, rfl, rfl⟩⟩⟩

def k_X5_take : List sBk := [
  (0, false, [true, true, false], [o0 0 (.aload_n 0), oN 1 (.getfield 49) [5, 6, 304], o0 4 (.iload_n 1), oC 5 (.invokevirtual 103) [498] c_X0_hasWish, oN 8 (.ifCond .ne 5) [1], oK 11 (.iconst (-1)) (.int (-1)), o0 12 .ireturn]),
  (13, false, [true, true, false], [o0 13 (.aload_n 0), oN 14 (.getfield 49) [5, 6, 304], oN 17 (.getfield 94) [0, 5, 134], o0 20 (.iload_n 1), oC 21 (.invokestatic 157) [573] c_X5_hasBit, oN 24 (.ifCond .ne 6) [2], oK 27 (.bipush (-2)) (.int (-2)), o0 29 .ireturn]),
  (30, false, [true, true, false], [o0 30 (.aload_n 0), oN 31 (.getfield 49) [5, 6, 304], oK 34 (.iconst 1) (.int 1), o0 35 (.iload_n 1), o0 36 .ishl, o0 37 (.aload_n 0), oN 38 (.getfield 49) [5, 6, 304], oN 41 (.getfield 94) [0, 5, 134], oC 44 (.invokevirtual 166) [584] c_X0_restingOn, o0 47 (.istore_n 2), o0 48 (.aload_n 0), oN 49 (.getfield 49) [5, 6, 304], o0 52 .dup, oN 53 (.getfield 94) [0, 5, 134], o0 56 (.iload_n 2), oK 57 (.iconst (-1)) (.int (-1)), o0 58 .ixor, o0 59 .iand, oN 60 (.putfield 94) [0, 5, 134], o0 63 (.iload_n 2), oC 64 (.invokestatic 160) [574] c_J6_bitCount_0f7a4, o0 67 .ireturn])]
set_option maxRecDepth 100000 in
theorem ck_X5_take : s_ck RX5 cX5_take 3 2 45 k_X5_take = true := by decide +kernel

set_option maxRecDepth 100000 in
set_option maxHeartbeats 1000000 in
theorem ok_X5_take : s_Ok c_X5_take := by
  refine s_ok_of k_X5_take (by decide +kernel) sta_X5_take ck_X5_take (And.intro ok_X0_hasWish (And.intro ok_X5_hasBit (And.intro ok_X0_restingOn (And.intro ok_J6_bitCount_0f7a4 trivial)))) ?_
  rintro vs L ⟨x0, x1, x2, x3, x4, x5, y7, y8, y9, s, F, w, n, rfl, rfl, hn, hn8⟩
  refine ⟨rfl, fun G hG => ?_⟩
  have fin : ∀ (a : Int32) (L2 : sH), a = r_take s F w → L2 = w1 x0 x1 x2 x3 x4 x5 y7 y8 y9 (q_take s F w) F → s_PP (some .int) false c_X5_take.2.2.2.2.2 [.ref 0, .int w] (w1 x0 x1 x2 x3 x4 x5 y7 y8 y9 s F) (some (.int a)) L2 := fun a L2 ha hL => ⟨rfl, ⟨by rw [ha]; rfl, by rw [hL]; rfl⟩, fun h => by cases h⟩
  refine hG 0 _ _ _ (And.intro ⟨_, _, _, _, rfl, rfl⟩ ?_)
  intro r hr
  obtain rfl : r = some (.int (p_in (s 1) w)) := hr
  refine And.intro (fun h => ?_) (fun h => ?_)
  · exact fin _ _ (by rw [r_take, if_pos h]) (by rw [show q_take s F w = s by funext j; rw [q_take, if_pos h]])
  · refine And.intro ⟨_, _, rfl⟩ ?_
    intro r hr
    obtain rfl : r = some (.int (p_hb (s 5) w)) := hr
    refine And.intro (fun h2 => ?_) (fun h2 => ?_)
    · exact fin _ _ (by rw [r_take, if_neg h, if_pos h2]) (by rw [show q_take s F w = s by funext j; rw [q_take, if_neg h, if_pos h2]])
    · refine And.intro ⟨s, F, _, s 5, n, rfl, rfl, hn, hn8⟩ ?_
      intro r hr
      obtain rfl : r = some (.int (p_gone s F w)) := hr
      refine And.intro ⟨_, rfl⟩ ?_
      intro r hr
      obtain rfl : r = some (.int (p_bc (p_gone s F w))) := hr
      exact fin _ _ (by rw [r_take, if_neg h, if_neg h2]) (by rw [show q_take s F w = upd s 5 (s 5 &&& (p_gone s F w ^^^ (-1))) by funext j; rw [q_take, if_neg h, if_neg h2]]; rfl)
def p_ce (f : Nat → Int32) (h : Int32) : Nat → Int32
  | 0 => 0
  | k + 1 => if p_hb h (nI k) = 0 then p_ce f h k else p_ce f h k + p_bc (f k &&& h)
def c_X5_clashes : sCtr := ((yX5_clashes, cX5_clashes, 3, (some .int)), (6, 0, 1, 21), true,
  w1fp,
  fun vs L => ∃ (x0 x1 x2 x3 x4 x5 : Nat) (y7 y8 y9 : Int32) (s : Nat → Int32) (F : Nat → Nat → Int32) (n : Nat), vs = [.ref 0] ∧ L = w1 x0 x1 x2 x3 x4 x5 y7 y8 y9 s F ∧ s 1 = nI n ∧ n ≤ 8,
  fun _ L r _ => r = some (.int (p_ce (bG 1 L 5) (oI L 1 5) (oI L 1 1).toNatClampNeg / 2)))
theorem sta_X5_clashes : s_Sta c_X5_clashes := ⟨⟨by decide +kernel, by decide +kernel, by decide +kernel⟩, List.mem_of_getElem? (i := 591) (by decide +kernel), List.mem_of_getElem? (i := 64) (by decide +kernel), ⟨List.mem_of_getElem? (i := 589) (by decide +kernel), List.mem_of_getElem? (i := 590) (by decide +kernel), Or.inl ⟨_, rfl, rfl⟩⟩⟩

def k_X5_clashes : List sBk := [
  (0, false, [true, false, false], [oK 0 (.iconst 0) (.int 0), o0 1 (.istore_n 1), oK 2 (.iconst 0) (.int 0), o0 3 (.istore_n 2), oN 4 .nop [1]]),
  (4, true, [true, true, true], [o0 4 (.iload_n 2), o0 5 (.aload_n 0), oN 6 (.getfield 49) [5, 6, 304], oN 9 (.getfield 82) [0, 1, 121], oN 12 (.if_icmp .ge 46) [3], o0 15 (.aload_n 0), oN 16 (.getfield 49) [5, 6, 304], oN 19 (.getfield 94) [0, 5, 134], o0 22 (.iload_n 2), oC 23 (.invokestatic 157) [573] c_X5_hasBit, oN 26 (.ifCond .eq 26) [2], o0 29 (.iload_n 1), o0 30 (.aload_n 0), oN 31 (.getfield 49) [5, 6, 304], oN 34 (.getfield 119) [0, 11, 152], o0 37 (.iload_n 2), o0 38 .iaload, o0 39 (.aload_n 0), oN 40 (.getfield 49) [5, 6, 304], oN 43 (.getfield 94) [0, 5, 134], o0 46 .iand, oC 47 (.invokestatic 160) [574] c_J6_bitCount_0f7a4, o0 50 .iadd, o0 51 (.istore_n 1), oN 52 .nop [2]]),
  (52, false, [true, true, true], [oK 52 (.iinc 2 1) (.int 1), oN 55 (.goto (-51)) [1]]),
  (58, false, [false, true, false], [o0 58 (.iload_n 1), oK 59 (.iconst 2) (.int 2), o0 60 .idiv, o0 61 .ireturn])]
set_option maxRecDepth 100000 in
theorem ck_X5_clashes : s_ck RX5 cX5_clashes 3 1 21 k_X5_clashes = true := by decide +kernel

set_option maxRecDepth 100000 in
set_option maxHeartbeats 1000000 in
theorem ok_X5_clashes : s_Ok c_X5_clashes := by
  refine s_ok_of k_X5_clashes (by decide +kernel) sta_X5_clashes ck_X5_clashes (And.intro ok_X5_hasBit (And.intro ok_J6_bitCount_0f7a4 trivial)) ?_
  rintro vs L ⟨x0, x1, x2, x3, x4, x5, y7, y8, y9, s, F, n, rfl, rfl, hn, hn8⟩
  refine ⟨rfl, fun G hG => ?_⟩
  have loop : ∀ (k i : Nat) (x a : Int32), i + k = n → x = nI i → a = p_ce (F 5) (s 5) i → G 1 [some (.ref 0), some (.int a), some (.int x)] [] (w1 x0 x1 x2 x3 x4 x5 y7 y8 y9 s F) := by
    intro k
    induction k with
    | zero =>
      intro i x a hi hx ha
      refine hG 1 _ _ _ (And.intro (fun h2 => ?_) (fun h2 => ?_))
      · have h2 : x < s 1 := h2
        rw [hx, hn, nI_ltI (by omega) (by omega)] at h2; omega
      · refine And.intro (by decide) ⟨rfl, ?_, fun _ => rfl⟩
        show some (Value.int (a / 2)) = some (Value.int (p_ce (F 5) (s 5) (s 1).toNatClampNeg / 2))
        rw [hn, nI_clamp (by omega), ha, show i = n by omega]
    | succ k ih =>
      intro i x a hi hx ha
      have hw : vp_in x 8 := by rw [hx]; exact vp_in_nI (by omega) (by omega)
      refine hG 1 _ _ _ (And.intro (fun h2 => ?_) (fun h2 => ?_))
      · refine And.intro ⟨_, _, rfl⟩ ?_
        intro r hr
        obtain rfl : r = some (.int (p_hb (s 5) x)) := hr
        refine And.intro (fun h3 => ?_) (fun h3 => ?_)
        · exact ih (i + 1) _ _ (by omega) (by rw [hx, nI_1]) (by rw [p_ce, ← hx, if_pos h3, ha])
        · refine And.intro hw (And.intro ⟨_, rfl⟩ ?_)
          intro r hr
          obtain rfl : r = some (.int (p_bc (F 5 x.toNatClampNeg &&& s 5))) := hr
          exact ih (i + 1) _ _ (by omega) (by rw [hx, nI_1]) (by rw [p_ce, ← hx, if_neg h3, ha, hx, nI_clamp (by omega)])
      · have h2 : ¬ x < s 1 := h2
        rw [hx, hn, nI_ltI (by omega) (by omega)] at h2; omega
  exact hG 0 _ _ _ (loop n 0 _ _ (by omega) nI_0.symm rfl)
def p_br (fo wa : Nat → Int32) (h l : Int32) : Nat → Int32
  | 0 => 0
  | k + 1 => if fo k &&& (h ^^^ (-1)) = 0 then (if wa k &&& (l ^^^ (-1)) = 0 then p_br fo wa h l k else (if p_hb h (nI k) = 0 then p_br fo wa h l k else p_br fo wa h l k ||| ((1 : Int32) <<< (nI k &&& 31)))) else (if p_hb h (nI k) = 0 then p_br fo wa h l k else p_br fo wa h l k ||| ((1 : Int32) <<< (nI k &&& 31)))
def c_X5_broken : sCtr := ((yX5_broken, cX5_broken, 4, (some .int)), (6, 0, 1, 21), true,
  w1fp,
  fun vs L => ∃ (x0 x1 x2 x3 x4 x5 : Nat) (y7 y8 y9 : Int32) (s : Nat → Int32) (F : Nat → Nat → Int32) (n : Nat), vs = [.ref 0] ∧ L = w1 x0 x1 x2 x3 x4 x5 y7 y8 y9 s F ∧ s 1 = nI n ∧ n ≤ 8,
  fun _ L r _ => r = some (.int (p_br (bG 1 L 6) (bG 1 L 7) (oI L 1 5) (oI L 1 3) (oI L 1 1).toNatClampNeg)))
theorem sta_X5_broken : s_Sta c_X5_broken := ⟨⟨by decide +kernel, by decide +kernel, by decide +kernel⟩, List.mem_of_getElem? (i := 595) (by decide +kernel), List.mem_of_getElem? (i := 64) (by decide +kernel), ⟨List.mem_of_getElem? (i := 593) (by decide +kernel), List.mem_of_getElem? (i := 594) (by decide +kernel), Or.inl ⟨_, rfl, rfl⟩⟩⟩

def k_X5_broken : List sBk := [
  (0, false, [true, false, false, false], [oK 0 (.iconst 0) (.int 0), o0 1 (.istore_n 1), oK 2 (.iconst 0) (.int 0), o0 3 (.istore_n 2), oN 4 .nop [1]]),
  (4, true, [true, true, true, false], [o0 4 (.iload_n 2), o0 5 (.aload_n 0), oN 6 (.getfield 49) [5, 6, 304], oN 9 (.getfield 82) [0, 1, 121], oN 12 (.if_icmp .ge 83) [5], o0 15 (.aload_n 0), oN 16 (.getfield 49) [5, 6, 304], oN 19 (.getfield 122) [0, 12, 156], o0 22 (.iload_n 2), o0 23 .iaload, o0 24 (.aload_n 0), oN 25 (.getfield 49) [5, 6, 304], oN 28 (.getfield 94) [0, 5, 134], oK 31 (.iconst (-1)) (.int (-1)), o0 32 .ixor, o0 33 .iand, oN 34 (.ifCond .ne 29) [2], o0 37 (.aload_n 0), oN 38 (.getfield 49) [5, 6, 304], oN 41 (.getfield 125) [0, 13, 159], o0 44 (.iload_n 2), o0 45 .iaload, o0 46 (.aload_n 0), oN 47 (.getfield 49) [5, 6, 304], oN 50 (.getfield 88) [0, 3, 127], oK 53 (.iconst (-1)) (.int (-1)), o0 54 .ixor, o0 55 .iand, oN 56 (.ifCond .ne 7) [2], oK 59 (.iconst 1) (.int 1), oN 60 (.goto 4) [3]]),
  (63, false, [true, true, true, false], [oK 63 (.iconst 0) (.int 0), oN 64 .nop [3]]),
  (64, false, [true, true, true, false], [o0 64 (.istore_n 3), o0 65 (.aload_n 0), oN 66 (.getfield 49) [5, 6, 304], oN 69 (.getfield 94) [0, 5, 134], o0 72 (.iload_n 2), oC 73 (.invokestatic 157) [573] c_X5_hasBit, oN 76 (.ifCond .eq 13) [4], o0 79 (.iload_n 3), oN 80 (.ifCond .ne 9) [4], o0 83 (.iload_n 1), oK 84 (.iconst 1) (.int 1), o0 85 (.iload_n 2), o0 86 .ishl, o0 87 .ior, o0 88 (.istore_n 1), oN 89 .nop [4]]),
  (89, false, [true, true, true, false], [oK 89 (.iinc 2 1) (.int 1), oN 92 (.goto (-88)) [1]]),
  (95, false, [false, true, false, false], [o0 95 (.iload_n 1), o0 96 .ireturn])]
set_option maxRecDepth 100000 in
theorem ck_X5_broken : s_ck RX5 cX5_broken 4 1 21 k_X5_broken = true := by decide +kernel

set_option maxRecDepth 100000 in
set_option maxHeartbeats 1000000 in
theorem ok_X5_broken : s_Ok c_X5_broken := by
  refine s_ok_of k_X5_broken (by decide +kernel) sta_X5_broken ck_X5_broken (And.intro ok_X5_hasBit trivial) ?_
  rintro vs L ⟨x0, x1, x2, x3, x4, x5, y7, y8, y9, s, F, n, rfl, rfl, hn, hn8⟩
  refine ⟨rfl, fun G hG => ?_⟩
  have loop : ∀ (k i : Nat) (x a : Int32), i + k = n → x = nI i → a = p_br (F 6) (F 7) (s 5) (s 3) i → G 1 [some (.ref 0), some (.int a), some (.int x), none] [] (w1 x0 x1 x2 x3 x4 x5 y7 y8 y9 s F) := by
    intro k
    induction k with
    | zero =>
      intro i x a hi hx ha
      refine hG 1 _ _ _ (And.intro (fun h2 => ?_) (fun h2 => ?_))
      · have h2 : x < s 1 := h2
        rw [hx, hn, nI_ltI (by omega) (by omega)] at h2; omega
      · refine ⟨rfl, ?_, fun _ => rfl⟩
        show some (Value.int a) = some (Value.int (p_br (F 6) (F 7) (s 5) (s 3) (s 1).toNatClampNeg))
        rw [hn, nI_clamp (by omega), ha, show i = n by omega]
    | succ k ih =>
      intro i x a hi hx ha
      have hw : vp_in x 8 := by rw [hx]; exact vp_in_nI (by omega) (by omega)
      have hc : x.toNatClampNeg = i := by rw [hx, nI_clamp (by omega)]
      refine hG 1 _ _ _ (And.intro (fun h2 => ?_) (fun h2 => ?_))
      · refine And.intro hw (And.intro (fun h3 => ?_) (fun h3 => ?_))
        · have h3 : F 6 x.toNatClampNeg &&& (s 5 ^^^ (-1)) = 0 := h3
          rw [hc] at h3
          refine And.intro hw (And.intro (fun h4 => ?_) (fun h4 => ?_))
          · have h4 : F 7 x.toNatClampNeg &&& (s 3 ^^^ (-1)) = 0 := h4
            rw [hc] at h4
            refine And.intro ⟨_, _, rfl⟩ ?_
            intro r hr
            obtain rfl : r = some (.int (p_hb (s 5) x)) := hr
            refine And.intro (fun h5 => ?_) (fun h5 => ?_)
            · exact ih (i + 1) _ _ (by omega) (by rw [hx, nI_1]) (by rw [p_br, if_pos h3, if_pos h4, ha])
            · refine And.intro (fun h6 => absurd h6 (by decide)) (fun _ => ?_)
              exact ih (i + 1) _ _ (by omega) (by rw [hx, nI_1]) (by rw [p_br, if_pos h3, if_pos h4, ha])
          · have h4 : ¬ F 7 x.toNatClampNeg &&& (s 3 ^^^ (-1)) = 0 := h4
            rw [hc] at h4
            refine And.intro ⟨_, _, rfl⟩ ?_
            intro r hr
            obtain rfl : r = some (.int (p_hb (s 5) x)) := hr
            refine And.intro (fun h5 => ?_) (fun h5 => ?_)
            · exact ih (i + 1) _ _ (by omega) (by rw [hx, nI_1]) (by rw [p_br, if_pos h3, if_neg h4, ← hx, if_pos h5, ha])
            · refine And.intro (fun _ => ?_) (fun h6 => absurd rfl h6)
              exact ih (i + 1) _ _ (by omega) (by rw [hx, nI_1]) (by rw [p_br, if_pos h3, if_neg h4, ← hx, if_neg h5, ha])
        · have h3 : ¬ F 6 x.toNatClampNeg &&& (s 5 ^^^ (-1)) = 0 := h3
          rw [hc] at h3
          refine And.intro ⟨_, _, rfl⟩ ?_
          intro r hr
          obtain rfl : r = some (.int (p_hb (s 5) x)) := hr
          refine And.intro (fun h5 => ?_) (fun h5 => ?_)
          · exact ih (i + 1) _ _ (by omega) (by rw [hx, nI_1]) (by rw [p_br, if_neg h3, ← hx, if_pos h5, ha])
          · refine And.intro (fun _ => ?_) (fun h6 => absurd rfl h6)
            exact ih (i + 1) _ _ (by omega) (by rw [hx, nI_1]) (by rw [p_br, if_neg h3, ← hx, if_neg h5, ha])
      · have h2 : ¬ x < s 1 := h2
        rw [hx, hn, nI_ltI (by omega) (by omega)] at h2; omega
  exact hG 0 _ _ _ (loop n 0 _ _ (by omega) nI_0.symm rfl)

/-! ===== WishClerk: what wishes need, the plan, what is seen, asked, taken ===== -/
def p_wof (s : Nat → Int32) (F : Nat → Nat → Int32) : Nat → Nat → Int32 := va_up (va_up F 6 (p_fi (p_fo (F 4) (s 1).toNatClampNeg) (F 6) (s 1).toNatClampNeg)) 7 (p_fi (p_wa (F 3) (F 4) (s 1).toNatClampNeg) (F 7) (s 1).toNatClampNeg)
def r_asks (s : Nat → Int32) (F : Nat → Nat → Int32) (w p : Int32) : Int32 := if p_in (s 1) w = 0 then -1 else if p_in (s 0) p = 0 then -1 else (F 3 w.toNatClampNeg >>> (p &&& 31)) &&& 1
def q_asks (s : Nat → Int32) (F : Nat → Nat → Int32) (w p z : Int32) : Nat → Nat → Int32 := fun i => if p_in (s 1) w = 0 then F i else if p_in (s 0) p = 0 then F i else p_wof s (va_up F 3 (upd (F 3) w.toNatClampNeg (p_wb (F 3 w.toNatClampNeg) p z))) i
def c_X5_asks : sCtr := ((yX5_asks, cX5_asks, 5, (some .int)), (6, 3, 4, 92), false,
  w1fp,
  fun vs L => ∃ (x0 x1 x2 x3 x4 x5 : Nat) (y7 y8 y9 : Int32) (s : Nat → Int32) (F : Nat → Nat → Int32) (w p z : Int32) (n : Nat), vs = [.ref 0, .int w, .int p, .int z] ∧ L = w1 x0 x1 x2 x3 x4 x5 y7 y8 y9 s F ∧ s 1 = nI n ∧ n ≤ 8,
  fun vs L r L' => r = some (.int (r_asks (oI L 1) (bG 1 L) (vI vs 1) (vI vs 2))) ∧ L' = s_hd L :: bkK 1 (oI L 1) (q_asks (oI L 1) (bG 1 L) (vI vs 1) (vI vs 2) (vI vs 3)))
theorem sta_X5_asks : s_Sta c_X5_asks := ⟨⟨by decide +kernel, by decide +kernel, by decide +kernel⟩, List.mem_of_getElem? (i := 533) (by decide +kernel), List.mem_of_getElem? (i := 64) (by decide +kernel), ⟨List.mem_of_getElem? (i := 531) (by decide +kernel), List.mem_of_getElem? (i := 532) (by decide +kernel), Or.inl ⟨_, rfl, rfl⟩⟩⟩

def k_X5_asks : List sBk := [
  (0, false, [true, true, true, true, false], [o0 0 (.aload_n 0), oN 1 (.getfield 49) [5, 6, 304], o0 4 (.iload_n 1), oC 5 (.invokevirtual 103) [498] c_X0_hasWish, oN 8 (.ifCond .eq 14) [1], o0 11 (.aload_n 0), oN 12 (.getfield 49) [5, 6, 304], o0 15 (.iload_n 2), oC 16 (.invokevirtual 131) [510] c_X0_hasOne, oN 19 (.ifCond .ne 5) [2], oN 22 .nop [1]]),
  (22, false, [false, false, false, false, false], [oK 22 (.iconst (-1)) (.int (-1)), o0 23 .ireturn]),
  (24, false, [true, true, true, true, false], [o0 24 (.aload_n 0), oN 25 (.getfield 49) [5, 6, 304], oN 28 (.getfield 113) [0, 9, 146], o0 31 (.iload_n 1), o0 32 .iaload, o0 33 (.iload_n 2), oC 34 (.invokestatic 134) [514] c_X5_bitOf, o0 37 (.istore 4), o0 39 (.aload_n 0), oN 40 (.getfield 49) [5, 6, 304], oN 43 (.getfield 113) [0, 9, 146], o0 46 (.iload_n 1), o0 47 (.aload_n 0), oN 48 (.getfield 49) [5, 6, 304], oN 51 (.getfield 113) [0, 9, 146], o0 54 (.iload_n 1), o0 55 .iaload, o0 56 (.iload_n 2), o0 57 (.iload_n 3), oC 58 (.invokestatic 138) [517] c_X5_withBit, o0 61 .iastore, o0 62 (.aload_n 0), oN 63 (.getfield 49) [5, 6, 304], oC 66 (.invokevirtual 142) [534] c_X0_workOutFollowers, o0 69 (.iload 4), o0 71 .ireturn])]
set_option maxRecDepth 100000 in
theorem ck_X5_asks : s_ck RX5 cX5_asks 5 4 92 k_X5_asks = true := by decide +kernel

set_option maxRecDepth 100000 in
set_option maxHeartbeats 1000000 in
theorem ok_X5_asks : s_Ok c_X5_asks := by
  refine s_ok_of k_X5_asks (by decide +kernel) sta_X5_asks ck_X5_asks (And.intro ok_X0_hasWish (And.intro ok_X0_hasOne (And.intro ok_X5_bitOf (And.intro ok_X5_withBit (And.intro ok_X0_workOutFollowers trivial))))) ?_
  rintro vs L ⟨x0, x1, x2, x3, x4, x5, y7, y8, y9, s, F, w, p, z, n, rfl, rfl, hn, hn8⟩
  refine ⟨rfl, fun G hG => ?_⟩
  have fin : ∀ (a : Int32) (L2 : sH), a = r_asks s F w p → L2 = w1 x0 x1 x2 x3 x4 x5 y7 y8 y9 s (q_asks s F w p z) → s_PP (some .int) false c_X5_asks.2.2.2.2.2 [.ref 0, .int w, .int p, .int z] (w1 x0 x1 x2 x3 x4 x5 y7 y8 y9 s F) (some (.int a)) L2 := fun a L2 ha hL => ⟨rfl, ⟨by rw [ha]; rfl, by rw [hL]; rfl⟩, fun h => by cases h⟩
  refine hG 0 _ _ _ (And.intro ⟨_, _, _, _, rfl, rfl⟩ ?_)
  intro r hr
  obtain rfl : r = some (.int (p_in (s 1) w)) := hr
  refine And.intro (fun h => ?_) (fun h => ?_)
  · exact fin _ _ (by rw [r_asks, if_pos h]) (by rw [show q_asks s F w p z = F by funext j; rw [q_asks, if_pos h]])
  · refine And.intro ⟨_, _, _, rfl, rfl⟩ ?_
    intro r hr
    obtain rfl : r = some (.int (p_in (s 0) p)) := hr
    refine And.intro (fun h2 => ?_) (fun h2 => ?_)
    · exact fin _ _ (by rw [r_asks, if_neg h, if_pos h2]) (by rw [show q_asks s F w p z = F by funext j; rw [q_asks, if_neg h, if_pos h2]])
    · have hw : vp_in w 8 := by
        have h3 := h
        rw [hn] at h3
        obtain ⟨j, hj, rfl⟩ := p_in_ne hn8 h3
        exact vp_in_nI (by omega) (by omega)
      refine And.intro hw (And.intro ⟨_, _, rfl⟩ ?_)
      intro r hr
      obtain rfl : r = some (.int ((F 3 w.toNatClampNeg >>> (p &&& 31)) &&& 1)) := hr
      refine And.intro hw (And.intro ⟨_, _, _, rfl⟩ ?_)
      intro r hr
      obtain rfl : r = some (.int (p_wb (F 3 w.toNatClampNeg) p z)) := hr
      refine And.intro hw (And.intro ⟨s, va_up F 3 (upd (F 3) w.toNatClampNeg (p_wb (F 3 w.toNatClampNeg) p z)), n, rfl, rfl, hn, hn8⟩ ?_)
      rintro r L' ⟨rfl, hL⟩
      obtain rfl : L' = bkW s (p_wof s (va_up F 3 (upd (F 3) w.toNatClampNeg (p_wb (F 3 w.toNatClampNeg) p z)))) := hL
      exact fin _ _ (by rw [r_asks, if_neg h, if_neg h2]) (by rw [show q_asks s F w p z = p_wof s (va_up F 3 (upd (F 3) w.toNatClampNeg (p_wb (F 3 w.toNatClampNeg) p z))) by funext j; rw [q_asks, if_neg h, if_neg h2]]; rfl)
def r_needs (s : Nat → Int32) (F : Nat → Nat → Int32) (w v : Int32) : Int32 := if p_two (s 1) w v = 0 then -1 else (F 4 w.toNatClampNeg >>> (v &&& 31)) &&& 1
def q_needs (s : Nat → Int32) (F : Nat → Nat → Int32) (w v z : Int32) : Nat → Nat → Int32 := fun i => if p_two (s 1) w v = 0 then F i else p_wof s (va_up F 4 (upd (F 4) w.toNatClampNeg (p_wb (F 4 w.toNatClampNeg) v z))) i
theorem p_two_ne {n : Nat} {w v : Int32} (hn : n ≤ 8) (h : ¬ p_two (nI n) w v = 0) : ∃ i j, i < n ∧ j < n ∧ w = nI i ∧ v = nI j ∧ i ≠ j := by
  unfold p_two at h
  by_cases h1 : p_in (nI n) w = 0
  · rw [if_pos h1] at h; exact absurd rfl h
  · rw [if_neg h1] at h
    by_cases h2 : p_in (nI n) v = 0
    · rw [if_pos h2] at h; exact absurd rfl h
    · rw [if_neg h2] at h
      obtain ⟨i, hi, rfl⟩ := p_in_ne hn h1
      obtain ⟨j, hj, rfl⟩ := p_in_ne hn h2
      refine ⟨i, j, hi, hj, rfl, rfl, fun e => h ?_⟩
      rw [e, if_pos rfl]
def c_X5_needs : sCtr := ((yX5_needs, cX5_needs, 5, (some .int)), (6, 3, 4, 92), false,
  w1fp,
  fun vs L => ∃ (x0 x1 x2 x3 x4 x5 : Nat) (y7 y8 y9 : Int32) (s : Nat → Int32) (F : Nat → Nat → Int32) (w v z : Int32) (n : Nat), vs = [.ref 0, .int w, .int v, .int z] ∧ L = w1 x0 x1 x2 x3 x4 x5 y7 y8 y9 s F ∧ s 1 = nI n ∧ n ≤ 8,
  fun vs L r L' => r = some (.int (r_needs (oI L 1) (bG 1 L) (vI vs 1) (vI vs 2))) ∧ L' = s_hd L :: bkK 1 (oI L 1) (q_needs (oI L 1) (bG 1 L) (vI vs 1) (vI vs 2) (vI vs 3)))
theorem sta_X5_needs : s_Sta c_X5_needs := ⟨⟨by decide +kernel, by decide +kernel, by decide +kernel⟩, List.mem_of_getElem? (i := 538) (by decide +kernel), List.mem_of_getElem? (i := 64) (by decide +kernel), ⟨List.mem_of_getElem? (i := 536) (by decide +kernel), List.mem_of_getElem? (i := 537) (by decide +kernel), Or.inl ⟨_, rfl, rfl⟩⟩⟩

def k_X5_needs : List sBk := [
  (0, false, [true, true, true, true, false], [o0 0 (.aload_n 0), oN 1 (.getfield 49) [5, 6, 304], o0 4 (.iload_n 1), o0 5 (.iload_n 2), oC 6 (.invokevirtual 145) [539] c_X0_hasTwoWishes, oN 9 (.ifCond .ne 5) [1], oK 12 (.iconst (-1)) (.int (-1)), o0 13 .ireturn]),
  (14, false, [true, true, true, true, false], [o0 14 (.aload_n 0), oN 15 (.getfield 49) [5, 6, 304], oN 18 (.getfield 116) [0, 10, 149], o0 21 (.iload_n 1), o0 22 .iaload, o0 23 (.iload_n 2), oC 24 (.invokestatic 134) [514] c_X5_bitOf, o0 27 (.istore 4), o0 29 (.aload_n 0), oN 30 (.getfield 49) [5, 6, 304], oN 33 (.getfield 116) [0, 10, 149], o0 36 (.iload_n 1), o0 37 (.aload_n 0), oN 38 (.getfield 49) [5, 6, 304], oN 41 (.getfield 116) [0, 10, 149], o0 44 (.iload_n 1), o0 45 .iaload, o0 46 (.iload_n 2), o0 47 (.iload_n 3), oC 48 (.invokestatic 138) [517] c_X5_withBit, o0 51 .iastore, o0 52 (.aload_n 0), oN 53 (.getfield 49) [5, 6, 304], oC 56 (.invokevirtual 142) [534] c_X0_workOutFollowers, o0 59 (.iload 4), o0 61 .ireturn])]
set_option maxRecDepth 100000 in
theorem ck_X5_needs : s_ck RX5 cX5_needs 5 4 92 k_X5_needs = true := by decide +kernel

set_option maxRecDepth 100000 in
set_option maxHeartbeats 1000000 in
theorem ok_X5_needs : s_Ok c_X5_needs := by
  refine s_ok_of k_X5_needs (by decide +kernel) sta_X5_needs ck_X5_needs (And.intro ok_X0_hasTwoWishes (And.intro ok_X5_bitOf (And.intro ok_X5_withBit (And.intro ok_X0_workOutFollowers trivial)))) ?_
  rintro vs L ⟨x0, x1, x2, x3, x4, x5, y7, y8, y9, s, F, w, p, z, n, rfl, rfl, hn, hn8⟩
  refine ⟨rfl, fun G hG => ?_⟩
  have fin : ∀ (a : Int32) (L2 : sH), a = r_needs s F w p → L2 = w1 x0 x1 x2 x3 x4 x5 y7 y8 y9 s (q_needs s F w p z) → s_PP (some .int) false c_X5_needs.2.2.2.2.2 [.ref 0, .int w, .int p, .int z] (w1 x0 x1 x2 x3 x4 x5 y7 y8 y9 s F) (some (.int a)) L2 := fun a L2 ha hL => ⟨rfl, ⟨by rw [ha]; rfl, by rw [hL]; rfl⟩, fun h => by cases h⟩
  refine hG 0 _ _ _ (And.intro ⟨_, _, _, _, _, rfl, rfl⟩ ?_)
  intro r hr
  obtain rfl : r = some (.int (p_two (s 1) w p)) := hr
  refine And.intro (fun h => ?_) (fun h => ?_)
  · exact fin _ _ (by rw [r_needs, if_pos h]) (by rw [show q_needs s F w p z = F by funext j; rw [q_needs, if_pos h]])
  · have hw : vp_in w 8 := by
      have h3 := h
      rw [hn] at h3
      obtain ⟨i, j, hi, hj, rfl, rfl, -⟩ := p_two_ne hn8 h3
      exact vp_in_nI (by omega) (by omega)
    refine And.intro hw (And.intro ⟨_, _, rfl⟩ ?_)
    intro r hr
    obtain rfl : r = some (.int ((F 4 w.toNatClampNeg >>> (p &&& 31)) &&& 1)) := hr
    refine And.intro hw (And.intro ⟨_, _, _, rfl⟩ ?_)
    intro r hr
    obtain rfl : r = some (.int (p_wb (F 4 w.toNatClampNeg) p z)) := hr
    refine And.intro hw (And.intro ⟨s, va_up F 4 (upd (F 4) w.toNatClampNeg (p_wb (F 4 w.toNatClampNeg) p z)), n, rfl, rfl, hn, hn8⟩ ?_)
    rintro r L' ⟨rfl, hL⟩
    obtain rfl : L' = bkW s (p_wof s (va_up F 4 (upd (F 4) w.toNatClampNeg (p_wb (F 4 w.toNatClampNeg) p z)))) := hL
    exact fin _ _ (by rw [r_needs, if_neg h]) (by rw [show q_needs s F w p z = p_wof s (va_up F 4 (upd (F 4) w.toNatClampNeg (p_wb (F 4 w.toNatClampNeg) p z))) by funext j; rw [q_needs, if_neg h]]; rfl)
def r_clash (s : Nat → Int32) (F : Nat → Nat → Int32) (w v : Int32) : Int32 := if p_two (s 1) w v = 0 then -1 else (F 5 w.toNatClampNeg >>> (v &&& 31)) &&& 1
def p_cl1 (f : Nat → Int32) (w v z : Int32) : Nat → Int32 := upd f w.toNatClampNeg (p_wb (f w.toNatClampNeg) v z)
def q_clash (s : Nat → Int32) (F : Nat → Nat → Int32) (w v z : Int32) : Nat → Nat → Int32 := fun i => if p_two (s 1) w v = 0 then F i else va_up F 5 (p_cl1 (p_cl1 (F 5) w v z) v w z) i
def c_X5_clash : sCtr := ((yX5_clash, cX5_clash, 5, (some .int)), (6, 3, 2, 43), false,
  w1fp,
  fun vs L => ∃ (x0 x1 x2 x3 x4 x5 : Nat) (y7 y8 y9 : Int32) (s : Nat → Int32) (F : Nat → Nat → Int32) (w v z : Int32) (n : Nat), vs = [.ref 0, .int w, .int v, .int z] ∧ L = w1 x0 x1 x2 x3 x4 x5 y7 y8 y9 s F ∧ s 1 = nI n ∧ n ≤ 8,
  fun vs L r L' => r = some (.int (r_clash (oI L 1) (bG 1 L) (vI vs 1) (vI vs 2))) ∧ L' = s_hd L :: bkK 1 (oI L 1) (q_clash (oI L 1) (bG 1 L) (vI vs 1) (vI vs 2) (vI vs 3)))
theorem sta_X5_clash : s_Sta c_X5_clash := ⟨⟨by decide +kernel, by decide +kernel, by decide +kernel⟩, List.mem_of_getElem? (i := 547) (by decide +kernel), List.mem_of_getElem? (i := 64) (by decide +kernel), ⟨List.mem_of_getElem? (i := 545) (by decide +kernel), List.mem_of_getElem? (i := 546) (by decide +kernel), Or.inl ⟨_, rfl, rfl⟩⟩⟩

def k_X5_clash : List sBk := [
  (0, false, [true, true, true, true, false], [o0 0 (.aload_n 0), oN 1 (.getfield 49) [5, 6, 304], o0 4 (.iload_n 1), o0 5 (.iload_n 2), oC 6 (.invokevirtual 145) [539] c_X0_hasTwoWishes, oN 9 (.ifCond .ne 5) [1], oK 12 (.iconst (-1)) (.int (-1)), o0 13 .ireturn]),
  (14, false, [true, true, true, true, false], [o0 14 (.aload_n 0), oN 15 (.getfield 49) [5, 6, 304], oN 18 (.getfield 119) [0, 11, 152], o0 21 (.iload_n 1), o0 22 .iaload, o0 23 (.iload_n 2), oC 24 (.invokestatic 134) [514] c_X5_bitOf, o0 27 (.istore 4), o0 29 (.aload_n 0), oN 30 (.getfield 49) [5, 6, 304], oN 33 (.getfield 119) [0, 11, 152], o0 36 (.iload_n 1), o0 37 (.aload_n 0), oN 38 (.getfield 49) [5, 6, 304], oN 41 (.getfield 119) [0, 11, 152], o0 44 (.iload_n 1), o0 45 .iaload, o0 46 (.iload_n 2), o0 47 (.iload_n 3), oC 48 (.invokestatic 138) [517] c_X5_withBit, o0 51 .iastore, o0 52 (.aload_n 0), oN 53 (.getfield 49) [5, 6, 304], oN 56 (.getfield 119) [0, 11, 152], o0 59 (.iload_n 2), o0 60 (.aload_n 0), oN 61 (.getfield 49) [5, 6, 304], oN 64 (.getfield 119) [0, 11, 152], o0 67 (.iload_n 2), o0 68 .iaload, o0 69 (.iload_n 1), o0 70 (.iload_n 3), oC 71 (.invokestatic 138) [517] c_X5_withBit, o0 74 .iastore, o0 75 (.iload 4), o0 77 .ireturn])]
set_option maxRecDepth 100000 in
theorem ck_X5_clash : s_ck RX5 cX5_clash 5 2 43 k_X5_clash = true := by decide +kernel

set_option maxRecDepth 100000 in
set_option maxHeartbeats 1000000 in
theorem ok_X5_clash : s_Ok c_X5_clash := by
  refine s_ok_of k_X5_clash (by decide +kernel) sta_X5_clash ck_X5_clash (And.intro ok_X0_hasTwoWishes (And.intro ok_X5_bitOf (And.intro ok_X5_withBit (And.intro ok_X5_withBit trivial)))) ?_
  rintro vs L ⟨x0, x1, x2, x3, x4, x5, y7, y8, y9, s, F, w, p, z, n, rfl, rfl, hn, hn8⟩
  refine ⟨rfl, fun G hG => ?_⟩
  have fin : ∀ (a : Int32) (L2 : sH), a = r_clash s F w p → L2 = w1 x0 x1 x2 x3 x4 x5 y7 y8 y9 s (q_clash s F w p z) → s_PP (some .int) false c_X5_clash.2.2.2.2.2 [.ref 0, .int w, .int p, .int z] (w1 x0 x1 x2 x3 x4 x5 y7 y8 y9 s F) (some (.int a)) L2 := fun a L2 ha hL => ⟨rfl, ⟨by rw [ha]; rfl, by rw [hL]; rfl⟩, fun h => by cases h⟩
  refine hG 0 _ _ _ (And.intro ⟨_, _, _, _, _, rfl, rfl⟩ ?_)
  intro r hr
  obtain rfl : r = some (.int (p_two (s 1) w p)) := hr
  refine And.intro (fun h => ?_) (fun h => ?_)
  · exact fin _ _ (by rw [r_clash, if_pos h]) (by rw [show q_clash s F w p z = F by funext j; rw [q_clash, if_pos h]])
  · have hw : vp_in w 8 ∧ vp_in p 8 := by
      have h3 := h
      rw [hn] at h3
      obtain ⟨i, j, hi, hj, rfl, rfl, -⟩ := p_two_ne hn8 h3
      exact ⟨vp_in_nI (by omega) (by omega), vp_in_nI (by omega) (by omega)⟩
    refine And.intro hw.1 (And.intro ⟨_, _, rfl⟩ ?_)
    intro r hr
    obtain rfl : r = some (.int ((F 5 w.toNatClampNeg >>> (p &&& 31)) &&& 1)) := hr
    refine And.intro hw.1 (And.intro ⟨_, _, _, rfl⟩ ?_)
    intro r hr
    obtain rfl : r = some (.int (p_wb (F 5 w.toNatClampNeg) p z)) := hr
    refine And.intro hw.1 (And.intro hw.2 (And.intro ⟨_, _, _, rfl⟩ ?_))
    intro r hr
    obtain rfl : r = some (.int (p_wb (p_cl1 (F 5) w p z p.toNatClampNeg) w z)) := hr
    refine And.intro hw.2 ?_
    exact fin _ _ (by rw [r_clash, if_neg h]) (by rw [show q_clash s F w p z = va_up F 5 (p_cl1 (p_cl1 (F 5) w p z) p w z) by funext j; rw [q_clash, if_neg h]]; rfl)
def r_plans (s : Nat → Int32) (w : Int32) : Int32 := if p_in (s 1) w = 0 then -1 else if s 15 < 6 then s 15 + 1 else -3
def q_plans (s : Nat → Int32) (w : Int32) : Nat → Int32 := fun j => if p_in (s 1) w = 0 then s j else if s 15 < 6 then upd s 15 (s 15 + 1) j else s j
def q_plansF (s : Nat → Int32) (F : Nat → Nat → Int32) (w : Int32) : Nat → Nat → Int32 := fun i => if p_in (s 1) w = 0 then F i else if s 15 < 6 then va_up F 8 (upd (F 8) (s 15).toNatClampNeg w) i else F i
def c_X5_plans : sCtr := ((yX5_plans, cX5_plans, 2, (some .int)), (6, 1, 1, 21), false,
  w1fp,
  fun vs L => ∃ (x0 x1 x2 x3 x4 x5 : Nat) (y7 y8 y9 : Int32) (s : Nat → Int32) (F : Nat → Nat → Int32) (w : Int32) (n : Nat), vs = [.ref 0, .int w] ∧ L = w1 x0 x1 x2 x3 x4 x5 y7 y8 y9 s F ∧ s 15 = nI n ∧ n ≤ 6,
  fun vs L r L' => r = some (.int (r_plans (oI L 1) (vI vs 1))) ∧ L' = s_hd L :: bkK 1 (q_plans (oI L 1) (vI vs 1)) (q_plansF (oI L 1) (bG 1 L) (vI vs 1)))
theorem sta_X5_plans : s_Sta c_X5_plans := ⟨⟨by decide +kernel, by decide +kernel, by decide +kernel⟩, List.mem_of_getElem? (i := 551) (by decide +kernel), List.mem_of_getElem? (i := 64) (by decide +kernel), ⟨List.mem_of_getElem? (i := 549) (by decide +kernel), List.mem_of_getElem? (i := 550) (by decide +kernel), Or.inl ⟨_, rfl, rfl⟩⟩⟩

def k_X5_plans : List sBk := [
  (0, false, [true, true], [o0 0 (.aload_n 0), oN 1 (.getfield 49) [5, 6, 304], o0 4 (.iload_n 1), oC 5 (.invokevirtual 103) [498] c_X0_hasWish, oN 8 (.ifCond .ne 5) [1], oK 11 (.iconst (-1)) (.int (-1)), o0 12 .ireturn]),
  (13, false, [true, true], [o0 13 (.aload_n 0), oN 14 (.getfield 49) [5, 6, 304], oN 17 (.getfield 100) [0, 15, 164], oK 20 (.bipush 6) (.int 6), oN 22 (.if_icmp .lt 6) [2], oK 25 (.bipush (-3)) (.int (-3)), o0 27 .ireturn]),
  (28, false, [true, true], [o0 28 (.aload_n 0), oN 29 (.getfield 49) [5, 6, 304], oN 32 (.getfield 128) [0, 14, 161], o0 35 (.aload_n 0), oN 36 (.getfield 49) [5, 6, 304], oN 39 (.getfield 100) [0, 15, 164], o0 42 (.iload_n 1), o0 43 .iastore, o0 44 (.aload_n 0), oN 45 (.getfield 49) [5, 6, 304], o0 48 .dup, oN 49 (.getfield 100) [0, 15, 164], oK 52 (.iconst 1) (.int 1), o0 53 .iadd, oN 54 (.putfield 100) [0, 15, 164], o0 57 (.aload_n 0), oN 58 (.getfield 49) [5, 6, 304], oN 61 (.getfield 100) [0, 15, 164], o0 64 .ireturn])]
set_option maxRecDepth 100000 in
theorem ck_X5_plans : s_ck RX5 cX5_plans 2 1 21 k_X5_plans = true := by decide +kernel

set_option maxRecDepth 100000 in
set_option maxHeartbeats 1000000 in
theorem ok_X5_plans : s_Ok c_X5_plans := by
  refine s_ok_of k_X5_plans (by decide +kernel) sta_X5_plans ck_X5_plans (And.intro ok_X0_hasWish trivial) ?_
  rintro vs L ⟨x0, x1, x2, x3, x4, x5, y7, y8, y9, s, F, w, n, rfl, rfl, hn, hn8⟩
  refine ⟨rfl, fun G hG => ?_⟩
  have fin : ∀ (a : Int32) (L2 : sH), a = r_plans s w → L2 = w1 x0 x1 x2 x3 x4 x5 y7 y8 y9 (q_plans s w) (q_plansF s F w) → s_PP (some .int) false c_X5_plans.2.2.2.2.2 [.ref 0, .int w] (w1 x0 x1 x2 x3 x4 x5 y7 y8 y9 s F) (some (.int a)) L2 := fun a L2 ha hL => ⟨rfl, ⟨by rw [ha]; rfl, by rw [hL]; rfl⟩, fun h => by cases h⟩
  refine hG 0 _ _ _ (And.intro ⟨_, _, _, _, rfl, rfl⟩ ?_)
  intro r hr
  obtain rfl : r = some (.int (p_in (s 1) w)) := hr
  refine And.intro (fun h => ?_) (fun h => ?_)
  · exact fin _ _ (by rw [r_plans, if_pos h]) (by rw [show q_plans s w = s by funext j; rw [q_plans, if_pos h], show q_plansF s F w = F by funext j; rw [q_plansF, if_pos h]])
  · refine And.intro (fun h2 => ?_) (fun h2 => ?_)
    · have h2 : s 15 < 6 := h2
      refine And.intro ?_ ?_
      · show vp_in (s 15) 6
        rw [hn] at h2 ⊢
        exact vp_in_nI ((nI_ltI (b := 6) (by omega) (by omega)).mp h2) (by omega)
      · exact fin _ _ (by rw [r_plans, if_neg h, if_pos h2]) (by rw [show q_plans s w = upd s 15 (s 15 + 1) by funext j; rw [q_plans, if_neg h, if_pos h2], show q_plansF s F w = va_up F 8 (upd (F 8) (s 15).toNatClampNeg w) by funext j; rw [q_plansF, if_neg h, if_pos h2]]; rfl)
    · have h2 : ¬ s 15 < 6 := h2
      exact fin _ _ (by rw [r_plans, if_neg h, if_neg h2]) (by rw [show q_plans s w = s by funext j; rw [q_plans, if_neg h, if_neg h2], show q_plansF s F w = F by funext j; rw [q_plansF, if_neg h, if_neg h2]])
def r_see (s : Nat → Int32) (p : Int32) : Int32 := if p_in (s 0) p = 0 then -1 else if s 18 < 8 then s 18 + 1 else -3
def q_see (s : Nat → Int32) (p z : Int32) : Nat → Int32 := fun j => if p_in (s 0) p = 0 then s j else if s 18 < 8 then upd (upd s 17 (p_wb (s 17) (s 18) z)) 18 (s 18 + 1) j else s j
def q_seeF (s : Nat → Int32) (F : Nat → Nat → Int32) (p : Int32) : Nat → Nat → Int32 := fun i => if p_in (s 0) p = 0 then F i else if s 18 < 8 then va_up F 9 (upd (F 9) (s 18).toNatClampNeg p) i else F i
def c_X5_see : sCtr := ((yX5_see, cX5_see, 3, (some .int)), (6, 2, 1, 22), false,
  w1fp,
  fun vs L => ∃ (x0 x1 x2 x3 x4 x5 : Nat) (y7 y8 y9 : Int32) (s : Nat → Int32) (F : Nat → Nat → Int32) (p z : Int32) (n : Nat), vs = [.ref 0, .int p, .int z] ∧ L = w1 x0 x1 x2 x3 x4 x5 y7 y8 y9 s F ∧ s 18 = nI n ∧ n ≤ 8,
  fun vs L r L' => r = some (.int (r_see (oI L 1) (vI vs 1))) ∧ L' = s_hd L :: bkK 1 (q_see (oI L 1) (vI vs 1) (vI vs 2)) (q_seeF (oI L 1) (bG 1 L) (vI vs 1)))
theorem sta_X5_see : s_Sta c_X5_see := ⟨⟨by decide +kernel, by decide +kernel, by decide +kernel⟩, List.mem_of_getElem? (i := 717) (by decide +kernel), List.mem_of_getElem? (i := 64) (by decide +kernel), ⟨List.mem_of_getElem? (i := 715) (by decide +kernel), List.mem_of_getElem? (i := 716) (by decide +kernel), Or.inl ⟨_, rfl, rfl⟩⟩⟩

def k_X5_see : List sBk := [
  (0, false, [true, true, true], [o0 0 (.aload_n 0), oN 1 (.getfield 49) [5, 6, 304], o0 4 (.iload_n 1), oC 5 (.invokevirtual 131) [510] c_X0_hasOne, oN 8 (.ifCond .ne 5) [1], oK 11 (.iconst (-1)) (.int (-1)), o0 12 .ireturn]),
  (13, false, [true, true, true], [o0 13 (.aload_n 0), oN 14 (.getfield 49) [5, 6, 304], oN 17 (.getfield 220) [0, 18, 171], oK 20 (.bipush 8) (.int 8), oN 22 (.if_icmp .lt 6) [2], oK 25 (.bipush (-3)) (.int (-3)), o0 27 .ireturn]),
  (28, false, [true, true, true], [o0 28 (.aload_n 0), oN 29 (.getfield 49) [5, 6, 304], oN 32 (.getfield 223) [0, 16, 167], o0 35 (.aload_n 0), oN 36 (.getfield 49) [5, 6, 304], oN 39 (.getfield 220) [0, 18, 171], o0 42 (.iload_n 1), o0 43 .iastore, o0 44 (.aload_n 0), oN 45 (.getfield 49) [5, 6, 304], o0 48 (.aload_n 0), oN 49 (.getfield 49) [5, 6, 304], oN 52 (.getfield 226) [0, 17, 169], o0 55 (.aload_n 0), oN 56 (.getfield 49) [5, 6, 304], oN 59 (.getfield 220) [0, 18, 171], o0 62 (.iload_n 2), oC 63 (.invokestatic 138) [517] c_X5_withBit, oN 66 (.putfield 226) [0, 17, 169], o0 69 (.aload_n 0), oN 70 (.getfield 49) [5, 6, 304], o0 73 .dup, oN 74 (.getfield 220) [0, 18, 171], oK 77 (.iconst 1) (.int 1), o0 78 .iadd, oN 79 (.putfield 220) [0, 18, 171], o0 82 (.aload_n 0), oN 83 (.getfield 49) [5, 6, 304], oN 86 (.getfield 220) [0, 18, 171], o0 89 .ireturn])]
set_option maxRecDepth 100000 in
theorem ck_X5_see : s_ck RX5 cX5_see 3 1 22 k_X5_see = true := by decide +kernel

set_option maxRecDepth 100000 in
set_option maxHeartbeats 1000000 in
theorem ok_X5_see : s_Ok c_X5_see := by
  refine s_ok_of k_X5_see (by decide +kernel) sta_X5_see ck_X5_see (And.intro ok_X0_hasOne (And.intro ok_X5_withBit trivial)) ?_
  rintro vs L ⟨x0, x1, x2, x3, x4, x5, y7, y8, y9, s, F, w, z, n, rfl, rfl, hn, hn8⟩
  refine ⟨rfl, fun G hG => ?_⟩
  have fin : ∀ (a : Int32) (L2 : sH), a = r_see s w → L2 = w1 x0 x1 x2 x3 x4 x5 y7 y8 y9 (q_see s w z) (q_seeF s F w) → s_PP (some .int) false c_X5_see.2.2.2.2.2 [.ref 0, .int w, .int z] (w1 x0 x1 x2 x3 x4 x5 y7 y8 y9 s F) (some (.int a)) L2 := fun a L2 ha hL => ⟨rfl, ⟨by rw [ha]; rfl, by rw [hL]; rfl⟩, fun h => by cases h⟩
  refine hG 0 _ _ _ (And.intro ⟨_, _, _, rfl, rfl⟩ ?_)
  intro r hr
  obtain rfl : r = some (.int (p_in (s 0) w)) := hr
  refine And.intro (fun h => ?_) (fun h => ?_)
  · exact fin _ _ (by rw [r_see, if_pos h]) (by rw [show q_see s w z = s by funext j; rw [q_see, if_pos h], show q_seeF s F w = F by funext j; rw [q_seeF, if_pos h]])
  · refine And.intro (fun h2 => ?_) (fun h2 => ?_)
    · have h2 : s 18 < 8 := h2
      refine And.intro ?_ ?_
      · show vp_in (s 18) 8
        rw [hn] at h2 ⊢
        exact vp_in_nI ((nI_ltI (b := 8) (by omega) (by omega)).mp h2) (by omega)
      · refine And.intro ⟨_, _, _, rfl⟩ ?_
        intro r hr
        obtain rfl : r = some (.int (p_wb (s 17) (s 18) z)) := hr
        exact fin _ _ (by rw [r_see, if_neg h, if_pos h2]) (by rw [show q_see s w z = upd (upd s 17 (p_wb (s 17) (s 18) z)) 18 (s 18 + 1) by funext j; rw [q_see, if_neg h, if_pos h2], show q_seeF s F w = va_up F 9 (upd (F 9) (s 18).toNatClampNeg w) by funext j; rw [q_seeF, if_neg h, if_pos h2]]; rfl)
    · have h2 : ¬ s 18 < 8 := h2
      exact fin _ _ (by rw [r_see, if_neg h, if_neg h2]) (by rw [show q_see s w z = s by funext j; rw [q_see, if_neg h, if_neg h2], show q_seeF s F w = F by funext j; rw [q_seeF, if_neg h, if_neg h2]])

/-! ===== WishClerk: the calls that need the book alone ===== -/
def oI (L : sH) (c k : Nat) : Int32 := match s_nth L c with
  | some (.inr (.inr (_, fs))) => vI fs k
  | _ => 0
def s_hd (L : sH) : sC := match L with
  | c :: _ => c
  | [] => .inl (0, 0, fun _ => 0)
def bG (k : Nat) (L : sH) : Nat → Nat → Int32 := fun i => bF L (k + i)
def bkK (k : Nat) (s : Nat → Int32) (F : Nat → Nat → Int32) : sH := [.inr (.inr (0, [.int (s 0), .int (s 1), .int (s 2), .int (s 3), .int (s 4), .int (s 5), .int (s 6), .ref (k + 1), .ref (k + 2), .ref (k + 3), .ref (k + 4), .ref (k + 5), .ref (k + 6), .ref (k + 7), .ref (k + 8), .int (s 15), .ref (k + 9), .int (s 17), .int (s 18)])), .inl (0, 8, F 1), .inl (0, 8, F 2), .inl (0, 8, F 3), .inl (0, 8, F 4), .inl (0, 8, F 5), .inl (0, 8, F 6), .inl (0, 8, F 7), .inl (0, 6, F 8), .inl (0, 8, F 9)]
def w1 (x0 x1 x2 x3 x4 x5 : Nat) (y7 y8 y9 : Int32) (s : Nat → Int32) (F : Nat → Nat → Int32) : sH := .inr (.inr (5, [.ref x0, .ref x1, .ref x2, .ref x3, .ref x4, .ref x5, .ref 1, .int y7, .int y8, .int y9])) :: bkK 1 s F
def w1fp (vs : sS) (L : sH) : List Nat := match vs with
  | .ref b :: _ => b :: bkP L (s_rf L b 6)
  | _ => []
theorem tab_out {x : Int32} {a b : Int} (h : x.toInt < a ∨ b < x.toInt) (k : Int32) (hk : a ≤ k.toInt ∧ k.toInt ≤ b) : ¬ x = k := by
  rintro rfl
  omega
def p_ush (x k : Int32) : Int32 := (x.toUInt32 >>> (k.toUInt32 &&& Int32.toUInt32 31)).toInt32
def p_b1 (i : Int32) : Int32 := i - (p_ush i 1 &&& 1431655765)
def p_b2 (i : Int32) : Int32 := (i &&& 858993459) + (p_ush i 2 &&& 858993459)
def p_b3 (i : Int32) : Int32 := (i + p_ush i 4) &&& 252645135
def p_b4 (i : Int32) : Int32 := i + p_ush i 8
def p_b5 (i : Int32) : Int32 := i + p_ush i 16
/-- Integer.bitCount, as it is written -/
def p_bc (i : Int32) : Int32 := p_b5 (p_b4 (p_b3 (p_b2 (p_b1 i)))) &&& 63
def c_J6_bitCount_0f7a4 : sCtr := ((yJ6_bitCount_0f7a4, cJ6_bitCount_0f7a4, 1, (some .int)), (0, 1, 0, 0), true,
  fun _ _ => [],
  fun vs _ => ∃ x : Int32, vs = [.int x],
  fun vs _ r _ => r = some (.int (p_bc (vI vs 0))))
theorem sta_J6_bitCount_0f7a4 : s_Sta c_J6_bitCount_0f7a4 := ⟨⟨by decide +kernel, by decide +kernel, by decide +kernel⟩, List.mem_of_getElem? (i := 576) (by decide +kernel), List.mem_of_getElem? (i := 75) (by decide +kernel), List.mem_of_getElem? (i := 575) (by decide +kernel)⟩

def k_J6_bitCount_0f7a4 : List sBk := [
  (0, false, [true], [o0 0 (.iload_n 0), o0 1 (.iload_n 0), oK 2 (.iconst 1) (.int 1), o0 3 .iushr, oV 4 (.ldc_w 265) [577] (.int 1431655765), o0 7 .iand, o0 8 .isub, o0 9 (.istore_n 0), o0 10 (.iload_n 0), oV 11 (.ldc_w 266) [578] (.int 858993459), o0 14 .iand, o0 15 (.iload_n 0), oK 16 (.iconst 2) (.int 2), o0 17 .iushr, oV 18 (.ldc_w 266) [578] (.int 858993459), o0 21 .iand, o0 22 .iadd, o0 23 (.istore_n 0), o0 24 (.iload_n 0), o0 25 (.iload_n 0), oK 26 (.iconst 4) (.int 4), o0 27 .iushr, o0 28 .iadd, oV 29 (.ldc_w 267) [579] (.int 252645135), o0 32 .iand, o0 33 (.istore_n 0), o0 34 (.iload_n 0), o0 35 (.iload_n 0), oK 36 (.bipush 8) (.int 8), o0 38 .iushr, o0 39 .iadd, o0 40 (.istore_n 0), o0 41 (.iload_n 0), o0 42 (.iload_n 0), oK 43 (.bipush 16) (.int 16), o0 45 .iushr, o0 46 .iadd, o0 47 (.istore_n 0), o0 48 (.iload_n 0), oK 49 (.bipush 63) (.int 63), o0 51 .iand, o0 52 .ireturn])]
set_option maxRecDepth 100000 in
theorem ck_J6_bitCount_0f7a4 : s_ck RJ6 cJ6_bitCount_0f7a4 1 0 0 k_J6_bitCount_0f7a4 = true := by decide +kernel

set_option maxRecDepth 100000 in
set_option maxHeartbeats 1000000 in
theorem ok_J6_bitCount_0f7a4 : s_Ok c_J6_bitCount_0f7a4 := by
  refine s_ok_of k_J6_bitCount_0f7a4 (by decide +kernel) sta_J6_bitCount_0f7a4 ck_J6_bitCount_0f7a4 trivial ?_
  rintro vs L ⟨x, rfl⟩
  refine ⟨rfl, fun G hG => ?_⟩
  exact hG 0 _ _ _ ⟨rfl, rfl, fun _ => rfl⟩
def r_rule (s : Nat → Int32) (x : Int32) : Int32 := if x = 0 then s 0 else if x = 1 then s 1 else if x = 2 then s 2 else if x = 3 then s 3 else if x = 4 then s 4 else if x = 5 then s 5 else if x = 6 then s 6 else if x = 7 then s 15 else -1
def c_X5_rule : sCtr := ((yX5_rule, cX5_rule, 2, (some .int)), (6, 1, 0, 0), true,
  w1fp,
  fun vs L => ∃ (x0 x1 x2 x3 x4 x5 : Nat) (y7 y8 y9 : Int32) (s : Nat → Int32) (F : Nat → Nat → Int32) (x : Int32), vs = [.ref 0, .int x] ∧ L = w1 x0 x1 x2 x3 x4 x5 y7 y8 y9 s F,
  fun vs L r _ => r = some (.int (r_rule (oI L 1) (vI vs 1))))
theorem sta_X5_rule : s_Sta c_X5_rule := ⟨⟨by decide +kernel, by decide +kernel, by decide +kernel⟩, List.mem_of_getElem? (i := 493) (by decide +kernel), List.mem_of_getElem? (i := 64) (by decide +kernel), ⟨List.mem_of_getElem? (i := 491) (by decide +kernel), List.mem_of_getElem? (i := 492) (by decide +kernel), Or.inl ⟨_, rfl, rfl⟩⟩⟩

def k_X5_rule : List sBk := [
  (0, false, [true, true], [o0 0 (.iload_n 1), oN 1 (.tableswitch 111 0 7 #[47, 55, 63, 71, 79, 87, 95, 103]) [9, 1, 2, 3, 4, 5, 6, 7, 8]]),
  (48, false, [true, false], [o0 48 (.aload_n 0), oN 49 (.getfield 49) [5, 6, 304], oN 52 (.getfield 79) [0, 0, 117], o0 55 .ireturn]),
  (56, false, [true, false], [o0 56 (.aload_n 0), oN 57 (.getfield 49) [5, 6, 304], oN 60 (.getfield 82) [0, 1, 121], o0 63 .ireturn]),
  (64, false, [true, false], [o0 64 (.aload_n 0), oN 65 (.getfield 49) [5, 6, 304], oN 68 (.getfield 85) [0, 2, 123], o0 71 .ireturn]),
  (72, false, [true, false], [o0 72 (.aload_n 0), oN 73 (.getfield 49) [5, 6, 304], oN 76 (.getfield 88) [0, 3, 127], o0 79 .ireturn]),
  (80, false, [true, false], [o0 80 (.aload_n 0), oN 81 (.getfield 49) [5, 6, 304], oN 84 (.getfield 91) [0, 4, 130], o0 87 .ireturn]),
  (88, false, [true, false], [o0 88 (.aload_n 0), oN 89 (.getfield 49) [5, 6, 304], oN 92 (.getfield 94) [0, 5, 134], o0 95 .ireturn]),
  (96, false, [true, false], [o0 96 (.aload_n 0), oN 97 (.getfield 49) [5, 6, 304], oN 100 (.getfield 97) [0, 6, 136], o0 103 .ireturn]),
  (104, false, [true, false], [o0 104 (.aload_n 0), oN 105 (.getfield 49) [5, 6, 304], oN 108 (.getfield 100) [0, 15, 164], o0 111 .ireturn]),
  (112, false, [false, false], [oK 112 (.iconst (-1)) (.int (-1)), o0 113 .ireturn])]
set_option maxRecDepth 100000 in
theorem ck_X5_rule : s_ck RX5 cX5_rule 2 0 0 k_X5_rule = true := by decide +kernel

set_option maxRecDepth 100000 in
set_option maxHeartbeats 1000000 in
theorem ok_X5_rule : s_Ok c_X5_rule := by
  refine s_ok_of k_X5_rule (by decide +kernel) sta_X5_rule ck_X5_rule trivial ?_
  rintro vs L ⟨x0, x1, x2, x3, x4, x5, y7, y8, y9, s, F, x, rfl, rfl⟩
  refine ⟨rfl, fun G hG => ?_⟩
  refine hG 0 _ _ _ (And.intro ?_ ?_)
  · refine And.intro ?_ (And.intro ?_ (And.intro ?_ (And.intro ?_ (And.intro ?_ (And.intro ?_ (And.intro ?_ (And.intro ?_ trivial)))))))
    all_goals (intro h; obtain rfl := h; exact ⟨rfl, rfl, fun _ => rfl⟩)
  · intro h
    refine ⟨rfl, ?_, fun _ => rfl⟩
    show some (Value.int (-1)) = some (Value.int (r_rule s x))
    have t := fun k hk => tab_out h k hk
    rw [r_rule, if_neg (t 0 (by decide)), if_neg (t 1 (by decide)), if_neg (t 2 (by decide)), if_neg (t 3 (by decide)), if_neg (t 4 (by decide)), if_neg (t 5 (by decide)), if_neg (t 6 (by decide)), if_neg (t 7 (by decide))]
theorem p_in_ne {n : Nat} {p : Int32} (hn : n ≤ 8) (h : ¬ p_in (nI n) p = 0) : ∃ j, j < n ∧ p = nI j := by
  unfold p_in at h
  by_cases h1 : p < 0
  · rw [if_pos h1] at h; exact absurd rfl h
  · rw [if_neg h1] at h
    by_cases h2 : p < nI n
    · obtain ⟨j, hj, rfl⟩ := nI_of h1
      exact ⟨j, (nI_ltI hj (by omega)).mp h2, rfl⟩
    · rw [if_neg h2] at h; exact absurd rfl h
def r_wish (s : Nat → Int32) (F : Nat → Nat → Int32) (w x : Int32) : Int32 := if p_in (s 1) w = 0 then -1 else if x = 0 then F 1 w.toNatClampNeg else if x = 1 then F 2 w.toNatClampNeg else if x = 2 then F 3 w.toNatClampNeg else if x = 3 then F 4 w.toNatClampNeg else if x = 4 then F 5 w.toNatClampNeg else if x = 5 then F 6 w.toNatClampNeg else if x = 6 then F 7 w.toNatClampNeg else -1
def c_X5_wish : sCtr := ((yX5_wish, cX5_wish, 3, (some .int)), (6, 2, 1, 21), true,
  w1fp,
  fun vs L => ∃ (x0 x1 x2 x3 x4 x5 : Nat) (y7 y8 y9 : Int32) (s : Nat → Int32) (F : Nat → Nat → Int32) (w x : Int32) (n : Nat), vs = [.ref 0, .int w, .int x] ∧ L = w1 x0 x1 x2 x3 x4 x5 y7 y8 y9 s F ∧ s 1 = nI n ∧ n ≤ 8,
  fun vs L r _ => r = some (.int (r_wish (oI L 1) (bG 1 L) (vI vs 1) (vI vs 2))))
theorem sta_X5_wish : s_Sta c_X5_wish := ⟨⟨by decide +kernel, by decide +kernel, by decide +kernel⟩, List.mem_of_getElem? (i := 497) (by decide +kernel), List.mem_of_getElem? (i := 64) (by decide +kernel), ⟨List.mem_of_getElem? (i := 495) (by decide +kernel), List.mem_of_getElem? (i := 496) (by decide +kernel), Or.inl ⟨_, rfl, rfl⟩⟩⟩

def k_X5_wish : List sBk := [
  (0, false, [true, true, true], [o0 0 (.aload_n 0), oN 1 (.getfield 49) [5, 6, 304], o0 4 (.iload_n 1), oC 5 (.invokevirtual 103) [498] c_X0_hasWish, oN 8 (.ifCond .ne 5) [1], oK 11 (.iconst (-1)) (.int (-1)), o0 12 .ireturn]),
  (13, false, [true, true, true], [o0 13 (.iload_n 2), oN 14 (.tableswitch 112 0 6 #[42, 52, 62, 72, 82, 92, 102]) [9, 2, 3, 4, 5, 6, 7, 8]]),
  (56, false, [true, true, false], [o0 56 (.aload_n 0), oN 57 (.getfield 49) [5, 6, 304], oN 60 (.getfield 107) [0, 7, 139], o0 63 (.iload_n 1), o0 64 .iaload, o0 65 .ireturn]),
  (66, false, [true, true, false], [o0 66 (.aload_n 0), oN 67 (.getfield 49) [5, 6, 304], oN 70 (.getfield 110) [0, 8, 142], o0 73 (.iload_n 1), o0 74 .iaload, o0 75 .ireturn]),
  (76, false, [true, true, false], [o0 76 (.aload_n 0), oN 77 (.getfield 49) [5, 6, 304], oN 80 (.getfield 113) [0, 9, 146], o0 83 (.iload_n 1), o0 84 .iaload, o0 85 .ireturn]),
  (86, false, [true, true, false], [o0 86 (.aload_n 0), oN 87 (.getfield 49) [5, 6, 304], oN 90 (.getfield 116) [0, 10, 149], o0 93 (.iload_n 1), o0 94 .iaload, o0 95 .ireturn]),
  (96, false, [true, true, false], [o0 96 (.aload_n 0), oN 97 (.getfield 49) [5, 6, 304], oN 100 (.getfield 119) [0, 11, 152], o0 103 (.iload_n 1), o0 104 .iaload, o0 105 .ireturn]),
  (106, false, [true, true, false], [o0 106 (.aload_n 0), oN 107 (.getfield 49) [5, 6, 304], oN 110 (.getfield 122) [0, 12, 156], o0 113 (.iload_n 1), o0 114 .iaload, o0 115 .ireturn]),
  (116, false, [true, true, false], [o0 116 (.aload_n 0), oN 117 (.getfield 49) [5, 6, 304], oN 120 (.getfield 125) [0, 13, 159], o0 123 (.iload_n 1), o0 124 .iaload, o0 125 .ireturn]),
  (126, false, [false, false, false], [oK 126 (.iconst (-1)) (.int (-1)), o0 127 .ireturn])]
set_option maxRecDepth 100000 in
theorem ck_X5_wish : s_ck RX5 cX5_wish 3 1 21 k_X5_wish = true := by decide +kernel

set_option maxRecDepth 100000 in
set_option maxHeartbeats 1000000 in
theorem ok_X5_wish : s_Ok c_X5_wish := by
  refine s_ok_of k_X5_wish (by decide +kernel) sta_X5_wish ck_X5_wish (And.intro ok_X0_hasWish trivial) ?_
  rintro vs L ⟨x0, x1, x2, x3, x4, x5, y7, y8, y9, s, F, w, x, n, rfl, rfl, hn, hn8⟩
  refine ⟨rfl, fun G hG => ?_⟩
  have fin : ∀ a : Int32, a = r_wish s F w x → s_PP (some .int) true c_X5_wish.2.2.2.2.2 [.ref 0, .int w, .int x] (w1 x0 x1 x2 x3 x4 x5 y7 y8 y9 s F) (some (.int a)) (w1 x0 x1 x2 x3 x4 x5 y7 y8 y9 s F) := fun a ha => ⟨rfl, by rw [ha]; rfl, fun _ => rfl⟩
  refine hG 0 _ _ _ (And.intro ⟨_, _, _, _, rfl, rfl⟩ ?_)
  intro r hr
  obtain rfl : r = some (.int (p_in (s 1) w)) := hr
  refine And.intro (fun h => ?_) (fun h => ?_)
  · exact fin _ (by rw [r_wish, if_pos h])
  · have h' := h
    rw [hn] at h
    obtain ⟨j, hj, rfl⟩ := p_in_ne hn8 h
    have hin : vp_in (nI j) 8 := vp_in_nI (by omega) (by omega)
    refine And.intro ?_ ?_
    · refine And.intro ?_ (And.intro ?_ (And.intro ?_ (And.intro ?_ (And.intro ?_ (And.intro ?_ (And.intro ?_ trivial))))))
      all_goals (intro hx; obtain rfl := hx; exact And.intro hin (fin _ (by rw [r_wish, if_neg h']; rfl)))
    · intro hx
      have t := fun k hk => tab_out hx k hk
      exact fin _ (by rw [r_wish, if_neg h', if_neg (t 0 (by decide)), if_neg (t 1 (by decide)), if_neg (t 2 (by decide)), if_neg (t 3 (by decide)), if_neg (t 4 (by decide)), if_neg (t 5 (by decide)), if_neg (t 6 (by decide))])
def r_plan (s : Nat → Int32) (F : Nat → Nat → Int32) (i : Int32) : Int32 := if i < 0 then -1 else if i < s 15 then F 8 i.toNatClampNeg else -1
def c_X5_plan : sCtr := ((yX5_plan, cX5_plan, 2, (some .int)), (6, 1, 0, 0), true,
  w1fp,
  fun vs L => ∃ (x0 x1 x2 x3 x4 x5 : Nat) (y7 y8 y9 : Int32) (s : Nat → Int32) (F : Nat → Nat → Int32) (i : Int32) (n : Nat), vs = [.ref 0, .int i] ∧ L = w1 x0 x1 x2 x3 x4 x5 y7 y8 y9 s F ∧ s 15 = nI n ∧ n ≤ 6,
  fun vs L r _ => r = some (.int (r_plan (oI L 1) (bG 1 L) (vI vs 1))))
theorem sta_X5_plan : s_Sta c_X5_plan := ⟨⟨by decide +kernel, by decide +kernel, by decide +kernel⟩, List.mem_of_getElem? (i := 505) (by decide +kernel), List.mem_of_getElem? (i := 64) (by decide +kernel), ⟨List.mem_of_getElem? (i := 503) (by decide +kernel), List.mem_of_getElem? (i := 504) (by decide +kernel), Or.inl ⟨_, rfl, rfl⟩⟩⟩

def k_X5_plan : List sBk := [
  (0, false, [true, true], [o0 0 (.iload_n 1), oN 1 (.ifCond .lt 14) [1], o0 4 (.iload_n 1), o0 5 (.aload_n 0), oN 6 (.getfield 49) [5, 6, 304], oN 9 (.getfield 100) [0, 15, 164], oN 12 (.if_icmp .lt 7) [2], oN 15 .nop [1]]),
  (15, false, [false, false], [oK 15 (.iconst (-1)) (.int (-1)), oN 16 (.goto 12) [3]]),
  (19, false, [true, true], [o0 19 (.aload_n 0), oN 20 (.getfield 49) [5, 6, 304], oN 23 (.getfield 128) [0, 14, 161], o0 26 (.iload_n 1), o0 27 .iaload, oN 28 .nop [3]]),
  (28, false, [false, false], [o0 28 .ireturn])]
set_option maxRecDepth 100000 in
theorem ck_X5_plan : s_ck RX5 cX5_plan 2 0 0 k_X5_plan = true := by decide +kernel

set_option maxRecDepth 100000 in
set_option maxHeartbeats 1000000 in
theorem ok_X5_plan : s_Ok c_X5_plan := by
  refine s_ok_of k_X5_plan (by decide +kernel) sta_X5_plan ck_X5_plan trivial ?_
  rintro vs L ⟨x0, x1, x2, x3, x4, x5, y7, y8, y9, s, F, i, n, rfl, rfl, hn, hn8⟩
  refine ⟨rfl, fun G hG => ?_⟩
  have fin : ∀ a : Int32, a = r_plan s F i → s_PP (some .int) true c_X5_plan.2.2.2.2.2 [.ref 0, .int i] (w1 x0 x1 x2 x3 x4 x5 y7 y8 y9 s F) (some (.int a)) (w1 x0 x1 x2 x3 x4 x5 y7 y8 y9 s F) := fun a ha => ⟨rfl, by rw [ha]; rfl, fun _ => rfl⟩
  refine hG 0 _ _ _ (And.intro (fun h => ?_) (fun h => ?_))
  · exact fin _ (by rw [r_plan, if_pos h])
  · refine And.intro (fun h2 => ?_) (fun h2 => ?_)
    · have h2 : i < s 15 := h2
      have h3 := h2
      rw [hn] at h3
      obtain ⟨j, hj, rfl⟩ := nI_of h
      have hj2 := (nI_ltI hj (by omega)).mp h3
      exact And.intro (vp_in_nI (by omega) (by omega)) (fin _ (by rw [r_plan, if_neg h, if_pos h2]))
    · have h2 : ¬ i < s 15 := h2
      exact fin _ (by rw [r_plan, if_neg h, if_neg h2])

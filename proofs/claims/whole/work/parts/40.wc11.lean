/-! ===== WishClerk: counts, images ===== -/
def w6 (x1 x2 x3 x5 xb xc a1 a2 a3 : Nat) (y7 y8 y9 tl l0 z0 : Int32) (s : Nat → Int32) (F : Nat → Nat → Int32) : sH := .inr (.inr (5, [.ref 11, .ref x1, .ref x2, .ref x3, .ref 12, .ref x5, .ref 1, .int y7, .int y8, .int y9])) :: (bkK 1 s F ++ [.inr (.inr (4, [.ref xb, .int tl])), .inr (.inl (4, [some 13, some a1, some a2, some a3])), .inr (.inr (3, [.ref xc, .int l0, .int z0]))])
def w6fp (vs : sS) (L : sH) : List Nat := match vs with
  | .ref b :: _ => b :: (bkP L (s_rf L b 6) ++ [s_rf L b 0, s_rf L b 4, s_ra L (s_rf L b 4) 0])
  | _ => []
def r_count (s : Nat → Int32) (y7 tl l0 z0 x : Int32) : Int32 := if x = 0 then p_bc (s 3) else if x = 1 then p_bc (s 5) else if x = 2 then s 18 else if x = 3 then p_bc y7 else if x = 4 then tl else if x = 5 then (if l0 = -1 then -4 else z0) else if x = 6 then p_bc (s 6) else if x = 7 then p_bc (s 4) else -1
def c_X5_count : sCtr := ((yX5_count, cX5_count, 2, (some .int)), (6, 1, 1, 20), true,
  w6fp,
  fun vs L => ∃ (x1 x2 x3 x5 xb xc a1 a2 a3 : Nat) (y7 y8 y9 tl l0 z0 : Int32) (s : Nat → Int32) (F : Nat → Nat → Int32) (x : Int32), vs = [.ref 0, .int x] ∧ L = w6 x1 x2 x3 x5 xb xc a1 a2 a3 y7 y8 y9 tl l0 z0 s F,
  fun vs L r _ => r = some (.int (r_count (oI L 1) (oI L 0 7) (oI L 11 1) (oI L 13 1) (oI L 13 2) (vI vs 1))))
theorem sta_X5_count : s_Sta c_X5_count := ⟨⟨by decide +kernel, by decide +kernel, by decide +kernel⟩, List.mem_of_getElem? (i := 806) (by decide +kernel), List.mem_of_getElem? (i := 64) (by decide +kernel), ⟨List.mem_of_getElem? (i := 804) (by decide +kernel), List.mem_of_getElem? (i := 805) (by decide +kernel), Or.inl ⟨_, rfl, rfl⟩⟩⟩

def k_X5_count : List sBk := [
  (0, false, [true, true], [o0 0 (.iload_n 1), oN 1 (.tableswitch 142 0 7 #[47, 58, 69, 77, 85, 93, 120, 131]) [11, 1, 2, 3, 4, 5, 6, 9, 10]]),
  (48, false, [true, false], [o0 48 (.aload_n 0), oN 49 (.getfield 49) [5, 6, 304], oN 52 (.getfield 88) [0, 3, 127], oC 55 (.invokestatic 160) [574] c_J6_bitCount_0f7a4, o0 58 .ireturn]),
  (59, false, [true, false], [o0 59 (.aload_n 0), oN 60 (.getfield 49) [5, 6, 304], oN 63 (.getfield 94) [0, 5, 134], oC 66 (.invokestatic 160) [574] c_J6_bitCount_0f7a4, o0 69 .ireturn]),
  (70, false, [true, false], [o0 70 (.aload_n 0), oN 71 (.getfield 49) [5, 6, 304], oN 74 (.getfield 220) [0, 18, 171], o0 77 .ireturn]),
  (78, false, [true, false], [o0 78 (.aload_n 0), oN 79 (.getfield 76) [5, 7, 305], oC 82 (.invokestatic 160) [574] c_J6_bitCount_0f7a4, o0 85 .ireturn]),
  (86, false, [true, false], [o0 86 (.aload_n 0), oN 87 (.getfield 12) [5, 0, 298], oN 90 (.getfield 54) [4, 1, 95], o0 93 .ireturn]),
  (94, false, [true, false], [o0 94 (.aload_n 0), oN 95 (.getfield 40) [5, 4, 302], oK 98 (.iconst 0) (.int 0), o0 99 .aaload, oC 100 (.invokevirtual 276) [807] c_X3_isNothing, oN 103 (.ifCond .eq 8) [7], oK 106 (.bipush (-4)) (.int (-4)), oN 108 (.goto 12) [8]]),
  (111, false, [true, false], [o0 111 (.aload_n 0), oN 112 (.getfield 40) [5, 4, 302], oK 115 (.iconst 0) (.int 0), o0 116 .aaload, oN 117 (.getfield 280) [3, 2, 290], oN 120 .nop [8]]),
  (120, false, [false, false], [o0 120 .ireturn]),
  (121, false, [true, false], [o0 121 (.aload_n 0), oN 122 (.getfield 49) [5, 6, 304], oN 125 (.getfield 97) [0, 6, 136], oC 128 (.invokestatic 160) [574] c_J6_bitCount_0f7a4, o0 131 .ireturn]),
  (132, false, [true, false], [o0 132 (.aload_n 0), oN 133 (.getfield 49) [5, 6, 304], oN 136 (.getfield 91) [0, 4, 130], oC 139 (.invokestatic 160) [574] c_J6_bitCount_0f7a4, o0 142 .ireturn]),
  (143, false, [false, false], [oK 143 (.iconst (-1)) (.int (-1)), o0 144 .ireturn])]
set_option maxRecDepth 100000 in
theorem ck_X5_count : s_ck RX5 cX5_count 2 1 20 k_X5_count = true := by decide +kernel

set_option maxRecDepth 100000 in
set_option maxHeartbeats 1000000 in
theorem ok_X5_count : s_Ok c_X5_count := by
  refine s_ok_of k_X5_count (by decide +kernel) sta_X5_count ck_X5_count (And.intro ok_J6_bitCount_0f7a4 (And.intro ok_J6_bitCount_0f7a4 (And.intro ok_J6_bitCount_0f7a4 (And.intro ok_X3_isNothing (And.intro ok_J6_bitCount_0f7a4 (And.intro ok_J6_bitCount_0f7a4 trivial)))))) ?_
  rintro vs L ⟨x1, x2, x3, x5, xb, xc, a1, a2, a3, y7, y8, y9, tl, l0, z0, s, F, x, rfl, rfl⟩
  refine ⟨rfl, fun G hG => ?_⟩
  have fin : ∀ a : Int32, a = r_count s y7 tl l0 z0 x → s_PP (some .int) true c_X5_count.2.2.2.2.2 [.ref 0, .int x] (w6 x1 x2 x3 x5 xb xc a1 a2 a3 y7 y8 y9 tl l0 z0 s F) (some (.int a)) (w6 x1 x2 x3 x5 xb xc a1 a2 a3 y7 y8 y9 tl l0 z0 s F) := fun a ha => ⟨rfl, by rw [ha]; rfl, fun _ => rfl⟩
  have bc : ∀ (v : Int32) (r : Option Value), r = some (.int (p_bc v)) → p_bc v = r_count s y7 tl l0 z0 x → r = some (.int (r_count s y7 tl l0 z0 x)) := fun v r h1 h2 => by rw [h1, h2]
  refine hG 0 _ _ _ (And.intro ?_ ?_)
  · refine And.intro ?_ (And.intro ?_ (And.intro ?_ (And.intro ?_ (And.intro ?_ (And.intro ?_ (And.intro ?_ (And.intro ?_ trivial)))))))
    · intro h; obtain rfl := h
      refine And.intro ⟨_, rfl⟩ ?_
      intro r hr
      obtain rfl : r = some (.int (p_bc (s 3))) := hr
      exact fin _ rfl
    · intro h; obtain rfl := h
      refine And.intro ⟨_, rfl⟩ ?_
      intro r hr
      obtain rfl : r = some (.int (p_bc (s 5))) := hr
      exact fin _ rfl
    · intro h; obtain rfl := h
      exact fin _ rfl
    · intro h; obtain rfl := h
      refine And.intro ⟨_, rfl⟩ ?_
      intro r hr
      obtain rfl : r = some (.int (p_bc y7)) := hr
      exact fin _ rfl
    · intro h; obtain rfl := h
      exact fin _ rfl
    · intro h; obtain rfl := h
      refine And.intro (vp_in_nI (n := 0) (N := 4) (by decide) (by decide)) (And.intro ⟨_, _, _, rfl, rfl⟩ ?_)
      intro r hr
      obtain rfl : r = some (.int (if l0 = -1 then 1 else 0)) := hr
      by_cases h : l0 = -1
      · refine And.intro (fun q => ?_) (fun _ => ?_)
        · rw [if_pos h] at q; exact absurd q (by decide)
        · exact fin _ (by show -4 = (if l0 = -1 then -4 else z0); rw [if_pos h])
      · refine And.intro (fun _ => ?_) (fun q => ?_)
        · exact And.intro (vp_in_nI (n := 0) (N := 4) (by decide) (by decide)) (fin _ (by show z0 = (if l0 = -1 then -4 else z0); rw [if_neg h]))
        · rw [if_neg h] at q; exact absurd rfl q
    · intro h; obtain rfl := h
      refine And.intro ⟨_, rfl⟩ ?_
      intro r hr
      obtain rfl : r = some (.int (p_bc (s 6))) := hr
      exact fin _ rfl
    · intro h; obtain rfl := h
      refine And.intro ⟨_, rfl⟩ ?_
      intro r hr
      obtain rfl : r = some (.int (p_bc (s 4))) := hr
      exact fin _ rfl
  · intro h
    have t := fun k hk => tab_out h k hk
    exact fin _ (by rw [r_count, if_neg (t 0 (by decide)), if_neg (t 1 (by decide)), if_neg (t 2 (by decide)), if_neg (t 3 (by decide)), if_neg (t 4 (by decide)), if_neg (t 5 (by decide)), if_neg (t 6 (by decide)), if_neg (t 7 (by decide))])
def w7 (x0 x1 x2 x4 x5 : Nat) (y7 y8 y9 : Int32) (s s0 s1 : Nat → Int32) (F F0 F1 : Nat → Nat → Int32) : sH := .inr (.inr (5, [.ref x0, .ref x1, .ref x2, .ref 11, .ref x4, .ref x5, .ref 1, .int y7, .int y8, .int y9])) :: (bkK 1 s F ++ .inr (.inl (3, [some 12, some 22])) :: (bkK 12 s0 F0 ++ bkK 22 s1 F1))
def w7fp (vs : sS) (L : sH) : List Nat := match vs with
  | .ref b :: _ => b :: (bkP L (s_rf L b 6) ++ s_rf L b 3 :: (bkP L (s_ra L (s_rf L b 3) 0) ++ bkP L (s_ra L (s_rf L b 3) 1)))
  | _ => []
def r_keep (y7 k : Int32) : Int32 := if k < 0 then -1 else if k < 2 then (y7 >>> (k &&& 31)) &&& 1 else -1
def q_kept (y7 k : Int32) : Int32 := if k < 0 then y7 else if k < 2 then y7 ||| ((1 : Int32) <<< (k &&& 31)) else y7
/-- image i behind keep(k) -/
def q_keepS (k i : Int32) (s s0 : Nat → Int32) : Nat → Int32 := fun j => if k = i then s j else s0 j
def q_keepF (k i : Int32) (F F0 : Nat → Nat → Int32) : Nat → Nat → Int32 := fun j => if k = i then p_cpB F0 F j else F0 j
def s_r7 (c : sC) (v : Int32) : sC := match c with
  | .inr (.inr (a, fs)) => .inr (.inr (a, s_set fs 7 (.int v)))
  | x => x
def c_X5_keep : sCtr := ((yX5_keep, cX5_keep, 3, (some .int)), (6, 1, 2, 65), false,
  w7fp,
  fun vs L => ∃ (x0 x1 x2 x4 x5 : Nat) (y7 y8 y9 : Int32) (s s0 s1 : Nat → Int32) (F F0 F1 : Nat → Nat → Int32) (k : Int32), vs = [.ref 0, .int k] ∧ L = w7 x0 x1 x2 x4 x5 y7 y8 y9 s s0 s1 F F0 F1,
  fun vs L r L' => r = some (.int (r_keep (oI L 0 7) (vI vs 1))) ∧ L' = s_r7 (s_hd L) (q_kept (oI L 0 7) (vI vs 1)) :: (bkK 1 (oI L 1) (bG 1 L) ++ .inr (.inl (3, [some 12, some 22])) :: (bkK 12 (q_keepS (vI vs 1) 0 (oI L 1) (oI L 12)) (q_keepF (vI vs 1) 0 (bG 1 L) (bG 12 L)) ++ bkK 22 (q_keepS (vI vs 1) 1 (oI L 1) (oI L 22)) (q_keepF (vI vs 1) 1 (bG 1 L) (bG 22 L)))))
theorem sta_X5_keep : s_Sta c_X5_keep := ⟨⟨by decide +kernel, by decide +kernel, by decide +kernel⟩, List.mem_of_getElem? (i := 758) (by decide +kernel), List.mem_of_getElem? (i := 64) (by decide +kernel), ⟨List.mem_of_getElem? (i := 756) (by decide +kernel), List.mem_of_getElem? (i := 757) (by decide +kernel), Or.inl ⟨_, rfl, rfl⟩⟩⟩

def k_X5_keep : List sBk := [
  (0, false, [true, true, false], [o0 0 (.iload_n 1), oN 1 (.ifCond .lt 8) [1], o0 4 (.iload_n 1), oK 5 (.iconst 2) (.int 2), oN 6 (.if_icmp .lt 5) [2], oN 9 .nop [1]]),
  (9, false, [false, false, false], [oK 9 (.iconst (-1)) (.int (-1)), o0 10 .ireturn]),
  (11, false, [true, true, false], [o0 11 (.aload_n 0), oN 12 (.getfield 76) [5, 7, 305], o0 15 (.iload_n 1), oC 16 (.invokestatic 134) [514] c_X5_bitOf, o0 19 (.istore_n 2), o0 20 (.aload_n 0), oN 21 (.getfield 34) [5, 3, 301], o0 24 (.iload_n 1), o0 25 .aaload, o0 26 (.aload_n 0), oN 27 (.getfield 49) [5, 6, 304], oC 30 (.invokevirtual 250) [759] c_X0_copyFrom, o0 33 (.aload_n 0), o0 34 .dup, oN 35 (.getfield 76) [5, 7, 305], oK 38 (.iconst 1) (.int 1), o0 39 (.iload_n 1), o0 40 .ishl, o0 41 .ior, oN 42 (.putfield 76) [5, 7, 305], o0 45 (.iload_n 2), o0 46 .ireturn])]
set_option maxRecDepth 100000 in
theorem ck_X5_keep : s_ck RX5 cX5_keep 3 2 65 k_X5_keep = true := by decide +kernel

set_option maxRecDepth 100000 in
set_option maxHeartbeats 1000000 in
theorem ok_X5_keep : s_Ok c_X5_keep := by
  refine s_ok_of k_X5_keep (by decide +kernel) sta_X5_keep ck_X5_keep (And.intro ok_X5_bitOf (And.intro ok_X0_copyFrom trivial)) ?_
  rintro vs L ⟨x0, x1, x2, x4, x5, y7, y8, y9, s, s0, s1, F, F0, F1, k, rfl, rfl⟩
  refine ⟨rfl, fun G hG => ?_⟩
  have fin : ∀ (a : Int32) (L2 : sH), a = r_keep y7 k → L2 = w7 x0 x1 x2 x4 x5 (q_kept y7 k) y8 y9 s (q_keepS k 0 s s0) (q_keepS k 1 s s1) F (q_keepF k 0 F F0) (q_keepF k 1 F F1) → s_PP (some .int) false c_X5_keep.2.2.2.2.2 [.ref 0, .int k] (w7 x0 x1 x2 x4 x5 y7 y8 y9 s s0 s1 F F0 F1) (some (.int a)) L2 := fun a L2 ha hL => ⟨rfl, ⟨by rw [ha]; rfl, by rw [hL]; rfl⟩, fun h => by cases h⟩
  have no : ∀ i : Int32, ¬ k = i → (∀ s s0, q_keepS k i s s0 = s0) ∧ ∀ F F0, q_keepF k i F F0 = F0 := fun i hi => ⟨fun s s0 => by funext j; rw [q_keepS, if_neg hi], fun F F0 => by funext j; rw [q_keepF, if_neg hi]⟩
  refine hG 0 _ _ _ (And.intro (fun h => ?_) (fun h => ?_))
  · have k0 : ¬ k = 0 := by rintro rfl; exact absurd h (by decide)
    have k1 : ¬ k = 1 := by rintro rfl; exact absurd h (by decide)
    exact fin _ _ (by rw [r_keep, if_pos h]) (by rw [q_kept, if_pos h, (no 0 k0).1, (no 0 k0).2, (no 1 k1).1, (no 1 k1).2])
  refine And.intro (fun h2 => ?_) (fun h2 => ?_)
  rotate_left
  · have k0 : ¬ k = 0 := by rintro rfl; exact absurd (by decide) h2
    have k1 : ¬ k = 1 := by rintro rfl; exact absurd (by decide) h2
    exact fin _ _ (by rw [r_keep, if_neg h, if_neg h2]) (by rw [q_kept, if_neg h, if_neg h2, (no 0 k0).1, (no 0 k0).2, (no 1 k1).1, (no 1 k1).2])
  refine And.intro ⟨_, _, rfl⟩ ?_
  intro r hr
  obtain rfl : r = some (.int ((y7 >>> (k &&& 31)) &&& 1)) := hr
  have h01 : k = 0 ∨ k = 1 := by
    obtain ⟨j, hj, rfl⟩ := nI_of h
    have := (nI_ltI (b := 2) hj (by omega)).mp h2
    rcases (show j = 0 ∨ j = 1 by omega) with rfl | rfl
    · exact Or.inl rfl
    · exact Or.inr rfl
  rcases h01 with rfl | rfl
  · refine And.intro (vp_in_nI (n := 0) (N := 2) (by decide) (by decide)) (And.intro ⟨s0, s, F0, F, rfl, rfl⟩ ?_)
    rintro r L' ⟨rfl, hL⟩
    obtain rfl : L' = bkW s (p_cpB F0 F) ++ bkV s F := hL
    refine fin _ _ (by rw [r_keep, if_neg h, if_pos h2]) ?_
    rw [q_kept, if_neg h, if_pos h2, (no 1 (by decide)).1, (no 1 (by decide)).2]
    rfl
  · refine And.intro (vp_in_nI (n := 1) (N := 2) (by decide) (by decide)) (And.intro ⟨s1, s, F1, F, rfl, rfl⟩ ?_)
    rintro r L' ⟨rfl, hL⟩
    obtain rfl : L' = bkW s (p_cpB F1 F) ++ bkV s F := hL
    refine fin _ _ (by rw [r_keep, if_neg h, if_pos h2]) ?_
    rw [q_kept, if_neg h, if_pos h2, (no 0 (by decide)).1, (no 0 (by decide)).2]
    rfl
def r_back (y7 k : Int32) (s0 s1 : Nat → Int32) : Int32 := if k < 0 then -1 else if k < 2 then (if p_hb y7 k = 0 then -2 else if k = 0 then s0 5 else s1 5) else -1
def q_backS (y7 k : Int32) (s s0 s1 : Nat → Int32) : Nat → Int32 := fun j => if k < 0 then s j else if k < 2 then (if p_hb y7 k = 0 then s j else if k = 0 then s0 j else s1 j) else s j
def q_backF (y7 k : Int32) (F F0 F1 : Nat → Nat → Int32) : Nat → Nat → Int32 := fun j => if k < 0 then F j else if k < 2 then (if p_hb y7 k = 0 then F j else if k = 0 then p_cpB F F0 j else p_cpB F F1 j) else F j
def c_X5_back : sCtr := ((yX5_back, cX5_back, 2, (some .int)), (6, 1, 2, 65), false,
  w7fp,
  fun vs L => ∃ (x0 x1 x2 x4 x5 : Nat) (y7 y8 y9 : Int32) (s s0 s1 : Nat → Int32) (F F0 F1 : Nat → Nat → Int32) (k : Int32), vs = [.ref 0, .int k] ∧ L = w7 x0 x1 x2 x4 x5 y7 y8 y9 s s0 s1 F F0 F1,
  fun vs L r L' => r = some (.int (r_back (oI L 0 7) (vI vs 1) (oI L 12) (oI L 22))) ∧ L' = s_hd L :: (bkK 1 (q_backS (oI L 0 7) (vI vs 1) (oI L 1) (oI L 12) (oI L 22)) (q_backF (oI L 0 7) (vI vs 1) (bG 1 L) (bG 12 L) (bG 22 L)) ++ .inr (.inl (3, [some 12, some 22])) :: (bkK 12 (oI L 12) (bG 12 L) ++ bkK 22 (oI L 22) (bG 22 L))))
theorem sta_X5_back : s_Sta c_X5_back := ⟨⟨by decide +kernel, by decide +kernel, by decide +kernel⟩, List.mem_of_getElem? (i := 769) (by decide +kernel), List.mem_of_getElem? (i := 64) (by decide +kernel), ⟨List.mem_of_getElem? (i := 767) (by decide +kernel), List.mem_of_getElem? (i := 768) (by decide +kernel), Or.inl ⟨_, rfl, rfl⟩⟩⟩

def k_X5_back : List sBk := [
  (0, false, [true, true], [o0 0 (.iload_n 1), oN 1 (.ifCond .lt 8) [1], o0 4 (.iload_n 1), oK 5 (.iconst 2) (.int 2), oN 6 (.if_icmp .lt 5) [2], oN 9 .nop [1]]),
  (9, false, [false, false], [oK 9 (.iconst (-1)) (.int (-1)), o0 10 .ireturn]),
  (11, false, [true, true], [o0 11 (.aload_n 0), oN 12 (.getfield 76) [5, 7, 305], o0 15 (.iload_n 1), oC 16 (.invokestatic 157) [573] c_X5_hasBit, oN 19 (.ifCond .ne 6) [3], oK 22 (.bipush (-2)) (.int (-2)), o0 24 .ireturn]),
  (25, false, [true, true], [o0 25 (.aload_n 0), oN 26 (.getfield 49) [5, 6, 304], o0 29 (.aload_n 0), oN 30 (.getfield 34) [5, 3, 301], o0 33 (.iload_n 1), o0 34 .aaload, oC 35 (.invokevirtual 250) [759] c_X0_copyFrom, o0 38 (.aload_n 0), oN 39 (.getfield 49) [5, 6, 304], oN 42 (.getfield 94) [0, 5, 134], o0 45 .ireturn])]
set_option maxRecDepth 100000 in
theorem ck_X5_back : s_ck RX5 cX5_back 2 2 65 k_X5_back = true := by decide +kernel

set_option maxRecDepth 100000 in
set_option maxHeartbeats 1000000 in
theorem ok_X5_back : s_Ok c_X5_back := by
  refine s_ok_of k_X5_back (by decide +kernel) sta_X5_back ck_X5_back (And.intro ok_X5_hasBit (And.intro ok_X0_copyFrom trivial)) ?_
  rintro vs L ⟨x0, x1, x2, x4, x5, y7, y8, y9, s, s0, s1, F, F0, F1, k, rfl, rfl⟩
  refine ⟨rfl, fun G hG => ?_⟩
  have fin : ∀ (a : Int32) (L2 : sH), a = r_back y7 k s0 s1 → L2 = w7 x0 x1 x2 x4 x5 y7 y8 y9 (q_backS y7 k s s0 s1) s0 s1 (q_backF y7 k F F0 F1) F0 F1 → s_PP (some .int) false c_X5_back.2.2.2.2.2 [.ref 0, .int k] (w7 x0 x1 x2 x4 x5 y7 y8 y9 s s0 s1 F F0 F1) (some (.int a)) L2 := fun a L2 ha hL => ⟨rfl, ⟨by rw [ha]; rfl, by rw [hL]; rfl⟩, fun h => by cases h⟩
  refine hG 0 _ _ _ (And.intro (fun h => ?_) (fun h => ?_))
  · exact fin _ _ (by rw [r_back, if_pos h]) (by rw [show q_backS y7 k s s0 s1 = s by funext j; rw [q_backS, if_pos h], show q_backF y7 k F F0 F1 = F by funext j; rw [q_backF, if_pos h]])
  refine And.intro (fun h2 => ?_) (fun h2 => ?_)
  rotate_left
  · exact fin _ _ (by rw [r_back, if_neg h, if_neg h2]) (by rw [show q_backS y7 k s s0 s1 = s by funext j; rw [q_backS, if_neg h, if_neg h2], show q_backF y7 k F F0 F1 = F by funext j; rw [q_backF, if_neg h, if_neg h2]])
  refine And.intro ⟨_, _, rfl⟩ ?_
  intro r hr
  obtain rfl : r = some (.int (p_hb y7 k)) := hr
  refine And.intro (fun h3 => ?_) (fun h3 => ?_)
  · exact fin _ _ (by rw [r_back, if_neg h, if_pos h2, if_pos h3]) (by rw [show q_backS y7 k s s0 s1 = s by funext j; rw [q_backS, if_neg h, if_pos h2, if_pos h3], show q_backF y7 k F F0 F1 = F by funext j; rw [q_backF, if_neg h, if_pos h2, if_pos h3]])
  have h01 : k = 0 ∨ k = 1 := by
    obtain ⟨j, hj, rfl⟩ := nI_of h
    have := (nI_ltI (b := 2) hj (by omega)).mp h2
    rcases (show j = 0 ∨ j = 1 by omega) with rfl | rfl
    · exact Or.inl rfl
    · exact Or.inr rfl
  rcases h01 with rfl | rfl
  · refine And.intro (vp_in_nI (n := 0) (N := 2) (by decide) (by decide)) (And.intro ⟨s, s0, F, F0, rfl, rfl⟩ ?_)
    rintro r L' ⟨rfl, hL⟩
    obtain rfl : L' = bkW s0 (p_cpB F F0) ++ bkV s0 F0 := hL
    refine fin _ _ (by rw [r_back, if_neg h, if_pos h2, if_neg h3]; rfl) ?_
    rw [show q_backS y7 0 s s0 s1 = s0 by funext j; rw [q_backS, if_neg h, if_pos h2, if_neg h3, if_pos rfl], show q_backF y7 0 F F0 F1 = p_cpB F F0 by funext j; rw [q_backF, if_neg h, if_pos h2, if_neg h3, if_pos rfl]]
    rfl
  · refine And.intro (vp_in_nI (n := 1) (N := 2) (by decide) (by decide)) (And.intro ⟨s, s1, F, F1, rfl, rfl⟩ ?_)
    rintro r L' ⟨rfl, hL⟩
    obtain rfl : L' = bkW s1 (p_cpB F F1) ++ bkV s1 F1 := hL
    refine fin _ _ (by rw [r_back, if_neg h, if_pos h2, if_neg h3]; rfl) ?_
    rw [show q_backS y7 1 s s0 s1 = s1 by funext j; rw [q_backS, if_neg h, if_pos h2, if_neg h3, if_neg (by decide)], show q_backF y7 1 F F0 F1 = p_cpB F F1 by funext j; rw [q_backF, if_neg h, if_pos h2, if_neg h3, if_neg (by decide)]]
    rfl

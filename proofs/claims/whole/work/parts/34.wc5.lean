/-! ===== WishClerk: sets ===== -/
theorem p_2n : ∀ n, n < 32 → ((1 : Int32) <<< (nI n &&& 31)) = nI (2 ^ n) := by decide +kernel
theorem p_2le : ∀ n, n ≤ 8 → 2 ^ n ≤ 256 := by decide
def p_ss (x z : Int32) : Int32 := if x < 0 then x else if z = 1 then x else p_bc x
def c_X5_sizeOrSet : sCtr := ((yX5_sizeOrSet, cX5_sizeOrSet, 2, (some .int)), (0, 2, 1, 20), true,
  fun _ _ => [],
  fun vs _ => ∃ x z : Int32, vs = [.int x, .int z],
  fun vs _ r _ => r = some (.int (p_ss (vI vs 0) (vI vs 1))))
theorem sta_X5_sizeOrSet : s_Sta c_X5_sizeOrSet := ⟨⟨by decide +kernel, by decide +kernel, by decide +kernel⟩, List.mem_of_getElem? (i := 665) (by decide +kernel), List.mem_of_getElem? (i := 64) (by decide +kernel), List.mem_of_getElem? (i := 664) (by decide +kernel)⟩

def k_X5_sizeOrSet : List sBk := [
  (0, false, [true, true], [o0 0 (.iload_n 0), oN 1 (.ifCond .lt 8) [1], o0 4 (.iload_n 1), oK 5 (.iconst 1) (.int 1), oN 6 (.if_icmp .ne 7) [2], oN 9 .nop [1]]),
  (9, false, [true, false], [o0 9 (.iload_n 0), oN 10 (.goto 7) [3]]),
  (13, false, [true, false], [o0 13 (.iload_n 0), oC 14 (.invokestatic 160) [574] c_J6_bitCount_0f7a4, oN 17 .nop [3]]),
  (17, false, [false, false], [o0 17 .ireturn])]
set_option maxRecDepth 100000 in
theorem ck_X5_sizeOrSet : s_ck RX5 cX5_sizeOrSet 2 1 20 k_X5_sizeOrSet = true := by decide +kernel

set_option maxRecDepth 100000 in
set_option maxHeartbeats 1000000 in
theorem ok_X5_sizeOrSet : s_Ok c_X5_sizeOrSet := by
  refine s_ok_of k_X5_sizeOrSet (by decide +kernel) sta_X5_sizeOrSet ck_X5_sizeOrSet (And.intro ok_J6_bitCount_0f7a4 trivial) ?_
  rintro vs L ⟨x, z, rfl⟩
  refine ⟨rfl, fun G hG => ?_⟩
  have fin : ∀ a : Int32, a = p_ss x z → s_PP (some .int) true c_X5_sizeOrSet.2.2.2.2.2 [.int x, .int z] L (some (.int a)) L := fun a ha => ⟨rfl, by rw [ha]; rfl, fun _ => rfl⟩
  refine hG 0 _ _ _ (And.intro (fun h => ?_) (fun h => ?_))
  · exact fin _ (by rw [p_ss, if_pos h])
  · refine And.intro (fun h2 => ?_) (fun h2 => ?_)
    · exact fin _ (by rw [p_ss, if_neg h, if_pos h2])
    · refine And.intro ⟨_, rfl⟩ ?_
      intro r hr
      obtain rfl : r = some (.int (p_bc x)) := hr
      exact fin _ (by rw [p_ss, if_neg h, if_neg h2])
def p_lcS (cl fo : Nat → Int32) (n : Nat) (g b : Int32) : Int32 := if b < 0 ∨ p_bc g < p_bc b then (if p_ga cl n (p_ga fo n g) &&& p_ga fo n g = 0 then b else g) else b
def p_lc (cl fo : Nat → Int32) (n : Nat) : Nat → Int32
  | 0 => -4
  | k + 1 => p_lcS cl fo n (nI k) (p_lc cl fo n k)
def c_X5_leastClashing : sCtr := ((yX5_leastClashing, cX5_leastClashing, 4, (some .int)), (6, 0, 3, 66), true,
  w1fp,
  fun vs L => ∃ (x0 x1 x2 x3 x4 x5 : Nat) (y7 y8 y9 : Int32) (s : Nat → Int32) (F : Nat → Nat → Int32) (n : Nat), vs = [.ref 0] ∧ L = w1 x0 x1 x2 x3 x4 x5 y7 y8 y9 s F ∧ s 1 = nI n ∧ n ≤ 8,
  fun _ L r _ => r = some (.int (p_lc (bG 1 L 5) (bG 1 L 6) (oI L 1 1).toNatClampNeg (2 ^ (oI L 1 1).toNatClampNeg))))
theorem sta_X5_leastClashing : s_Sta c_X5_leastClashing := ⟨⟨by decide +kernel, by decide +kernel, by decide +kernel⟩, List.mem_of_getElem? (i := 681) (by decide +kernel), List.mem_of_getElem? (i := 64) (by decide +kernel), ⟨List.mem_of_getElem? (i := 680) (by decide +kernel), List.mem_of_getElem? (i := 22) (by decide +kernel), Or.inl ⟨_, rfl, rfl⟩⟩⟩

def k_X5_leastClashing : List sBk := [
  (0, false, [true, false, false, false], [oK 0 (.bipush (-4)) (.int (-4)), o0 2 (.istore_n 1), oK 3 (.iconst 0) (.int 0), o0 4 (.istore_n 2), oN 5 .nop [1]]),
  (5, true, [true, true, true, false], [o0 5 (.iload_n 2), o0 6 (.aload_n 0), oN 7 (.getfield 49) [5, 6, 304], oC 10 (.invokevirtual 194) [662] c_X0_sets, oN 13 (.if_icmp .ge 54) [6], o0 16 (.iload_n 1), oN 17 (.ifCond .lt 14) [2], o0 20 (.iload_n 2), oC 21 (.invokestatic 160) [574] c_J6_bitCount_0f7a4, o0 24 (.iload_n 1), oC 25 (.invokestatic 160) [574] c_J6_bitCount_0f7a4, oN 28 (.if_icmp .ge 7) [3], oN 31 .nop [2]]),
  (31, false, [true, true, true, false], [oK 31 (.iconst 1) (.int 1), oN 32 (.goto 4) [4]]),
  (35, false, [true, true, true, false], [oK 35 (.iconst 0) (.int 0), oN 36 .nop [4]]),
  (36, false, [true, true, true, false], [o0 36 (.istore_n 3), o0 37 (.iload_n 3), oN 38 (.ifCond .eq 23) [5], o0 41 (.aload_n 0), oN 42 (.getfield 49) [5, 6, 304], o0 45 (.aload_n 0), oN 46 (.getfield 49) [5, 6, 304], o0 49 (.iload_n 2), oC 50 (.invokevirtual 203) [682] c_X0_followersOf, oC 53 (.invokevirtual 206) [686] c_X0_haveClash, oN 56 (.ifCond .eq 5) [5], o0 59 (.iload_n 2), o0 60 (.istore_n 1), oN 61 .nop [5]]),
  (61, false, [true, true, true, false], [oK 61 (.iinc 2 1) (.int 1), oN 64 (.goto (-59)) [1]]),
  (67, false, [false, true, false, false], [o0 67 (.iload_n 1), o0 68 .ireturn])]
set_option maxRecDepth 100000 in
theorem ck_X5_leastClashing : s_ck RX5 cX5_leastClashing 4 3 66 k_X5_leastClashing = true := by decide +kernel

set_option maxRecDepth 100000 in
set_option maxHeartbeats 1000000 in
theorem ok_X5_leastClashing : s_Ok c_X5_leastClashing := by
  refine s_ok_of k_X5_leastClashing (by decide +kernel) sta_X5_leastClashing ck_X5_leastClashing (And.intro ok_X0_sets (And.intro ok_J6_bitCount_0f7a4 (And.intro ok_J6_bitCount_0f7a4 (And.intro ok_X0_followersOf (And.intro ok_X0_haveClash trivial))))) ?_
  rintro vs L ⟨x0, x1, x2, x3, x4, x5, y7, y8, y9, s, F, n, rfl, rfl, hn, hn8⟩
  refine ⟨rfl, fun G hG => ?_⟩
  have h28 := p_2le n hn8
  have loop : ∀ (k i : Nat) (x a : Int32), i + k = 2 ^ n → x = nI i → a = p_lc (F 5) (F 6) n i → G 1 [some (.ref 0), some (.int a), some (.int x), none] [] (w1 x0 x1 x2 x3 x4 x5 y7 y8 y9 s F) := by
    intro k
    induction k with
    | zero =>
      intro i x a hi hx ha
      refine hG 1 _ _ _ (And.intro ⟨_, _, _, rfl, rfl⟩ ?_)
      intro r hr
      obtain rfl : r = some (.int ((1 : Int32) <<< (s 1 &&& 31))) := hr
      refine And.intro (fun h2 => ?_) (fun h2 => ?_)
      · have h2 : x < (1 : Int32) <<< (s 1 &&& 31) := h2
        rw [hx, hn, p_2n n (by omega), nI_ltI (by omega) (by omega)] at h2; omega
      · refine ⟨rfl, ?_, fun _ => rfl⟩
        show some (Value.int a) = some (Value.int (p_lc (F 5) (F 6) (s 1).toNatClampNeg (2 ^ (s 1).toNatClampNeg)))
        rw [hn, nI_clamp (by omega), ha, show i = 2 ^ n by omega]
    | succ k ih =>
      intro i x a hi hx ha
      have next : ∀ b : Int32, b = p_lcS (F 5) (F 6) n x a → G 1 [some (.ref 0), some (.int b), some (.int (x + 1)), none] [] (w1 x0 x1 x2 x3 x4 x5 y7 y8 y9 s F) := by
        intro b hb
        exact ih (i + 1) _ _ (by omega) (by rw [hx, nI_1]) (by rw [hb, p_lc, ← hx, ← ha])
      have rest : (a < 0 ∨ p_bc x < p_bc a) → s_go none k_X5_leastClashing G (s_PP (some .int) true c_X5_leastClashing.2.2.2.2.2 [.ref 0] (w1 x0 x1 x2 x3 x4 x5 y7 y8 y9 s F)) false 98 4 [some (.ref 0), some (.int a), some (.int x), none] [.int 1] (w1 x0 x1 x2 x3 x4 x5 y7 y8 y9 s F) := by
        intro hor
        refine And.intro (fun h => absurd h (by decide)) (fun _ => ?_)
        refine And.intro ⟨s, F, x, n, rfl, rfl, hn, hn8⟩ ?_
        intro r hr
        obtain rfl : r = some (.int (p_ga (F 6) (s 1).toNatClampNeg x)) := hr
        refine And.intro ⟨s, F, _, n, rfl, rfl, hn, hn8⟩ ?_
        intro r hr
        obtain rfl : r = some (.int (if p_ga (F 5) (s 1).toNatClampNeg (p_ga (F 6) (s 1).toNatClampNeg x) &&& p_ga (F 6) (s 1).toNatClampNeg x = 0 then 0 else 1)) := hr
        have e : (s 1).toNatClampNeg = n := by rw [hn, nI_clamp (by omega)]
        by_cases hc : p_ga (F 5) n (p_ga (F 6) n x) &&& p_ga (F 6) n x = 0
        · refine And.intro (fun _ => ?_) (fun h => ?_)
          · exact next _ (by rw [p_lcS, if_pos hor, if_pos hc])
          · rw [e, if_pos hc] at h; exact absurd rfl h
        · refine And.intro (fun h => ?_) (fun _ => ?_)
          · rw [e, if_neg hc] at h; exact absurd h (by decide)
          · exact next _ (by rw [p_lcS, if_pos hor, if_neg hc])
      refine hG 1 _ _ _ (And.intro ⟨_, _, _, rfl, rfl⟩ ?_)
      intro r hr
      obtain rfl : r = some (.int ((1 : Int32) <<< (s 1 &&& 31))) := hr
      refine And.intro (fun h2 => ?_) (fun h2 => ?_)
      · refine And.intro (fun h3 => ?_) (fun h3 => ?_)
        · exact rest (Or.inl h3)
        · refine And.intro ⟨_, rfl⟩ ?_
          intro r hr
          obtain rfl : r = some (.int (p_bc x)) := hr
          refine And.intro ⟨_, rfl⟩ ?_
          intro r hr
          obtain rfl : r = some (.int (p_bc a)) := hr
          refine And.intro (fun h4 => ?_) (fun h4 => ?_)
          · exact rest (Or.inr h4)
          · refine And.intro (fun _ => ?_) (fun h => absurd rfl h)
            exact next _ (by rw [p_lcS, if_neg (by rintro (q | q); exact h3 q; exact h4 q)])
      · have h2 : ¬ x < (1 : Int32) <<< (s 1 &&& 31) := h2
        rw [hx, hn, p_2n n (by omega), nI_ltI (by omega) (by omega)] at h2; omega
  exact hG 0 _ _ _ (loop (2 ^ n) 0 _ _ (by omega) nI_0.symm rfl)
def r_set (s : Nat → Int32) (F : Nat → Nat → Int32) (z : Int32) : Int32 := if z < 0 then -1 else if 1 < z then -1 else p_ss (p_lc (F 5) (F 6) (s 1).toNatClampNeg (2 ^ (s 1).toNatClampNeg)) z
def c_X5_set : sCtr := ((yX5_set, cX5_set, 2, (some .int)), (6, 1, 4, 89), true,
  w1fp,
  fun vs L => ∃ (x0 x1 x2 x3 x4 x5 : Nat) (y7 y8 y9 : Int32) (s : Nat → Int32) (F : Nat → Nat → Int32) (z : Int32) (n : Nat), vs = [.ref 0, .int z] ∧ L = w1 x0 x1 x2 x3 x4 x5 y7 y8 y9 s F ∧ s 1 = nI n ∧ n ≤ 8,
  fun vs L r _ => r = some (.int (r_set (oI L 1) (bG 1 L) (vI vs 1))))
theorem sta_X5_set : s_Sta c_X5_set := ⟨⟨by decide +kernel, by decide +kernel, by decide +kernel⟩, List.mem_of_getElem? (i := 677) (by decide +kernel), List.mem_of_getElem? (i := 64) (by decide +kernel), ⟨List.mem_of_getElem? (i := 675) (by decide +kernel), List.mem_of_getElem? (i := 676) (by decide +kernel), Or.inl ⟨_, rfl, rfl⟩⟩⟩

def k_X5_set : List sBk := [
  (0, false, [true, true], [o0 0 (.iload_n 1), oN 1 (.ifCond .lt 8) [1], o0 4 (.iload_n 1), oK 5 (.iconst 1) (.int 1), oN 6 (.if_icmp .le 7) [2], oN 9 .nop [1]]),
  (9, false, [false, false], [oK 9 (.iconst (-1)) (.int (-1)), oN 10 (.goto 11) [3]]),
  (13, false, [true, true], [o0 13 (.aload_n 0), oC 14 (.invokevirtual 197) [678] c_X5_leastClashing, o0 17 (.iload_n 1), oC 18 (.invokestatic 188) [663] c_X5_sizeOrSet, oN 21 .nop [3]]),
  (21, false, [false, false], [o0 21 .ireturn])]
set_option maxRecDepth 100000 in
theorem ck_X5_set : s_ck RX5 cX5_set 2 4 89 k_X5_set = true := by decide +kernel

set_option maxRecDepth 100000 in
set_option maxHeartbeats 1000000 in
theorem ok_X5_set : s_Ok c_X5_set := by
  refine s_ok_of k_X5_set (by decide +kernel) sta_X5_set ck_X5_set (And.intro ok_X5_leastClashing (And.intro ok_X5_sizeOrSet trivial)) ?_
  rintro vs L ⟨x0, x1, x2, x3, x4, x5, y7, y8, y9, s, F, z, n, rfl, rfl, hn, hn8⟩
  refine ⟨rfl, fun G hG => ?_⟩
  have fin : ∀ a : Int32, a = r_set s F z → s_PP (some .int) true c_X5_set.2.2.2.2.2 [.ref 0, .int z] (w1 x0 x1 x2 x3 x4 x5 y7 y8 y9 s F) (some (.int a)) (w1 x0 x1 x2 x3 x4 x5 y7 y8 y9 s F) := fun a ha => ⟨rfl, by rw [ha]; rfl, fun _ => rfl⟩
  refine hG 0 _ _ _ (And.intro (fun h => ?_) (fun h => ?_))
  · exact fin _ (by rw [r_set, if_pos h])
  · refine And.intro (fun h2 => ?_) (fun h2 => ?_)
    · exact fin _ (by rw [r_set, if_neg h, if_pos h2])
    · refine And.intro ⟨_, _, _, _, _, _, _, _, _, s, F, n, rfl, rfl, hn, hn8⟩ ?_
      intro r hr
      obtain rfl : r = some (.int (p_lc (F 5) (F 6) (s 1).toNatClampNeg (2 ^ (s 1).toNatClampNeg))) := hr
      refine And.intro ⟨_, _, rfl⟩ ?_
      intro r hr
      obtain rfl : r = some (.int (p_ss (p_lc (F 5) (F 6) (s 1).toNatClampNeg (2 ^ (s 1).toNatClampNeg)) z)) := hr
      exact fin _ (by rw [r_set, if_neg h, if_neg h2])
def p_ltS (cl fo : Nat → Int32) (n : Nat) (h g b : Int32) : Int32 := if g &&& (h ^^^ (-1)) = 0 ∧ p_bc g < p_bc b then (if p_ga cl n (h &&& (p_ro fo g h n ^^^ (-1))) &&& (h &&& (p_ro fo g h n ^^^ (-1))) = 0 then g else b) else b
def p_lt (cl fo : Nat → Int32) (n : Nat) (h : Int32) : Nat → Int32
  | 0 => h
  | k + 1 => p_ltS cl fo n h (nI k) (p_lt cl fo n h k)
def c_X5_leastTaken : sCtr := ((yX5_leastTaken, cX5_leastTaken, 5, (some .int)), (6, 0, 3, 66), true,
  w1fp,
  fun vs L => ∃ (x0 x1 x2 x3 x4 x5 : Nat) (y7 y8 y9 : Int32) (s : Nat → Int32) (F : Nat → Nat → Int32) (n : Nat), vs = [.ref 0] ∧ L = w1 x0 x1 x2 x3 x4 x5 y7 y8 y9 s F ∧ s 1 = nI n ∧ n ≤ 8,
  fun _ L r _ => r = some (.int (p_lt (bG 1 L 5) (bG 1 L 6) (oI L 1 1).toNatClampNeg (oI L 1 5) (2 ^ (oI L 1 1).toNatClampNeg))))
theorem sta_X5_leastTaken : s_Sta c_X5_leastTaken := ⟨⟨by decide +kernel, by decide +kernel, by decide +kernel⟩, List.mem_of_getElem? (i := 697) (by decide +kernel), List.mem_of_getElem? (i := 64) (by decide +kernel), ⟨List.mem_of_getElem? (i := 696) (by decide +kernel), List.mem_of_getElem? (i := 23) (by decide +kernel), Or.inl ⟨_, rfl, rfl⟩⟩⟩

def k_X5_leastTaken : List sBk := [
  (0, false, [true, false, false, false, false], [o0 0 (.aload_n 0), oN 1 (.getfield 49) [5, 6, 304], oN 4 (.getfield 94) [0, 5, 134], o0 7 (.istore_n 1), oK 8 (.iconst 0) (.int 0), o0 9 (.istore_n 2), oN 10 .nop [1]]),
  (10, true, [true, true, true, false, false], [o0 10 (.iload_n 2), o0 11 (.aload_n 0), oN 12 (.getfield 49) [5, 6, 304], oC 15 (.invokevirtual 194) [662] c_X0_sets, oN 18 (.if_icmp .ge 93) [7], o0 21 (.iload_n 2), o0 22 (.aload_n 0), oN 23 (.getfield 49) [5, 6, 304], oN 26 (.getfield 94) [0, 5, 134], oK 29 (.iconst (-1)) (.int (-1)), o0 30 .ixor, o0 31 .iand, oN 32 (.ifCond .ne 7) [2], oK 35 (.iconst 1) (.int 1), oN 36 (.goto 4) [3]]),
  (39, false, [true, true, true, false, false], [oK 39 (.iconst 0) (.int 0), oN 40 .nop [3]]),
  (40, false, [true, true, true, false, false], [o0 40 (.istore_n 3), o0 41 (.iload_n 2), oC 42 (.invokestatic 160) [574] c_J6_bitCount_0f7a4, o0 45 (.iload_n 1), oC 46 (.invokestatic 160) [574] c_J6_bitCount_0f7a4, oN 49 (.if_icmp .ge 7) [4], oK 52 (.iconst 1) (.int 1), oN 53 (.goto 4) [5]]),
  (56, false, [true, true, true, true, false], [oK 56 (.iconst 0) (.int 0), oN 57 .nop [5]]),
  (57, false, [true, true, true, true, false], [o0 57 (.istore 4), o0 59 (.iload_n 3), oN 60 (.ifCond .eq 45) [6], o0 63 (.iload 4), oN 65 (.ifCond .eq 40) [6], o0 68 (.aload_n 0), oN 69 (.getfield 49) [5, 6, 304], o0 72 (.aload_n 0), oN 73 (.getfield 49) [5, 6, 304], oN 76 (.getfield 94) [0, 5, 134], o0 79 (.aload_n 0), oN 80 (.getfield 49) [5, 6, 304], o0 83 (.iload_n 2), o0 84 (.aload_n 0), oN 85 (.getfield 49) [5, 6, 304], oN 88 (.getfield 94) [0, 5, 134], oC 91 (.invokevirtual 166) [584] c_X0_restingOn, oK 94 (.iconst (-1)) (.int (-1)), o0 95 .ixor, o0 96 .iand, oC 97 (.invokevirtual 206) [686] c_X0_haveClash, oN 100 (.ifCond .ne 5) [6], o0 103 (.iload_n 2), o0 104 (.istore_n 1), oN 105 .nop [6]]),
  (105, false, [true, true, true, false, false], [oK 105 (.iinc 2 1) (.int 1), oN 108 (.goto (-98)) [1]]),
  (111, false, [false, true, false, false, false], [o0 111 (.iload_n 1), o0 112 .ireturn])]
set_option maxRecDepth 100000 in
theorem ck_X5_leastTaken : s_ck RX5 cX5_leastTaken 5 3 66 k_X5_leastTaken = true := by decide +kernel

set_option maxRecDepth 100000 in
set_option maxHeartbeats 1000000 in
theorem ok_X5_leastTaken : s_Ok c_X5_leastTaken := by
  refine s_ok_of k_X5_leastTaken (by decide +kernel) sta_X5_leastTaken ck_X5_leastTaken (And.intro ok_X0_sets (And.intro ok_J6_bitCount_0f7a4 (And.intro ok_J6_bitCount_0f7a4 (And.intro ok_X0_restingOn (And.intro ok_X0_haveClash trivial))))) ?_
  rintro vs L ⟨x0, x1, x2, x3, x4, x5, y7, y8, y9, s, F, n, rfl, rfl, hn, hn8⟩
  refine ⟨rfl, fun G hG => ?_⟩
  have h28 := p_2le n hn8
  have e : (s 1).toNatClampNeg = n := by rw [hn, nI_clamp (by omega)]
  have loop : ∀ (k i : Nat) (x a : Int32), i + k = 2 ^ n → x = nI i → a = p_lt (F 5) (F 6) n (s 5) i → G 1 [some (.ref 0), some (.int a), some (.int x), none, none] [] (w1 x0 x1 x2 x3 x4 x5 y7 y8 y9 s F) := by
    intro k
    induction k with
    | zero =>
      intro i x a hi hx ha
      refine hG 1 _ _ _ (And.intro ⟨_, _, _, rfl, rfl⟩ ?_)
      intro r hr
      obtain rfl : r = some (.int ((1 : Int32) <<< (s 1 &&& 31))) := hr
      refine And.intro (fun h2 => ?_) (fun h2 => ?_)
      · have h2 : x < (1 : Int32) <<< (s 1 &&& 31) := h2
        rw [hx, hn, p_2n n (by omega), nI_ltI (by omega) (by omega)] at h2; omega
      · refine ⟨rfl, ?_, fun _ => rfl⟩
        show some (Value.int a) = some (Value.int (p_lt (F 5) (F 6) (s 1).toNatClampNeg (s 5) (2 ^ (s 1).toNatClampNeg)))
        rw [e, ha, show i = 2 ^ n by omega]
    | succ k ih =>
      intro i x a hi hx ha
      have next : ∀ b : Int32, b = p_ltS (F 5) (F 6) n (s 5) x a → G 1 [some (.ref 0), some (.int b), some (.int (x + 1)), none, none] [] (w1 x0 x1 x2 x3 x4 x5 y7 y8 y9 s F) := by
        intro b hb
        exact ih (i + 1) _ _ (by omega) (by rw [hx, nI_1]) (by rw [hb, p_lt, ← hx, ← ha])
      refine hG 1 _ _ _ (And.intro ⟨_, _, _, rfl, rfl⟩ ?_)
      intro r hr
      obtain rfl : r = some (.int ((1 : Int32) <<< (s 1 &&& 31))) := hr
      refine And.intro (fun h2 => ?_) (fun h2 => ?_)
      · refine And.intro (fun h3 => ?_) (fun h3 => ?_)
        · refine And.intro ⟨_, rfl⟩ ?_
          intro r hr
          obtain rfl : r = some (.int (p_bc x)) := hr
          refine And.intro ⟨_, rfl⟩ ?_
          intro r hr
          obtain rfl : r = some (.int (p_bc a)) := hr
          refine And.intro (fun h4 => ?_) (fun h4 => ?_)
          · refine And.intro (fun h => absurd h (by decide)) (fun _ => ?_)
            refine And.intro (fun h => absurd h (by decide)) (fun _ => ?_)
            refine And.intro ⟨s, F, _, _, n, rfl, rfl, hn, hn8⟩ ?_
            intro r hr
            obtain rfl : r = some (.int (p_ro (F 6) x (s 5) (s 1).toNatClampNeg)) := hr
            refine And.intro ⟨s, F, _, n, rfl, rfl, hn, hn8⟩ ?_
            intro r hr
            obtain rfl : r = some (.int (if p_ga (F 5) (s 1).toNatClampNeg (s 5 &&& (p_ro (F 6) x (s 5) (s 1).toNatClampNeg ^^^ (-1))) &&& (s 5 &&& (p_ro (F 6) x (s 5) (s 1).toNatClampNeg ^^^ (-1))) = 0 then 0 else 1)) := hr
            by_cases hc : p_ga (F 5) n (s 5 &&& (p_ro (F 6) x (s 5) n ^^^ (-1))) &&& (s 5 &&& (p_ro (F 6) x (s 5) n ^^^ (-1))) = 0
            · refine And.intro (fun _ => ?_) (fun h => ?_)
              · exact next _ (by rw [p_ltS, if_pos ⟨h3, h4⟩, if_pos hc])
              · rw [e, if_pos hc] at h; exact absurd rfl h
            · refine And.intro (fun h => ?_) (fun _ => ?_)
              · rw [e, if_neg hc] at h; exact absurd h (by decide)
              · exact next _ (by rw [p_ltS, if_pos ⟨h3, h4⟩, if_neg hc])
          · refine And.intro (fun h => absurd h (by decide)) (fun _ => ?_)
            refine And.intro (fun _ => ?_) (fun h => absurd rfl h)
            exact next _ (by rw [p_ltS, if_neg (fun q => h4 q.2)])
        · refine And.intro ⟨_, rfl⟩ ?_
          intro r hr
          obtain rfl : r = some (.int (p_bc x)) := hr
          refine And.intro ⟨_, rfl⟩ ?_
          intro r hr
          obtain rfl : r = some (.int (p_bc a)) := hr
          refine And.intro (fun h4 => ?_) (fun h4 => ?_)
          · refine And.intro (fun _ => ?_) (fun h => absurd rfl h)
            exact next _ (by rw [p_ltS, if_neg (fun q => h3 q.1)])
          · refine And.intro (fun _ => ?_) (fun h => absurd rfl h)
            exact next _ (by rw [p_ltS, if_neg (fun q => h3 q.1)])
      · have h2 : ¬ x < (1 : Int32) <<< (s 1 &&& 31) := h2
        rw [hx, hn, p_2n n (by omega), nI_ltI (by omega) (by omega)] at h2; omega
  exact hG 0 _ _ _ (loop (2 ^ n) 0 _ _ (by omega) nI_0.symm rfl)
def r_rid (s : Nat → Int32) (F : Nat → Nat → Int32) (z : Int32) : Int32 := if z < 0 then -1 else if 1 < z then -1 else p_ss (p_lt (F 5) (F 6) (s 1).toNatClampNeg (s 5) (2 ^ (s 1).toNatClampNeg)) z
def c_X5_rid : sCtr := ((yX5_rid, cX5_rid, 2, (some .int)), (6, 1, 4, 90), true,
  w1fp,
  fun vs L => ∃ (x0 x1 x2 x3 x4 x5 : Nat) (y7 y8 y9 : Int32) (s : Nat → Int32) (F : Nat → Nat → Int32) (z : Int32) (n : Nat), vs = [.ref 0, .int z] ∧ L = w1 x0 x1 x2 x3 x4 x5 y7 y8 y9 s F ∧ s 1 = nI n ∧ n ≤ 8,
  fun vs L r _ => r = some (.int (r_rid (oI L 1) (bG 1 L) (vI vs 1))))
theorem sta_X5_rid : s_Sta c_X5_rid := ⟨⟨by decide +kernel, by decide +kernel, by decide +kernel⟩, List.mem_of_getElem? (i := 693) (by decide +kernel), List.mem_of_getElem? (i := 64) (by decide +kernel), ⟨List.mem_of_getElem? (i := 691) (by decide +kernel), List.mem_of_getElem? (i := 692) (by decide +kernel), Or.inl ⟨_, rfl, rfl⟩⟩⟩

def k_X5_rid : List sBk := [
  (0, false, [true, true], [o0 0 (.iload_n 1), oN 1 (.ifCond .lt 8) [1], o0 4 (.iload_n 1), oK 5 (.iconst 1) (.int 1), oN 6 (.if_icmp .le 7) [2], oN 9 .nop [1]]),
  (9, false, [false, false], [oK 9 (.iconst (-1)) (.int (-1)), oN 10 (.goto 11) [3]]),
  (13, false, [true, true], [o0 13 (.aload_n 0), oC 14 (.invokevirtual 200) [694] c_X5_leastTaken, o0 17 (.iload_n 1), oC 18 (.invokestatic 188) [663] c_X5_sizeOrSet, oN 21 .nop [3]]),
  (21, false, [false, false], [o0 21 .ireturn])]
set_option maxRecDepth 100000 in
theorem ck_X5_rid : s_ck RX5 cX5_rid 2 4 90 k_X5_rid = true := by decide +kernel

set_option maxRecDepth 100000 in
set_option maxHeartbeats 1000000 in
theorem ok_X5_rid : s_Ok c_X5_rid := by
  refine s_ok_of k_X5_rid (by decide +kernel) sta_X5_rid ck_X5_rid (And.intro ok_X5_leastTaken (And.intro ok_X5_sizeOrSet trivial)) ?_
  rintro vs L ⟨x0, x1, x2, x3, x4, x5, y7, y8, y9, s, F, z, n, rfl, rfl, hn, hn8⟩
  refine ⟨rfl, fun G hG => ?_⟩
  have fin : ∀ a : Int32, a = r_rid s F z → s_PP (some .int) true c_X5_rid.2.2.2.2.2 [.ref 0, .int z] (w1 x0 x1 x2 x3 x4 x5 y7 y8 y9 s F) (some (.int a)) (w1 x0 x1 x2 x3 x4 x5 y7 y8 y9 s F) := fun a ha => ⟨rfl, by rw [ha]; rfl, fun _ => rfl⟩
  refine hG 0 _ _ _ (And.intro (fun h => ?_) (fun h => ?_))
  · exact fin _ (by rw [r_rid, if_pos h])
  · refine And.intro (fun h2 => ?_) (fun h2 => ?_)
    · exact fin _ (by rw [r_rid, if_neg h, if_pos h2])
    · refine And.intro ⟨_, _, _, _, _, _, _, _, _, s, F, n, rfl, rfl, hn, hn8⟩ ?_
      intro r hr
      obtain rfl : r = some (.int (p_lt (F 5) (F 6) (s 1).toNatClampNeg (s 5) (2 ^ (s 1).toNatClampNeg))) := hr
      refine And.intro ⟨_, _, rfl⟩ ?_
      intro r hr
      obtain rfl : r = some (.int (p_ss (p_lt (F 5) (F 6) (s 1).toNatClampNeg (s 5) (2 ^ (s 1).toNatClampNeg)) z)) := hr
      exact fin _ (by rw [r_rid, if_neg h, if_neg h2])

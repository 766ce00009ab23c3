/-! ===== WishClerkModel: least sets, who goes round ===== -/
def p_msS (cl nd : Nat → Int32) (n : Nat) (g : Int32) (q : Int32 × Int32) : Int32 × Int32 := if p_bo g 8 < q.1 then (if p_ga cl n (p_fw nd n g) &&& p_fw nd n g = 0 then q else (p_bo g 8, g)) else q
def p_ms (cl nd : Nat → Int32) (n : Nat) : Nat → Int32 × Int32
  | 0 => (1000000, -4)
  | k + 1 => p_msS cl nd n (nI (k + 1)) (p_ms cl nd n k)
def r_mset (cl nd : Nat → Int32) (n : Nat) (z : Int32) : Int32 := if z < 0 ∨ 1 < z then -1 else if (p_ms cl nd n (2 ^ n - 1)).2 = -4 then -4 else if z = 0 then (p_ms cl nd n (2 ^ n - 1)).1 else (p_ms cl nd n (2 ^ n - 1)).2
def c_X6_set : sCtr := ((yX6_set, cX6_set, 7, (some .int)), (7, 1, 2, 47), true,
  mdfp,
  fun vs L => ∃ (s : Nat → Int32) (A : Nat → Nat → Int32) (z : Int32) (n : Nat), vs = [.ref 0, .int z] ∧ L = mdW s A ∧ s 3 = nI n ∧ n ≤ 8,
  fun vs L r _ => r = some (.int (r_mset (fun i => bF L 1 (18 + i)) (fun i => bF L 1 (10 + i)) (oI L 0 3).toNatClampNeg (vI vs 1))))
theorem sta_X6_set : s_Sta c_X6_set := ⟨⟨by decide +kernel, by decide +kernel, by decide +kernel⟩, List.mem_of_getElem? (i := 1170) (by decide +kernel), List.mem_of_getElem? (i := 70) (by decide +kernel), ⟨List.mem_of_getElem? (i := 1168) (by decide +kernel), List.mem_of_getElem? (i := 1169) (by decide +kernel), Or.inl ⟨_, rfl, rfl⟩⟩⟩

def k_X6_set : List sBk := [
  (0, false, [true, true, false, false, false, false, false], [o0 0 (.iload_n 1), o0 1 .i2l, oK 2 (.lconst 0) (.long 0), oK 3 (.lconst 1) (.long 1), oC 4 (.invokestatic 90) [921] c_X6_in, oN 7 (.ifCond .ne 5) [1], oK 10 (.iconst (-1)) (.int (-1)), o0 11 .ireturn]),
  (12, false, [true, true, false, false, false, false, false], [oV 12 (.ldc 239) [1154] (.int 1000000), o0 14 (.istore_n 2), oK 15 (.bipush (-4)) (.int (-4)), o0 17 (.istore_n 3), oK 18 (.iconst 1) (.int 1), o0 19 (.istore 4), oN 21 .nop [2]]),
  (21, true, [true, true, true, true, true, false, false], [o0 21 (.iload 4), oK 23 (.iconst 1) (.int 1), o0 24 (.aload_n 0), oN 25 (.getfield 85) [6, 3, 825], o0 28 .ishl, oN 29 (.if_icmp .ge 71) [9], o0 32 (.aload_n 0), o0 33 (.iload 4), oC 35 (.invokevirtual 189) [1019] c_X6_follow, o0 38 (.istore 5), o0 40 (.iload 4), oC 42 (.invokestatic 219) [1105] c_X6_bitsOf, o0 45 (.iload_n 2), oN 46 (.if_icmp .ge 18) [3], o0 49 (.aload_n 0), o0 50 (.iload 5), o0 52 (.iload 5), oC 54 (.invokevirtual 208) [1096] c_X6_doClash, oN 57 (.ifCond .eq 7) [3], oK 60 (.iconst 1) (.int 1), oN 61 (.goto 4) [4]]),
  (64, false, [true, true, true, true, true, false, false], [oK 64 (.iconst 0) (.int 0), oN 65 .nop [4]]),
  (65, false, [true, true, true, true, true, false, false], [o0 65 (.istore 6), o0 67 (.iload 6), oN 69 (.ifCond .eq 8) [5], o0 72 (.iload 4), oN 74 (.goto 4) [6]]),
  (77, false, [true, true, true, true, true, false, true], [o0 77 (.iload_n 3), oN 78 .nop [6]]),
  (78, false, [true, true, true, false, true, false, true], [o0 78 (.istore_n 3), o0 79 (.iload 6), oN 81 (.ifCond .eq 11) [7], o0 84 (.iload 4), oC 86 (.invokestatic 219) [1105] c_X6_bitsOf, oN 89 (.goto 4) [8]]),
  (92, false, [true, true, true, true, true, false, false], [o0 92 (.iload_n 2), oN 93 .nop [8]]),
  (93, false, [true, true, false, true, true, false, false], [o0 93 (.istore_n 2), oK 94 (.iinc 4 1) (.int 1), oN 97 (.goto (-76)) [2]]),
  (100, false, [false, true, true, true, false, false, false], [o0 100 (.iload_n 3), oK 101 (.bipush (-4)) (.int (-4)), oN 103 (.if_icmp .ne 8) [10], oK 106 (.bipush (-4)) (.int (-4)), oN 108 (.goto 12) [12]]),
  (111, false, [false, true, true, true, false, false, false], [o0 111 (.iload_n 1), oN 112 (.ifCond .ne 7) [11], o0 115 (.iload_n 2), oN 116 (.goto 4) [12]]),
  (119, false, [false, false, false, true, false, false, false], [o0 119 (.iload_n 3), oN 120 .nop [12]]),
  (120, false, [false, false, false, false, false, false, false], [o0 120 .ireturn])]
set_option maxRecDepth 100000 in
theorem ck_X6_set : s_ck RX6 cX6_set 7 2 47 k_X6_set = true := by decide +kernel

set_option maxRecDepth 100000 in
set_option maxHeartbeats 1000000 in
theorem ok_X6_set : s_Ok c_X6_set := by
  refine s_ok_of k_X6_set (by decide +kernel) sta_X6_set ck_X6_set (And.intro ok_X6_in (And.intro ok_X6_follow (And.intro ok_X6_bitsOf (And.intro ok_X6_doClash (And.intro ok_X6_bitsOf trivial))))) ?_
  rintro vs L ⟨s, A, z, n, rfl, rfl, hn, hn8⟩
  refine ⟨rfl, fun G hG => ?_⟩
  have h28 := p_2le n hn8
  have h20 : 0 < 2 ^ n := Nat.two_pow_pos n
  have e3 : (s 3).toNatClampNeg = n := by rw [hn, nI_clamp (by omega)]
  obtain ⟨cl, hcl⟩ : ∃ cl, cl = fun i => A 1 (18 + i) := ⟨_, rfl⟩
  obtain ⟨nd, hnd⟩ : ∃ nd, nd = fun i => A 1 (10 + i) := ⟨_, rfl⟩
  have fin : ∀ a : Int32, a = r_mset cl nd n z → s_PP (some .int) true c_X6_set.2.2.2.2.2 [.ref 0, .int z] (mdW s A) (some (.int a)) (mdW s A) := fun a ha => ⟨rfl, by rw [ha, ← e3, hcl, hnd]; rfl, fun _ => rfl⟩
  refine hG 0 _ _ _ (And.intro ⟨_, _, _, rfl⟩ ?_)
  intro r hr
  obtain ⟨b, hb⟩ : ∃ b, b = p_in64 z.toInt64 0 (1 : Int32).toInt64 := ⟨_, rfl⟩
  obtain rfl : r = some (.int b) := by rw [hb]; exact hr
  refine And.intro (fun h => ?_) (fun h => ?_)
  · have h : z < 0 ∨ 1 < z := (p_rng _ _).mp (hb.symm.trans h)
    exact fin _ (by rw [r_mset, if_pos h])
  have h : ¬ (z < 0 ∨ 1 < z) := fun q => h (hb.trans ((p_rng _ _).mpr q))
  have loop : ∀ (k i : Nat) (x a1 a2 : Int32), i + k = 2 ^ n - 1 → x = nI (i + 1) → (a1, a2) = p_ms cl nd n i → G 2 [some (.ref 0), some (.int z), some (.int a1), some (.int a2), some (.int x), none, none] [] (mdW s A) := by
    intro k
    induction k with
    | zero =>
      intro i x a1 a2 hi hx ha
      have hq : (a1, a2) = p_ms cl nd n (2 ^ n - 1) := by rw [ha, show i = 2 ^ n - 1 by omega]
      have q1 : a1 = (p_ms cl nd n (2 ^ n - 1)).1 := by rw [← hq]
      have q2 : a2 = (p_ms cl nd n (2 ^ n - 1)).2 := by rw [← hq]
      refine hG 2 _ _ _ (And.intro (fun h2 => ?_) (fun h2 => ?_))
      · have h2 : x < (1 : Int32) <<< (s 3 &&& 31) := h2
        rw [hx, hn, p_2n n (by omega), nI_ltI (by omega) (by omega)] at h2; omega
      · refine And.intro (fun h3 => ?_) (fun h3 => ?_)
        · have h3 : (p_ms cl nd n (2 ^ n - 1)).2 = -4 := by rw [← q2]; exact h3
          exact fin _ (by rw [r_mset, if_neg h, if_pos h3])
        · have h3 : ¬ (p_ms cl nd n (2 ^ n - 1)).2 = -4 := by rw [← q2]; exact h3
          refine And.intro (fun h4 => ?_) (fun h4 => ?_)
          · exact fin _ (by rw [r_mset, if_neg h, if_neg h3, if_pos h4, q1])
          · exact fin _ (by rw [r_mset, if_neg h, if_neg h3, if_neg h4, q2])
    | succ k ih =>
      intro i x a1 a2 hi hx ha
      have next : ∀ b1 b2 : Int32, (b1, b2) = p_msS cl nd n x (a1, a2) → G 2 [some (.ref 0), some (.int z), some (.int b1), some (.int b2), some (.int (x + 1)), none, none] [] (mdW s A) := fun b1 b2 hb => ih (i + 1) _ _ _ (by omega) (by rw [hx, nI_1]) (by rw [hb, p_ms, ← ha, ← hx])
      refine hG 2 _ _ _ (And.intro (fun h2 => ?_) (fun h2 => ?_))
      · refine And.intro ⟨s, A, _, n, rfl, rfl, hn, hn8⟩ ?_
        intro r hr
        obtain ⟨g, hg⟩ : ∃ g, g = p_fw nd n x := ⟨_, rfl⟩
        obtain rfl : r = some (.int g) := by rw [hg, hnd, ← e3]; exact hr
        refine And.intro ⟨_, rfl⟩ ?_
        intro r hr
        obtain ⟨c, hc⟩ : ∃ c, c = p_bo x 8 := ⟨_, rfl⟩
        obtain rfl : r = some (.int c) := by rw [hc]; exact hr
        refine And.intro (fun h3 => ?_) (fun h3 => ?_)
        · have h3 : p_bo x 8 < a1 := by rw [← hc]; exact h3
          refine And.intro ⟨s, A, g, g, n, rfl, rfl, hn, hn8⟩ ?_
          intro r hr
          obtain ⟨d, hd⟩ : ∃ d, d = if p_ga cl n g &&& g = 0 then (0 : Int32) else 1 := ⟨_, rfl⟩
          obtain rfl : r = some (.int d) := by rw [hd, hcl, ← e3]; exact hr
          refine And.intro (fun h4 => ?_) (fun h4 => ?_)
          · have h4 : d = 0 := h4
            have h5 : p_ga cl n g &&& g = 0 := by
              by_cases q : p_ga cl n g &&& g = 0
              · exact q
              · rw [hd, if_neg q] at h4; exact absurd h4 (by decide)
            refine And.intro (fun _ => ?_) (fun q => absurd rfl q)
            refine And.intro (fun _ => ?_) (fun q => absurd rfl q)
            exact next _ _ (by rw [p_msS, if_pos h3, ← hg, if_pos h5])
          · have h4 : ¬ d = 0 := h4
            have h5 : ¬ p_ga cl n g &&& g = 0 := fun q => h4 (by rw [hd, if_pos q])
            refine And.intro (fun z => absurd z (by decide)) (fun _ => ?_)
            refine And.intro (fun z => absurd z (by decide)) (fun _ => ?_)
            refine And.intro ⟨_, rfl⟩ ?_
            intro r hr
            obtain rfl : r = some (.int (p_bo x 8)) := hr
            exact next _ _ (by rw [p_msS, if_pos h3, ← hg, if_neg h5])
        · have h3 : ¬ p_bo x 8 < a1 := by rw [← hc]; exact h3
          refine And.intro (fun _ => ?_) (fun q => absurd rfl q)
          refine And.intro (fun _ => ?_) (fun q => absurd rfl q)
          exact next _ _ (by rw [p_msS, if_neg h3])
      · have h2 : ¬ x < (1 : Int32) <<< (s 3 &&& 31) := h2
        rw [hx, hn, p_2n n (by omega), nI_ltI (by omega) (by omega)] at h2; omega
  exact loop (2 ^ n - 1) 0 1 1000000 (-4) (by omega) rfl rfl
def p_mrS (cl nd : Nat → Int32) (n : Nat) (h g : Int32) (q : Int32 × Int32) : Int32 × Int32 := if g &&& (h ^^^ (-1)) = 0 then (if p_bo g 8 < q.1 then (if p_ga cl n (h &&& (p_tk nd n g h n ^^^ (-1))) &&& (h &&& (p_tk nd n g h n ^^^ (-1))) = 0 then (p_bo g 8, g) else q) else q) else q
def p_mr (cl nd : Nat → Int32) (n : Nat) (h : Int32) : Nat → Int32 × Int32
  | 0 => (1000000, 0)
  | k + 1 => p_mrS cl nd n h (nI k) (p_mr cl nd n h k)
def r_mrid (cl nd : Nat → Int32) (n : Nat) (h z : Int32) : Int32 := if z < 0 ∨ 1 < z then -1 else if z = 0 then (p_mr cl nd n h (2 ^ n)).1 else (p_mr cl nd n h (2 ^ n)).2
def c_X6_rid : sCtr := ((yX6_rid, cX6_rid, 7, (some .int)), (7, 1, 3, 71), true,
  mdfp,
  fun vs L => ∃ (s : Nat → Int32) (A : Nat → Nat → Int32) (z : Int32) (n : Nat), vs = [.ref 0, .int z] ∧ L = mdW s A ∧ s 3 = nI n ∧ n ≤ 8,
  fun vs L r _ => r = some (.int (r_mrid (fun i => bF L 1 (18 + i)) (fun i => bF L 1 (10 + i)) (oI L 0 3).toNatClampNeg (bF L 1 26) (vI vs 1))))
theorem sta_X6_rid : s_Sta c_X6_rid := ⟨⟨by decide +kernel, by decide +kernel, by decide +kernel⟩, List.mem_of_getElem? (i := 1174) (by decide +kernel), List.mem_of_getElem? (i := 70) (by decide +kernel), ⟨List.mem_of_getElem? (i := 1172) (by decide +kernel), List.mem_of_getElem? (i := 1173) (by decide +kernel), Or.inl ⟨_, rfl, rfl⟩⟩⟩

def k_X6_rid : List sBk := [
  (0, false, [true, true, false, false, false, false, false], [o0 0 (.iload_n 1), o0 1 .i2l, oK 2 (.lconst 0) (.long 0), oK 3 (.lconst 1) (.long 1), oC 4 (.invokestatic 90) [921] c_X6_in, oN 7 (.ifCond .ne 5) [1], oK 10 (.iconst (-1)) (.int (-1)), o0 11 .ireturn]),
  (12, false, [true, true, false, false, false, false, false], [oV 12 (.ldc 239) [1154] (.int 1000000), o0 14 (.istore_n 2), oK 15 (.iconst 0) (.int 0), o0 16 (.istore_n 3), oK 17 (.iconst 0) (.int 0), o0 18 (.istore 4), oN 20 .nop [2]]),
  (20, true, [true, true, true, true, true, false, false], [o0 20 (.iload 4), oK 22 (.iconst 1) (.int 1), o0 23 (.aload_n 0), oN 24 (.getfield 85) [6, 3, 825], o0 27 .ishl, oN 28 (.if_icmp .ge 103) [9], o0 31 (.aload_n 0), oN 32 (.getfield 7) [6, 0, 822], oK 35 (.bipush 26) (.int 26), o0 37 .iaload, o0 38 (.aload_n 0), o0 39 (.iload 4), o0 41 (.aload_n 0), oN 42 (.getfield 7) [6, 0, 822], oK 45 (.bipush 26) (.int 26), o0 47 .iaload, oC 48 (.invokevirtual 222) [1112] c_X6_takenBy, oK 51 (.iconst (-1)) (.int (-1)), o0 52 .ixor, o0 53 .iand, o0 54 (.istore 5), o0 56 (.iload 4), o0 58 (.aload_n 0), oN 59 (.getfield 7) [6, 0, 822], oK 62 (.bipush 26) (.int 26), o0 64 .iaload, oK 65 (.iconst (-1)) (.int (-1)), o0 66 .ixor, o0 67 .iand, oN 68 (.ifCond .ne 27) [3], o0 71 (.iload 4), oC 73 (.invokestatic 219) [1105] c_X6_bitsOf, o0 76 (.iload_n 2), oN 77 (.if_icmp .ge 18) [3], o0 80 (.aload_n 0), o0 81 (.iload 5), o0 83 (.iload 5), oC 85 (.invokevirtual 208) [1096] c_X6_doClash, oN 88 (.ifCond .ne 7) [3], oK 91 (.iconst 1) (.int 1), oN 92 (.goto 4) [4]]),
  (95, false, [true, true, true, true, true, false, false], [oK 95 (.iconst 0) (.int 0), oN 96 .nop [4]]),
  (96, false, [true, true, true, true, true, false, false], [o0 96 (.istore 6), o0 98 (.iload 6), oN 100 (.ifCond .eq 8) [5], o0 103 (.iload 4), oN 105 (.goto 4) [6]]),
  (108, false, [true, true, true, true, true, false, true], [o0 108 (.iload_n 3), oN 109 .nop [6]]),
  (109, false, [true, true, true, false, true, false, true], [o0 109 (.istore_n 3), o0 110 (.iload 6), oN 112 (.ifCond .eq 11) [7], o0 115 (.iload 4), oC 117 (.invokestatic 219) [1105] c_X6_bitsOf, oN 120 (.goto 4) [8]]),
  (123, false, [true, true, true, true, true, false, false], [o0 123 (.iload_n 2), oN 124 .nop [8]]),
  (124, false, [true, true, false, true, true, false, false], [o0 124 (.istore_n 2), oK 125 (.iinc 4 1) (.int 1), oN 128 (.goto (-108)) [2]]),
  (131, false, [false, true, true, true, false, false, false], [o0 131 (.iload_n 1), oN 132 (.ifCond .ne 7) [10], o0 135 (.iload_n 2), oN 136 (.goto 4) [11]]),
  (139, false, [false, false, false, true, false, false, false], [o0 139 (.iload_n 3), oN 140 .nop [11]]),
  (140, false, [false, false, false, false, false, false, false], [o0 140 .ireturn])]
set_option maxRecDepth 100000 in
theorem ck_X6_rid : s_ck RX6 cX6_rid 7 3 71 k_X6_rid = true := by decide +kernel

set_option maxRecDepth 100000 in
set_option maxHeartbeats 1000000 in
theorem ok_X6_rid : s_Ok c_X6_rid := by
  refine s_ok_of k_X6_rid (by decide +kernel) sta_X6_rid ck_X6_rid (And.intro ok_X6_in (And.intro ok_X6_takenBy (And.intro ok_X6_bitsOf (And.intro ok_X6_doClash (And.intro ok_X6_bitsOf trivial))))) ?_
  rintro vs L ⟨s, A, z, n, rfl, rfl, hn, hn8⟩
  refine ⟨rfl, fun G hG => ?_⟩
  have h28 := p_2le n hn8
  have h20 : 0 < 2 ^ n := Nat.two_pow_pos n
  have e3 : (s 3).toNatClampNeg = n := by rw [hn, nI_clamp (by omega)]
  obtain ⟨cl, hcl⟩ : ∃ cl, cl = fun i => A 1 (18 + i) := ⟨_, rfl⟩
  obtain ⟨nd, hnd⟩ : ∃ nd, nd = fun i => A 1 (10 + i) := ⟨_, rfl⟩
  have fin : ∀ a : Int32, a = r_mrid cl nd n (A 1 26) z → s_PP (some .int) true c_X6_rid.2.2.2.2.2 [.ref 0, .int z] (mdW s A) (some (.int a)) (mdW s A) := fun a ha => ⟨rfl, by rw [ha, ← e3, hcl, hnd]; rfl, fun _ => rfl⟩
  refine hG 0 _ _ _ (And.intro ⟨_, _, _, rfl⟩ ?_)
  intro r hr
  obtain ⟨b, hb⟩ : ∃ b, b = p_in64 z.toInt64 0 (1 : Int32).toInt64 := ⟨_, rfl⟩
  obtain rfl : r = some (.int b) := by rw [hb]; exact hr
  refine And.intro (fun h => ?_) (fun h => ?_)
  · have h : z < 0 ∨ 1 < z := (p_rng _ _).mp (hb.symm.trans h)
    exact fin _ (by rw [r_mrid, if_pos h])
  have h : ¬ (z < 0 ∨ 1 < z) := fun q => h (hb.trans ((p_rng _ _).mpr q))
  have loop : ∀ (k i : Nat) (x a1 a2 : Int32), i + k = 2 ^ n → x = nI i → (a1, a2) = p_mr cl nd n (A 1 26) i → G 2 [some (.ref 0), some (.int z), some (.int a1), some (.int a2), some (.int x), none, none] [] (mdW s A) := by
    intro k
    induction k with
    | zero =>
      intro i x a1 a2 hi hx ha
      have hq : (a1, a2) = p_mr cl nd n (A 1 26) (2 ^ n) := by rw [ha, show i = 2 ^ n by omega]
      have q1 : a1 = (p_mr cl nd n (A 1 26) (2 ^ n)).1 := by rw [← hq]
      have q2 : a2 = (p_mr cl nd n (A 1 26) (2 ^ n)).2 := by rw [← hq]
      refine hG 2 _ _ _ (And.intro (fun h2 => ?_) (fun h2 => ?_))
      · have h2 : x < (1 : Int32) <<< (s 3 &&& 31) := h2
        rw [hx, hn, p_2n n (by omega), nI_ltI (by omega) (by omega)] at h2; omega
      · refine And.intro (fun h4 => ?_) (fun h4 => ?_)
        · exact fin _ (by rw [r_mrid, if_neg h, if_pos h4, q1])
        · exact fin _ (by rw [r_mrid, if_neg h, if_neg h4, q2])
    | succ k ih =>
      intro i x a1 a2 hi hx ha
      have next : ∀ b1 b2 : Int32, (b1, b2) = p_mrS cl nd n (A 1 26) x (a1, a2) → G 2 [some (.ref 0), some (.int z), some (.int b1), some (.int b2), some (.int (x + 1)), none, none] [] (mdW s A) := fun b1 b2 hb => ih (i + 1) _ _ _ (by omega) (by rw [hx, nI_1]) (by rw [hb, p_mr, ← ha, ← hx])
      refine hG 2 _ _ _ (And.intro (fun h2 => ?_) (fun h2 => ?_))
      · refine And.intro (vi159 26 (by omega)) (And.intro (vi159 26 (by omega)) (And.intro ⟨s, A, _, _, n, rfl, rfl, hn, hn8⟩ ?_))
        intro r hr
        obtain ⟨t, ht⟩ : ∃ t, t = p_tk nd n x (A 1 26) n := ⟨_, rfl⟩
        obtain rfl : r = some (.int t) := by rw [ht, hnd, ← e3]; exact hr
        obtain ⟨g, hg⟩ : ∃ g, g = A 1 26 &&& (t ^^^ (-1)) := ⟨_, rfl⟩
        have hgt : A 1 26 &&& (p_tk nd n x (A 1 26) n ^^^ (-1)) = g := by rw [← ht, hg]
        refine And.intro (vi159 26 (by omega)) (And.intro (fun h2 => ?_) (fun h2 => ?_))
        · have h2 : x &&& (A 1 26 ^^^ (-1)) = 0 := h2
          refine And.intro ⟨_, rfl⟩ ?_
          intro r hr
          obtain ⟨c, hc⟩ : ∃ c, c = p_bo x 8 := ⟨_, rfl⟩
          obtain rfl : r = some (.int c) := by rw [hc]; exact hr
          refine And.intro (fun h3 => ?_) (fun h3 => ?_)
          · have h3 : p_bo x 8 < a1 := by rw [← hc]; exact h3
            refine And.intro ⟨s, A, _, _, n, rfl, rfl, hn, hn8⟩ ?_
            intro r hr
            obtain ⟨d, hd⟩ : ∃ d, d = if p_ga cl n g &&& g = 0 then (0 : Int32) else 1 := ⟨_, rfl⟩
            obtain rfl : r = some (.int d) := by rw [hd, hcl, ← e3, hg]; exact hr
            refine And.intro (fun h4 => ?_) (fun h4 => ?_)
            · have h4 : d = 0 := h4
              have h5 : p_ga cl n g &&& g = 0 := by
                by_cases q : p_ga cl n g &&& g = 0
                · exact q
                · rw [hd, if_neg q] at h4; exact absurd h4 (by decide)
              refine And.intro (fun z => absurd z (by decide)) (fun _ => ?_)
              refine And.intro (fun z => absurd z (by decide)) (fun _ => ?_)
              refine And.intro ⟨_, rfl⟩ ?_
              intro r hr
              obtain rfl : r = some (.int (p_bo x 8)) := hr
              exact next _ _ (by rw [p_mrS, if_pos h2, if_pos h3, hgt, if_pos h5])
            · have h4 : ¬ d = 0 := h4
              have h5 : ¬ p_ga cl n g &&& g = 0 := fun q => h4 (by rw [hd, if_pos q])
              refine And.intro (fun _ => ?_) (fun q => absurd rfl q)
              refine And.intro (fun _ => ?_) (fun q => absurd rfl q)
              exact next _ _ (by rw [p_mrS, if_pos h2, if_pos h3, hgt, if_neg h5])
          · have h3 : ¬ p_bo x 8 < a1 := by rw [← hc]; exact h3
            refine And.intro (fun _ => ?_) (fun q => absurd rfl q)
            refine And.intro (fun _ => ?_) (fun q => absurd rfl q)
            exact next _ _ (by rw [p_mrS, if_pos h2, if_neg h3])
        · have h2 : ¬ x &&& (A 1 26 ^^^ (-1)) = 0 := h2
          refine And.intro (fun _ => ?_) (fun q => absurd rfl q)
          refine And.intro (fun _ => ?_) (fun q => absurd rfl q)
          exact next _ _ (by rw [p_mrS, if_neg h2])
      · have h2 : ¬ x < (1 : Int32) <<< (s 3 &&& 31) := h2
        rw [hx, hn, p_2n n (by omega), nI_ltI (by omega) (by omega)] at h2; omega
  exact loop (2 ^ n) 0 0 1000000 0 (by omega) nI_0.symm rfl
def p_mgo (st : Nat → Int32) (n : Nat) (w : Int32) : Int32 := p_hb (p_fw (fun i => st (10 + i)) n (st (10 + w.toNatClampNeg))) w
theorem p_hb_01 (x i : Int32) : p_hb x i = 0 ∨ p_hb x i = 1 := by
  rw [← p_hb_v]; exact p_and1 _
def c_X6_goesRound : sCtr := ((yX6_goesRound, cX6_goesRound, 2, (some .boolean)), (7, 1, 2, 47), true,
  mdfp,
  fun vs L => ∃ (s : Nat → Int32) (A : Nat → Nat → Int32) (w : Int32) (j n : Nat), vs = [.ref 0, .int w] ∧ L = mdW s A ∧ s 3 = nI n ∧ n ≤ 8 ∧ w = nI j ∧ j < 8,
  fun vs L r _ => r = some (.int (p_mgo (bF L 1) (oI L 0 3).toNatClampNeg (vI vs 1))))
theorem sta_X6_goesRound : s_Sta c_X6_goesRound := ⟨⟨by decide +kernel, by decide +kernel, by decide +kernel⟩, List.mem_of_getElem? (i := 1182) (by decide +kernel), List.mem_of_getElem? (i := 70) (by decide +kernel), ⟨List.mem_of_getElem? (i := 1181) (by decide +kernel), List.mem_of_getElem? (i := 60) (by decide +kernel), Or.inl ⟨_, rfl, rfl⟩⟩⟩

def k_X6_goesRound : List sBk := [
  (0, false, [true, true], [o0 0 (.aload_n 0), o0 1 (.aload_n 0), oN 2 (.getfield 7) [6, 0, 822], oK 5 (.bipush 10) (.int 10), o0 7 (.iload_n 1), o0 8 .iadd, o0 9 .iaload, oC 10 (.invokevirtual 189) [1019] c_X6_follow, o0 13 (.iload_n 1), o0 14 .ishr, oK 15 (.iconst 1) (.int 1), o0 16 .iand, oK 17 (.iconst 1) (.int 1), oN 18 (.if_icmp .ne 7) [1], oK 21 (.iconst 1) (.int 1), oN 22 (.goto 4) [2]]),
  (25, false, [false, false], [oK 25 (.iconst 0) (.int 0), oN 26 .nop [2]]),
  (26, false, [false, false], [o0 26 .ireturn])]
set_option maxRecDepth 100000 in
theorem ck_X6_goesRound : s_ck RX6 cX6_goesRound 2 2 47 k_X6_goesRound = true := by decide +kernel

set_option maxRecDepth 100000 in
set_option maxHeartbeats 1000000 in
theorem ok_X6_goesRound : s_Ok c_X6_goesRound := by
  refine s_ok_of k_X6_goesRound (by decide +kernel) sta_X6_goesRound ck_X6_goesRound (And.intro ok_X6_follow trivial) ?_
  rintro vs L ⟨s, A, w, j, n, rfl, rfl, hn, hn8, hw, hj⟩
  refine ⟨rfl, fun G hG => ?_⟩
  have fin : ∀ b : Int32, b = p_mgo (A 1) (s 3).toNatClampNeg w → (b = 0 ∨ b = 1) ∧ s_PP (some .boolean) true c_X6_goesRound.2.2.2.2.2 [.ref 0, .int w] (mdW s A) (some (.int b)) (mdW s A) := fun b hb => ⟨by rw [hb]; exact p_hb_01 _ _, rfl, by rw [hb]; rfl, fun _ => rfl⟩
  have e : (10 : Int32) + w = nI (10 + j) := by rw [hw]; exact nI_add 10 j
  have ec : ((10 : Int32) + w).toNatClampNeg = 10 + w.toNatClampNeg := by rw [e, hw, nI_clamp (by omega), nI_clamp (by omega)]
  refine hG 0 _ _ _ (And.intro ?_ (And.intro ⟨s, A, _, n, rfl, rfl, hn, hn8⟩ ?_))
  · show vp_in ((10 : Int32) + w) 159
    rw [e]; exact vi159 _ (by omega)
  intro r hr
  obtain ⟨g, hg⟩ : ∃ g, g = p_fw (fun i => A 1 (10 + i)) (s 3).toNatClampNeg (A 1 (10 + w.toNatClampNeg)) := ⟨_, rfl⟩
  obtain rfl : r = some (.int g) := by rw [hg, ← ec]; exact hr
  refine And.intro (fun h => ?_) (fun h => ?_)
  · have h : (g >>> (w &&& 31)) &&& 1 = 1 := h
    exact fin _ (by rw [p_mgo, ← hg, ← p_hb_v, h])
  · have h : ¬ (g >>> (w &&& 31)) &&& 1 = 1 := h
    exact fin _ (by rw [p_mgo, ← hg, p_hb_0.mpr h])

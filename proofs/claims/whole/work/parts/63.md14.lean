/-! ===== WishClerkModel: odds ===== -/
theorem p_gcd_ne {a b : Int64} (ha : 0 < a.toInt) : ¬ p_gcd a b = 0 := by
  intro h
  have a2 := Int64.toInt_lt a
  have g0 : 0 < Int.gcd a.toInt b.toInt := Int.gcd_pos_of_ne_zero_left _ (by omega)
  have g1 : (Int.gcd a.toInt b.toInt : Int) ≤ a.toInt := Int.le_of_dvd ha (Int.gcd_dvd_left ..)
  have hs : ((Int64.size : Nat) : Int) = 18446744073709551616 := rfl
  have e : (p_gcd a b).toInt = Int.gcd a.toInt b.toInt := by
    rw [p_gcd, Int64.toInt_ofInt, Int.bmod_eq_of_le (by omega) (by omega)]
  rw [h, Int64.toInt_zero] at e
  omega
theorem p_mulB {x y : Int64} {X : Int} (hx : 0 ≤ x.toInt) (hX : x.toInt ≤ X) (hy : 0 ≤ y.toInt) (hY : y.toInt ≤ 10) (h6 : X ≤ 1000000) : 0 ≤ (x * y).toInt ∧ (x * y).toInt ≤ X * 10 := by
  have m0 : 0 ≤ x.toInt * y.toInt := Int.mul_nonneg hx hy
  have m1 : x.toInt * y.toInt ≤ X * 10 := Int.mul_le_mul hX hY hy (by omega)
  rw [Int64.toInt_mul, Int.bmod_eq_of_le (by omega) (by omega)]
  exact ⟨m0, m1⟩
def p_m10 : Nat → Int64
  | 0 => 1
  | k + 1 => p_m10 k * 10
theorem p_m10_pos : ∀ k, k ≤ 6 → 0 < (p_m10 k).toInt := by decide +kernel
def p_mof (g v : Int32) (i : Nat) : Int64 := if p_hb g (nI i) = 0 then ((10 : Int32) - v).toInt64 else v.toInt64
def p_moh (on nd cl : Nat → Int32) (n : Nat) (l0 h0 li ba : Int32) (d : Nat) (g w : Int32) (i : Nat) (h : Int32) : Int32 :=
  if p_hb h w = 0 then (if p_hb g (nI i) = 0 then (if p_re on nd cl n li ba w h (p_lb on nd n l0 h0 h) d = 0 then h ||| p_fw nd n ((1 : Int32) <<< (w &&& 31)) else h) else h ||| p_fw nd n ((1 : Int32) <<< (w &&& 31))) else h
def p_mo (on nd cl pl : Nat → Int32) (n : Nat) (l0 h0 li ba : Int32) (d : Nat) (v g : Int32) : Nat → Int32 × Int64
  | 0 => (h0, 1)
  | i + 1 => (p_moh on nd cl n l0 h0 li ba d g (pl i) i (p_mo on nd cl pl n l0 h0 li ba d v g i).1, (p_mo on nd cl pl n l0 h0 li ba d v g i).2 * p_mof g v i)
def p_mot (on nd cl pl : Nat → Int32) (n : Nat) (l0 h0 li ba : Int32) (d : Nat) (v p : Int32) (m : Nat) : Nat → Int64
  | 0 => 0
  | k + 1 => p_mot on nd cl pl n l0 h0 li ba d v p m k + (if p_hb (p_lb on nd n l0 h0 (p_mo on nd cl pl n l0 h0 li ba d v (nI k) m).1) p = 0 then 0 else (p_mo on nd cl pl n l0 h0 li ba d v (nI k) m).2)
theorem p_mofB {v : Int32} (h : ¬ (v < 0 ∨ 10 < v)) (g : Int32) (i : Nat) : 0 ≤ (p_mof g v i).toInt ∧ (p_mof g v i).toInt ≤ 10 := by
  obtain ⟨j, hj, rfl⟩ := nI_of (fun q => h (Or.inl q))
  have j10 : j ≤ 10 := by
    have : ¬ 10 < j := fun q => h (Or.inr ((nI_ltI (a := 10) (by omega) hj).mpr q))
    omega
  have e : ((10 : Int32) - nI j).toInt = 10 - j := by
    rw [Int32.toInt_sub, nI_toInt hj, show (10 : Int32).toInt = 10 from rfl, Int.bmod_eq_of_le (by omega) (by omega)]
  unfold p_mof
  by_cases q : p_hb g (nI i) = 0
  · rw [if_pos q, Int32.toInt_toInt64, e]; omega
  · rw [if_neg q, Int32.toInt_toInt64, nI_toInt hj]; omega
theorem p_moB {v : Int32} (h : ¬ (v < 0 ∨ 10 < v)) (on nd cl pl : Nat → Int32) (n : Nat) (l0 h0 li ba : Int32) (d : Nat) (g : Int32) : ∀ i, i ≤ 6 → 0 ≤ (p_mo on nd cl pl n l0 h0 li ba d v g i).2.toInt ∧ (p_mo on nd cl pl n l0 h0 li ba d v g i).2.toInt ≤ 10 ^ i
  | 0, _ => ⟨show 0 ≤ (1 : Int64).toInt by decide, show (1 : Int64).toInt ≤ 10 ^ 0 by decide⟩
  | i + 1, hi => by
    obtain ⟨a, b⟩ := p_moB h on nd cl pl n l0 h0 li ba d g i (by omega)
    obtain ⟨c, e⟩ := p_mofB h g i
    rw [p_mo]
    have h6 : (10 : Int) ^ i ≤ 1000000 := by
      rcases (show i = 0 ∨ i = 1 ∨ i = 2 ∨ i = 3 ∨ i = 4 ∨ i = 5 by omega) with rfl | rfl | rfl | rfl | rfl | rfl <;> decide
    exact p_mulB a b c e h6
theorem p_motB {v : Int32} (h : ¬ (v < 0 ∨ 10 < v)) (on nd cl pl : Nat → Int32) (n : Nat) (l0 h0 li ba : Int32) (d : Nat) (p : Int32) (m : Nat) (hm : m ≤ 6) : ∀ k, k ≤ 64 → 0 ≤ (p_mot on nd cl pl n l0 h0 li ba d v p m k).toInt ∧ (p_mot on nd cl pl n l0 h0 li ba d v p m k).toInt ≤ k * 1000000
  | 0, _ => ⟨show 0 ≤ (0 : Int64).toInt by decide, show (0 : Int64).toInt ≤ ((0 : Nat) : Int) * 1000000 by decide⟩
  | k + 1, hk => by
    obtain ⟨a, b⟩ := p_motB h on nd cl pl n l0 h0 li ba d p m hm k (by omega)
    obtain ⟨c, e⟩ := p_moB h on nd cl pl n l0 h0 li ba d (nI k) m hm
    have h6 : (10 : Int) ^ m ≤ 1000000 := by
      rcases (show m = 0 ∨ m = 1 ∨ m = 2 ∨ m = 3 ∨ m = 4 ∨ m = 5 ∨ m = 6 by omega) with rfl | rfl | rfl | rfl | rfl | rfl | rfl <;> decide
    rw [p_mot]
    by_cases q : p_hb (p_lb on nd n l0 h0 (p_mo on nd cl pl n l0 h0 li ba d v (nI k) m).1) p = 0
    · rw [if_pos q, Int64.add_zero]; omega
    · rw [if_neg q, Int64.toInt_add, Int.bmod_eq_of_le (by omega) (by omega)]; omega
def p_moT (st : Nat → Int32) (n : Nat) (v p : Int32) : Int64 := p_mot (fun i => st (2 + i)) (fun i => st (10 + i)) (fun i => st (18 + i)) (fun i => st (30 + i)) n (st 0) (st 26) (st 27) (st 1) (st 28).toNatClampNeg v p (st 29).toNatClampNeg (2 ^ (st 29).toNatClampNeg)
def p_moW (st : Nat → Int32) : Int64 := p_m10 (st 29).toNatClampNeg
def r_modds (st : Nat → Int32) (y : Int32) (n : Nat) (v p z : Int32) : Int64 := if v < 0 ∨ 10 < v then -1 else if p_in y p = 0 then -1 else if z < 0 ∨ 1 < z then -1 else if z = 0 then p_moT st n v p / p_gcd (p_moW st) (p_moT st n v p) else p_moW st / p_gcd (p_moW st) (p_moT st n v p)
def c_X6_odds : sCtr := ((yX6_odds, cX6_odds, 18, (some .long)), (7, 3, 3, 75), true,
  mdfp,
  fun vs L => ∃ (s : Nat → Int32) (A : Nat → Nat → Int32) (v p z : Int32) (m n d pl : Nat), vs = [.ref 0, .int v, .int p, .int z] ∧ L = mdW s A ∧ s 2 = nI m ∧ m ≤ 8 ∧ s 3 = nI n ∧ n ≤ 8 ∧ A 1 28 = nI d ∧ d ≤ 8 ∧ A 1 29 = nI pl ∧ pl ≤ 6,
  fun vs L r _ => r = some (.long (r_modds (bF L 1) (oI L 0 2) (oI L 0 3).toNatClampNeg (vI vs 1) (vI vs 2) (vI vs 3))))
theorem sta_X6_odds : s_Sta c_X6_odds := ⟨⟨by decide +kernel, by decide +kernel, by decide +kernel⟩, List.mem_of_getElem? (i := 1203) (by decide +kernel), List.mem_of_getElem? (i := 70) (by decide +kernel), ⟨List.mem_of_getElem? (i := 1201) (by decide +kernel), List.mem_of_getElem? (i := 1202) (by decide +kernel), Or.inl ⟨_, rfl, rfl⟩⟩⟩

def k_X6_odds : List sBk := [
  (0, false, [true, true, true, true, false, false, false, false, false, false, false, false, false, false, false, false, false, false], [o0 0 (.iload_n 1), o0 1 .i2l, oK 2 (.lconst 0) (.long 0), oV 3 (.ldc2_w 232) [1128] (.long 10), oC 6 (.invokestatic 90) [921] c_X6_in, oN 9 (.ifCond .eq 21) [1], o0 12 (.aload_n 0), o0 13 (.iload_n 2), oC 14 (.invokevirtual 192) [1035] c_X6_isOne, oN 17 (.ifCond .eq 13) [1], o0 20 (.iload_n 3), o0 21 .i2l, oK 22 (.lconst 0) (.long 0), oK 23 (.lconst 1) (.long 1), oC 24 (.invokestatic 90) [921] c_X6_in, oN 27 (.ifCond .ne 7) [2], oN 30 .nop [1]]),
  (30, false, [false, false, false, false, false, false, false, false, false, false, false, false, false, false, false, false, false, false], [oV 30 (.ldc2_w 255) [1204] (.long (-1)), o0 33 .lreturn]),
  (34, false, [true, true, true, true, false, false, false, false, false, false, false, false, false, false, false, false, false, false], [o0 34 (.aload_n 0), oN 35 (.getfield 7) [6, 0, 822], oK 38 (.bipush 29) (.int 29), o0 40 .iaload, o0 41 (.istore 4), oK 43 (.lconst 0) (.long 0), o0 44 (.lstore 5), oK 46 (.lconst 1) (.long 1), o0 47 (.lstore 7), oK 49 (.iconst 0) (.int 0), o0 50 (.istore 9), oN 52 .nop [3]]),
  (52, true, [true, true, true, true, true, true, false, true, false, true, false, false, false, false, false, false, false, false], [o0 52 (.iload 9), o0 54 (.iload 4), oN 56 (.if_icmp .ge 17) [4], o0 59 (.lload 7), oV 61 (.ldc2_w 232) [1128] (.long 10), o0 64 .lmul, o0 65 (.lstore 7), oK 67 (.iinc 9 1) (.int 1), oN 70 (.goto (-18)) [3]]),
  (73, false, [true, true, true, true, true, true, false, true, false, false, false, false, false, false, false, false, false, false], [oK 73 (.iconst 0) (.int 0), o0 74 (.istore 9), oN 76 .nop [5]]),
  (76, true, [true, true, true, true, true, true, false, true, false, true, false, false, false, false, false, false, false, false], [o0 76 (.iload 9), oK 78 (.iconst 1) (.int 1), o0 79 (.iload 4), o0 81 .ishl, oN 82 (.if_icmp .ge 199) [21], o0 85 (.aload_n 0), oN 86 (.getfield 7) [6, 0, 822], oK 89 (.bipush 26) (.int 26), o0 91 .iaload, o0 92 (.istore 10), oK 94 (.lconst 1) (.long 1), o0 95 (.lstore 11), oK 97 (.iconst 0) (.int 0), o0 98 (.istore 13), oN 100 .nop [6]]),
  (100, true, [true, true, true, true, true, true, false, true, false, true, true, true, false, true, false, false, false, false], [o0 100 (.iload 13), o0 102 (.iload 4), oN 104 (.if_icmp .ge 146) [18], o0 107 (.aload_n 0), oN 108 (.getfield 7) [6, 0, 822], oK 111 (.bipush 30) (.int 30), o0 113 (.iload 13), o0 115 .iadd, o0 116 .iaload, o0 117 (.istore 14), o0 119 (.iload 9), o0 121 (.iload 13), o0 123 .ishr, oK 124 (.iconst 1) (.int 1), o0 125 .iand, oK 126 (.iconst 1) (.int 1), oN 127 (.if_icmp .ne 7) [7], oK 130 (.iconst 1) (.int 1), oN 131 (.goto 4) [8]]),
  (134, false, [true, true, true, true, true, true, false, true, false, true, true, true, false, true, true, false, false, false], [oK 134 (.iconst 0) (.int 0), oN 135 .nop [8]]),
  (135, false, [true, true, true, true, true, true, false, true, false, true, true, true, false, true, true, false, false, false], [o0 135 (.istore 15), o0 137 (.iload 10), o0 139 (.iload 14), o0 141 .ishr, oK 142 (.iconst 1) (.int 1), o0 143 .iand, oN 144 (.ifCond .ne 7) [9], oK 147 (.iconst 1) (.int 1), oN 148 (.goto 4) [10]]),
  (151, false, [true, true, true, true, true, true, false, true, false, true, true, true, false, true, true, true, false, false], [oK 151 (.iconst 0) (.int 0), oN 152 .nop [10]]),
  (152, false, [true, true, true, true, true, true, false, true, false, true, true, true, false, true, true, true, false, false], [o0 152 (.istore 16), o0 154 (.iload 16), oN 156 (.ifCond .eq 43) [12], o0 159 (.iload 15), oN 161 (.ifCond .ne 34) [11], o0 164 (.aload_n 0), o0 165 (.iload 14), o0 167 (.iload 10), o0 169 (.aload_n 0), o0 170 (.iload 10), oC 172 (.invokevirtual 225) [1134] c_X6_livingBy, o0 175 (.aload_n 0), oN 176 (.getfield 7) [6, 0, 822], oK 179 (.bipush 28) (.int 28), o0 181 .iaload, o0 182 (.aload_n 0), oN 183 (.getfield 7) [6, 0, 822], oK 186 (.bipush 27) (.int 27), o0 188 .iaload, oC 189 (.invokevirtual 212) [1092] c_X6_refusal, oN 192 (.ifCond .ne 7) [12], oN 195 .nop [11]]),
  (195, false, [true, true, true, true, true, true, false, true, false, true, true, true, false, true, true, true, false, false], [oK 195 (.iconst 1) (.int 1), oN 196 (.goto 4) [13]]),
  (199, false, [true, true, true, true, true, true, false, true, false, true, true, true, false, true, true, true, false, false], [oK 199 (.iconst 0) (.int 0), oN 200 .nop [13]]),
  (200, false, [true, true, true, true, true, true, false, true, false, true, true, true, false, true, true, true, false, false], [o0 200 (.istore 17), o0 202 (.lload 11), o0 204 (.iload 15), oN 206 (.ifCond .eq 8) [14], o0 209 (.iload_n 1), o0 210 .i2l, oN 211 (.goto 8) [15]]),
  (214, false, [true, true, true, true, true, true, false, true, false, true, true, false, false, true, true, false, false, true], [oK 214 (.bipush 10) (.int 10), o0 216 (.iload_n 1), o0 217 .isub, o0 218 .i2l, oN 219 .nop [15]]),
  (219, false, [true, true, true, true, true, true, false, true, false, true, true, false, false, true, true, false, false, true], [o0 219 .lmul, o0 220 (.lstore 11), o0 222 (.iload 10), o0 224 (.iload 17), oN 226 (.ifCond .eq 14) [16], o0 229 (.aload_n 0), oK 230 (.iconst 1) (.int 1), o0 231 (.iload 14), o0 233 .ishl, oC 234 (.invokevirtual 189) [1019] c_X6_follow, oN 237 (.goto 4) [17]]),
  (240, false, [true, true, true, true, true, true, false, true, false, true, false, true, false, true, false, false, false, false], [oK 240 (.iconst 0) (.int 0), oN 241 .nop [17]]),
  (241, false, [true, true, true, true, true, true, false, true, false, true, false, true, false, true, false, false, false, false], [o0 241 .ior, o0 242 (.istore 10), oK 244 (.iinc 13 1) (.int 1), oN 247 (.goto (-147)) [6]]),
  (250, false, [true, true, true, true, true, true, false, true, false, true, true, true, false, false, false, false, false, false], [o0 250 (.lload 5), o0 252 (.aload_n 0), o0 253 (.iload 10), oC 255 (.invokevirtual 225) [1134] c_X6_livingBy, o0 258 (.iload_n 2), o0 259 .ishr, oK 260 (.iconst 1) (.int 1), o0 261 .iand, oK 262 (.iconst 1) (.int 1), oN 263 (.if_icmp .ne 8) [19], o0 266 (.lload 11), oN 268 (.goto 4) [20]]),
  (271, false, [true, true, true, true, true, false, false, true, false, true, false, false, false, false, false, false, false, false], [oK 271 (.lconst 0) (.long 0), oN 272 .nop [20]]),
  (272, false, [true, true, true, true, true, false, false, true, false, true, false, false, false, false, false, false, false, false], [o0 272 .ladd, o0 273 (.lstore 5), oK 275 (.iinc 9 1) (.int 1), oN 278 (.goto (-202)) [5]]),
  (281, false, [false, false, false, true, false, true, false, true, false, false, false, false, false, false, false, false, false, false], [o0 281 (.lload 7), o0 283 (.lload 5), oC 285 (.invokestatic 257) [1205] c_X6_common, o0 288 (.lstore 9), o0 290 (.iload_n 3), oN 291 (.ifCond .ne 11) [22], o0 294 (.lload 5), o0 296 (.lload 9), o0 298 .ldiv, oN 299 (.goto 8) [23]]),
  (302, false, [false, false, false, false, false, false, false, true, false, true, false, false, false, false, false, false, false, false], [o0 302 (.lload 7), o0 304 (.lload 9), o0 306 .ldiv, oN 307 .nop [23]]),
  (307, false, [false, false, false, false, false, false, false, false, false, false, false, false, false, false, false, false, false, false], [o0 307 .lreturn])]
set_option maxRecDepth 100000 in
theorem ck_X6_odds : s_ck RX6 cX6_odds 18 3 75 k_X6_odds = true := by decide +kernel

set_option maxRecDepth 100000 in
set_option maxHeartbeats 1000000 in
theorem ok_X6_odds : s_Ok c_X6_odds := by
  refine s_ok_of k_X6_odds (by decide +kernel) sta_X6_odds ck_X6_odds (And.intro ok_X6_in (And.intro ok_X6_isOne (And.intro ok_X6_in (And.intro ok_X6_livingBy (And.intro ok_X6_refusal (And.intro ok_X6_follow (And.intro ok_X6_livingBy (And.intro ok_X6_common trivial)))))))) ?_
  rintro vs L ⟨s, A, v, p, z, m, n, d, pl, rfl, rfl, hm, hm8, hn, hn8, hd, hd8, hp, hp6⟩
  refine ⟨rfl, fun G hG => ?_⟩
  have e3 : (s 3).toNatClampNeg = n := by rw [hn, nI_clamp (by omega)]
  have ed : (A 1 28).toNatClampNeg = d := by rw [hd, nI_clamp (by omega)]
  have ep : (A 1 29).toNatClampNeg = pl := by rw [hp, nI_clamp (by omega)]
  have h2p : 2 ^ pl ≤ 64 := Nat.pow_le_pow_right (n := 2) (by omega) hp6
  have fin : ∀ a : Int64, a = r_modds (A 1) (s 2) n v p z → s_PP (some .long) true c_X6_odds.2.2.2.2.2 [.ref 0, .int v, .int p, .int z] (mdW s A) (some (.long a)) (mdW s A) := fun a ha => ⟨rfl, by rw [ha, ← e3]; rfl, fun _ => rfl⟩
  refine hG 0 _ _ _ (And.intro ⟨_, _, _, rfl⟩ ?_)
  intro r hr
  obtain ⟨b, hb⟩ : ∃ b, b = p_in64 v.toInt64 0 (10 : Int32).toInt64 := ⟨_, rfl⟩
  obtain rfl : r = some (.int b) := by rw [hb]; exact hr
  refine And.intro (fun h => ?_) (fun h => ?_)
  · have h : v < 0 ∨ 10 < v := (p_rng _ _).mp (hb.symm.trans h)
    exact fin _ (by rw [r_modds, if_pos h])
  have h : ¬ (v < 0 ∨ 10 < v) := fun q => h (hb.trans ((p_rng _ _).mpr q))
  refine And.intro ⟨s, A, p, m, rfl, rfl, hm, hm8⟩ ?_
  intro r hr
  obtain rfl : r = some (.int (p_in (s 2) p)) := hr
  refine And.intro (fun h2 => ?_) (fun h2 => ?_)
  · exact fin _ (by rw [r_modds, if_neg h, if_pos h2])
  refine And.intro ⟨_, _, _, rfl⟩ ?_
  intro r hr
  obtain ⟨b2, hb2⟩ : ∃ b, b = p_in64 z.toInt64 0 (1 : Int32).toInt64 := ⟨_, rfl⟩
  obtain rfl : r = some (.int b2) := by rw [hb2]; exact hr
  refine And.intro (fun h3 => ?_) (fun h3 => ?_)
  · have h3 : z < 0 ∨ 1 < z := (p_rng _ _).mp (hb2.symm.trans h3)
    exact fin _ (by rw [r_modds, if_neg h, if_neg h2, if_pos h3])
  have h3 : ¬ (z < 0 ∨ 1 < z) := fun q => h3 (hb2.trans ((p_rng _ _).mpr q))
  obtain ⟨on, hon⟩ : ∃ on, on = fun i => A 1 (2 + i) := ⟨_, rfl⟩
  obtain ⟨nd, hnd⟩ : ∃ nd, nd = fun i => A 1 (10 + i) := ⟨_, rfl⟩
  obtain ⟨cl, hcl⟩ : ∃ cl, cl = fun i => A 1 (18 + i) := ⟨_, rfl⟩
  obtain ⟨pn, hpn⟩ : ∃ pn, pn = fun i => A 1 (30 + i) := ⟨_, rfl⟩
  have hT : p_moT (A 1) n v p = p_mot on nd cl pn n (A 1 0) (A 1 26) (A 1 27) (A 1 1) d v p pl (2 ^ pl) := by rw [p_moT, ed, ep, hon, hnd, hcl, hpn]
  have hW : p_moW (A 1) = p_m10 pl := by rw [p_moW, ep]
  have lb : ∀ (x : Int32) (r : Option Value), r = some (.int (p_lbM s A x)) → r = some (.int (p_lb on nd n (A 1 0) (A 1 26) x)) := fun x r h => by rw [h, p_lbM, e3, hon, hnd]; rfl
  have l6 : ∀ (T W : Int64) (gx : Int32), (∀ T2 : Int64, T2 = T + (if p_hb (p_lb on nd n (A 1 0) (A 1 26) (p_mo on nd cl pn n (A 1 0) (A 1 26) (A 1 27) (A 1 1) d v gx pl).1) p = 0 then 0 else (p_mo on nd cl pn n (A 1 0) (A 1 26) (A 1 27) (A 1 1) d v gx pl).2) → G 5 [some (.ref 0), some (.int v), some (.int p), some (.int z), some (.int (A 1 29)), some (.long T2), none, some (.long W), none, some (.int (gx + 1)), none, none, none, none, none, none, none, none] [] (mdW s A)) → ∀ (k i : Nat) (x h1 : Int32) (wt : Int64), i + k = pl → x = nI i → (h1, wt) = p_mo on nd cl pn n (A 1 0) (A 1 26) (A 1 27) (A 1 1) d v gx i → G 6 [some (.ref 0), some (.int v), some (.int p), some (.int z), some (.int (A 1 29)), some (.long T), none, some (.long W), none, some (.int gx), some (.int h1), some (.long wt), none, some (.int x), none, none, none, none] [] (mdW s A) := by
    intro T W gx next k
    induction k with
    | zero =>
      intro i x h1 wt hi hx ha
      have ha2 : p_mo on nd cl pn n (A 1 0) (A 1 26) (A 1 27) (A 1 1) d v gx pl = (h1, wt) := by rw [ha, show i = pl by omega]
      rw [ha2] at next
      refine hG 6 _ _ _ (And.intro (fun q => ?_) (fun q => ?_))
      · have q : x < A 1 29 := q
        rw [hx, hp, nI_ltI (by omega) (by omega)] at q; omega
      · refine And.intro ⟨s, A, h1, n, rfl, rfl, hn, hn8⟩ ?_
        intro r hr
        obtain ⟨l, hl⟩ : ∃ l, l = p_lb on nd n (A 1 0) (A 1 26) h1 := ⟨_, rfl⟩
        obtain rfl : r = some (.int l) := by rw [hl]; exact lb _ _ hr
        refine And.intro (fun h4 => ?_) (fun h4 => ?_)
        · have h4 : ¬ p_hb l p = 0 := fun q => p_hb_0.mp q h4
          exact next _ (by show _ = T + (if p_hb (p_lb on nd n (A 1 0) (A 1 26) h1) p = 0 then 0 else wt); rw [← hl, if_neg h4])
        · have h4 : p_hb l p = 0 := p_hb_0.mpr h4
          exact next _ (by show _ = T + (if p_hb (p_lb on nd n (A 1 0) (A 1 26) h1) p = 0 then 0 else wt); rw [← hl, if_pos h4])
    | succ k ih =>
      intro i x h1 wt hi hx ha
      have nx : ∀ (h5 : Int32) (w5 : Int64), h5 = p_moh on nd cl n (A 1 0) (A 1 26) (A 1 27) (A 1 1) d gx (pn i) i h1 → w5 = wt * p_mof gx v i → G 6 [some (.ref 0), some (.int v), some (.int p), some (.int z), some (.int (A 1 29)), some (.long T), none, some (.long W), none, some (.int gx), some (.int h5), some (.long w5), none, some (.int (x + 1)), none, none, none, none] [] (mdW s A) := fun h5 w5 hh hw => ih (i + 1) _ _ _ (by omega) (by rw [hx, nI_1]) (by rw [p_mo, ← ha, hh, hw])
      have e : (30 : Int32) + x = nI (30 + i) := by rw [hx]; exact nI_add 30 i
      have hfo : ∀ (x : Int32) (r : Option Value), r = some (.int (p_fw (fun i => A 1 (10 + i)) (s 3).toNatClampNeg x)) → r = some (.int (p_fw nd n x)) := fun x r h => by rw [h, e3, hnd]
      obtain ⟨w, hw⟩ : ∃ w, w = pn i := ⟨_, rfl⟩
      have hw2 : A 1 ((30 : Int32) + x).toNatClampNeg = w := by rw [hw, e, nI_clamp (by omega), hpn]
      refine hG 6 _ _ _ (And.intro (fun q => ?_) (fun q => ?_))
      · refine And.intro ?_ ?_
        · show vp_in ((30 : Int32) + x) 159
          rw [e]; exact vi159 _ (by omega)
        have h1w : ∀ u : Int32, (h1 >>> (A 1 ((30 : Int32) + x).toNatClampNeg &&& 31)) &&& 1 = u → p_hb h1 w = u := fun u q => by rw [hw2] at q; rw [← p_hb_v]; exact q
        have h1n : ¬ (h1 >>> (A 1 ((30 : Int32) + x).toNatClampNeg &&& 31)) &&& 1 = 0 → ¬ p_hb h1 w = 0 := fun q => by rw [hw2] at q; rw [← p_hb_v]; exact q
        refine And.intro (fun h5 => ?_) (fun h5 => ?_)
        · have h5 : ¬ p_hb gx (nI i) = 0 := by rw [← hx]; exact fun q => p_hb_0.mp q h5
          refine And.intro (fun h6 => ?_) (fun h6 => ?_)
          · have h6 : p_hb h1 w = 0 := h1w 0 h6
            refine And.intro (fun z => absurd z (by decide)) (fun _ => ?_)
            refine And.intro (fun z => absurd z (by decide)) (fun _ => ?_)
            refine And.intro (fun z => absurd z (by decide)) (fun _ => ?_)
            refine And.intro (fun z => absurd z (by decide)) (fun _ => ?_)
            refine And.intro ⟨s, A, _, n, rfl, rfl, hn, hn8⟩ ?_
            intro r hr
            obtain ⟨o, ho⟩ : ∃ o, o = p_fw nd n ((1 : Int32) <<< (w &&& 31)) := ⟨_, rfl⟩
            obtain rfl : r = some (.int o) := by rw [ho, ← hw2]; exact hfo _ _ hr
            exact nx _ _ (by rw [p_moh, ← hw, if_pos h6, if_neg h5, ho]) (by rw [p_mof, if_neg h5])
          · have h6 : ¬ p_hb h1 w = 0 := h1n h6
            refine And.intro (fun _ => ?_) (fun q => absurd rfl q)
            refine And.intro (fun z => absurd z (by decide)) (fun _ => ?_)
            refine And.intro (fun _ => ?_) (fun q => absurd rfl q)
            exact nx _ _ (by rw [p_moh, ← hw, if_neg h6, p_or0]) (by rw [p_mof, if_neg h5])
        · have h5 : p_hb gx (nI i) = 0 := by rw [← hx]; exact p_hb_0.mpr h5
          refine And.intro (fun h6 => ?_) (fun h6 => ?_)
          · have h6 : p_hb h1 w = 0 := h1w 0 h6
            refine And.intro (fun z => absurd z (by decide)) (fun _ => ?_)
            refine And.intro (fun _ => ?_) (fun q => absurd rfl q)
            refine And.intro ⟨s, A, h1, n, rfl, rfl, hn, hn8⟩ ?_
            intro r hr
            obtain ⟨l, hl⟩ : ∃ l, l = p_lb on nd n (A 1 0) (A 1 26) h1 := ⟨_, rfl⟩
            obtain rfl : r = some (.int l) := by rw [hl]; exact lb _ _ hr
            refine And.intro (vi159 28 (by omega)) (And.intro (vi159 27 (by omega)) (And.intro ⟨s, A, _, _, _, _, _, n, d, rfl, rfl, hn, hn8, hd, hd8⟩ ?_))
            intro r hr
            obtain ⟨re, hre⟩ : ∃ re, re = p_re on nd cl n (A 1 27) (A 1 1) w h1 l d := ⟨_, rfl⟩
            obtain rfl : r = some (.int re) := by
              have h7 : r = some (.int (p_re (fun i => A 1 (2 + i)) (fun i => A 1 (10 + i)) (fun i => A 1 (18 + i)) (s 3).toNatClampNeg (A 1 27) (A 1 1) (A 1 ((30 : Int32) + x).toNatClampNeg) h1 l (A 1 28).toNatClampNeg)) := hr
              rw [h7, hre, hon, hnd, hcl, e3, ed, hw2]
            refine And.intro (fun h7 => ?_) (fun h7 => ?_)
            · have h7 : re = 0 := h7
              refine And.intro (fun _ => ?_) (fun q => absurd rfl q)
              refine And.intro (fun z => absurd z (by decide)) (fun _ => ?_)
              refine And.intro ⟨s, A, _, n, rfl, rfl, hn, hn8⟩ ?_
              intro r hr
              obtain ⟨o, ho⟩ : ∃ o, o = p_fw nd n ((1 : Int32) <<< (w &&& 31)) := ⟨_, rfl⟩
              obtain rfl : r = some (.int o) := by rw [ho, ← hw2]; exact hfo _ _ hr
              exact nx _ _ (by rw [p_moh, ← hw, if_pos h6, if_pos h5, ← hl, ← hre, if_pos h7, ho]) (by rw [p_mof, if_pos h5])
            · have h7 : ¬ re = 0 := h7
              refine And.intro (fun _ => ?_) (fun q => absurd rfl q)
              refine And.intro (fun _ => ?_) (fun q => absurd rfl q)
              exact nx _ _ (by rw [p_moh, ← hw, if_pos h6, if_pos h5, ← hl, ← hre, if_neg h7, p_or0]) (by rw [p_mof, if_pos h5])
          · have h6 : ¬ p_hb h1 w = 0 := h1n h6
            refine And.intro (fun _ => ?_) (fun q => absurd rfl q)
            refine And.intro (fun _ => ?_) (fun q => absurd rfl q)
            refine And.intro (fun _ => ?_) (fun q => absurd rfl q)
            exact nx _ _ (by rw [p_moh, ← hw, if_neg h6, p_or0]) (by rw [p_mof, if_pos h5])
      · have q : ¬ x < A 1 29 := q
        rw [hx, hp, nI_ltI (by omega) (by omega)] at q; omega
  have hTB := p_motB h on nd cl pn n (A 1 0) (A 1 26) (A 1 27) (A 1 1) d p pl hp6 (2 ^ pl) h2p
  have hWB := p_m10_pos pl hp6
  have hgn := p_gcd_ne (a := p_m10 pl) (b := p_mot on nd cl pn n (A 1 0) (A 1 26) (A 1 27) (A 1 1) d v p pl (2 ^ pl)) hWB
  have l5 : ∀ (k j : Nat) (gx : Int32) (T : Int64), j + k = 2 ^ pl → gx = nI j → T = p_mot on nd cl pn n (A 1 0) (A 1 26) (A 1 27) (A 1 1) d v p pl j → G 5 [some (.ref 0), some (.int v), some (.int p), some (.int z), some (.int (A 1 29)), some (.long T), none, some (.long (p_m10 pl)), none, some (.int gx), none, none, none, none, none, none, none, none] [] (mdW s A) := by
    intro k
    induction k with
    | zero =>
      intro j gx T hj hg hT2
      have hT3 : T = p_mot on nd cl pn n (A 1 0) (A 1 26) (A 1 27) (A 1 1) d v p pl (2 ^ pl) := by rw [hT2, show j = 2 ^ pl by omega]
      rw [← hT3] at hTB hgn hT
      refine hG 5 _ _ _ (And.intro (fun q => ?_) (fun q => ?_))
      · have q : gx < (1 : Int32) <<< (A 1 29 &&& 31) := q
        rw [hg, hp, p_2n pl (by omega), nI_ltI (by omega) (by omega)] at q; omega
      · refine And.intro ⟨p_m10 pl, T, rfl, by omega, hTB.1⟩ ?_
        intro r hr
        obtain rfl : r = some (.long (p_gcd (p_m10 pl) T)) := hr
        refine And.intro (fun h4 => ?_) (fun h4 => ?_)
        · exact And.intro hgn (fin _ (by rw [r_modds, if_neg h, if_neg h2, if_neg h3, if_pos h4, hT, hW]))
        · exact And.intro hgn (fin _ (by rw [r_modds, if_neg h, if_neg h2, if_neg h3, if_neg h4, hT, hW]))
    | succ k ih =>
      intro j gx T hj hg hT2
      refine hG 5 _ _ _ (And.intro (fun q => ?_) (fun q => ?_))
      · exact And.intro (vi159 26 (by omega)) (l6 T _ gx (fun T2 h4 => ih (j + 1) _ _ (by omega) (by rw [hg, nI_1]) (by rw [h4, hT2, p_mot, hg])) pl 0 0 (A 1 26) 1 (by omega) nI_0.symm rfl)
      · have q : ¬ gx < (1 : Int32) <<< (A 1 29 &&& 31) := q
        rw [hg, hp, p_2n pl (by omega), nI_ltI (by omega) (by omega)] at q; omega
  have l3 : ∀ (k i : Nat) (x : Int32) (W : Int64), i + k = pl → x = nI i → W = p_m10 i → G 3 [some (.ref 0), some (.int v), some (.int p), some (.int z), some (.int (A 1 29)), some (.long 0), none, some (.long W), none, some (.int x), none, none, none, none, none, none, none, none] [] (mdW s A) := by
    intro k
    induction k with
    | zero =>
      intro i x W hi hx hW2
      refine hG 3 _ _ _ (And.intro (fun q => ?_) (fun q => ?_))
      · have q : x < A 1 29 := q
        rw [hx, hp, nI_ltI (by omega) (by omega)] at q; omega
      · rw [hW2, show i = pl by omega]
        exact l5 (2 ^ pl) 0 0 0 (by omega) nI_0.symm rfl
    | succ k ih =>
      intro i x W hi hx hW2
      refine hG 3 _ _ _ (And.intro (fun q => ?_) (fun q => ?_))
      · exact ih (i + 1) _ _ (by omega) (by rw [hx, nI_1]) (by rw [hW2, p_m10])
      · have q : ¬ x < A 1 29 := q
        rw [hx, hp, nI_ltI (by omega) (by omega)] at q; omega
  exact And.intro (vi159 29 (by omega)) (l3 pl 0 0 1 (by omega) nI_0.symm rfl)

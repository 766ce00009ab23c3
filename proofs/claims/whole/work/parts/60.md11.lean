/-! ===== WishClerkModel: asking by a seed ===== -/
def p_mwr (y sd : Int32) : Int32 := ((sd >>> ((16 : Int32) &&& 31)) &&& 32767) - ((sd >>> ((16 : Int32) &&& 31)) &&& 32767) / y * y
/-- what holds, who lives, how often refused, the seed -/
def p_mwS (on nd cl : Nat → Int32) (y : Int32) (n : Nat) (li ba : Int32) (d : Nat) (q : Int32 × Int32 × Int32 × Int32) : Int32 × Int32 × Int32 × Int32 :=
  if p_hb q.1 (p_mwr y (q.2.2.2 * 1103515245 + 12345)) = 0 then
    (if p_re on nd cl n li ba (p_mwr y (q.2.2.2 * 1103515245 + 12345)) q.1 q.2.1 d = 0 then (q.1 ||| p_fw nd n ((1 : Int32) <<< (p_mwr y (q.2.2.2 * 1103515245 + 12345) &&& 31)), q.2.1 ||| p_ga on n (p_fw nd n ((1 : Int32) <<< (p_mwr y (q.2.2.2 * 1103515245 + 12345) &&& 31))), q.2.2.1, q.2.2.2 * 1103515245 + 12345) else (q.1, q.2.1, q.2.2.1 + 1, q.2.2.2 * 1103515245 + 12345))
  else (q.1 &&& (p_tk nd n ((1 : Int32) <<< (p_mwr y (q.2.2.2 * 1103515245 + 12345) &&& 31)) q.1 n ^^^ (-1)), q.2.1, q.2.2.1, q.2.2.2 * 1103515245 + 12345)
def p_mw (on nd cl : Nat → Int32) (y : Int32) (n : Nat) (li ba : Int32) (d : Nat) (h l sd : Int32) : Nat → Int32 × Int32 × Int32 × Int32
  | 0 => (h, l, 0, sd)
  | k + 1 => p_mwS on nd cl y n li ba d (p_mw on nd cl y n li ba d h l sd k)
def p_mwq (st : Nat → Int32) (y sd t : Int32) : Int32 × Int32 × Int32 × Int32 := p_mw (fun i => st (2 + i)) (fun i => st (10 + i)) (fun i => st (18 + i)) y y.toNatClampNeg (st 27) (st 1) (st 28).toNatClampNeg (st 26) (st 0) sd t.toNatClampNeg
def r_mwild (st : Nat → Int32) (y sd t z : Int32) : Int32 := if t < 1 then -1 else if 60 < t then -1 else if z < 0 ∨ 1 < z then -1 else if y = 0 then -2 else if z = 0 then (p_mwq st y sd t).2.1 else (p_mwq st y sd t).2.2.1
def c_X6_wild : sCtr := ((yX6_wild, cX6_wild, 10, (some .int)), (7, 3, 3, 75), true,
  mdfp,
  fun vs L => ∃ (s : Nat → Int32) (A : Nat → Nat → Int32) (sd t z : Int32) (n d : Nat), vs = [.ref 0, .int sd, .int t, .int z] ∧ L = mdW s A ∧ s 3 = nI n ∧ n ≤ 8 ∧ A 1 28 = nI d ∧ d ≤ 8,
  fun vs L r _ => r = some (.int (r_mwild (bF L 1) (oI L 0 3) (vI vs 1) (vI vs 2) (vI vs 3))))
theorem sta_X6_wild : s_Sta c_X6_wild := ⟨⟨by decide +kernel, by decide +kernel, by decide +kernel⟩, List.mem_of_getElem? (i := 1211) (by decide +kernel), List.mem_of_getElem? (i := 70) (by decide +kernel), ⟨List.mem_of_getElem? (i := 1209) (by decide +kernel), List.mem_of_getElem? (i := 1210) (by decide +kernel), Or.inl ⟨_, rfl, rfl⟩⟩⟩

def k_X6_wild : List sBk := [
  (0, false, [true, true, true, true, false, false, false, false, false, false], [o0 0 (.iload_n 2), o0 1 .i2l, oK 2 (.lconst 1) (.long 1), oV 3 (.ldc2_w 261) [1212] (.long 60), oC 6 (.invokestatic 90) [921] c_X6_in, oN 9 (.ifCond .eq 13) [1], o0 12 (.iload_n 3), o0 13 .i2l, oK 14 (.lconst 0) (.long 0), oK 15 (.lconst 1) (.long 1), oC 16 (.invokestatic 90) [921] c_X6_in, oN 19 (.ifCond .ne 5) [2], oN 22 .nop [1]]),
  (22, false, [false, false, false, false, false, false, false, false, false, false], [oK 22 (.iconst (-1)) (.int (-1)), o0 23 .ireturn]),
  (24, false, [true, true, true, true, false, false, false, false, false, false], [o0 24 (.aload_n 0), oN 25 (.getfield 85) [6, 3, 825], oN 28 (.ifCond .ne 6) [3], oK 31 (.bipush (-2)) (.int (-2)), o0 33 .ireturn]),
  (34, false, [true, true, true, true, false, false, false, false, false, false], [o0 34 (.aload_n 0), oN 35 (.getfield 7) [6, 0, 822], oK 38 (.bipush 26) (.int 26), o0 40 .iaload, o0 41 (.istore 4), o0 43 (.aload_n 0), oN 44 (.getfield 7) [6, 0, 822], oK 47 (.iconst 0) (.int 0), o0 48 .iaload, o0 49 (.istore 5), oK 51 (.iconst 0) (.int 0), o0 52 (.istore 6), o0 54 (.iload_n 1), o0 55 (.istore 7), oK 57 (.iconst 0) (.int 0), o0 58 (.istore 8), oN 60 .nop [4]]),
  (60, true, [true, false, true, true, true, true, true, true, true, false], [o0 60 (.iload 8), o0 62 (.iload_n 2), oN 63 (.if_icmp .ge 132) [8], o0 66 (.iload 7), oV 68 (.ldc_w 263) [1213] (.int 1103515245), o0 71 .imul, oK 72 (.sipush 12345) (.int 12345), o0 75 .iadd, o0 76 (.istore 7), o0 78 (.iload 7), oK 80 (.bipush 16) (.int 16), o0 82 .ishr, oK 83 (.sipush 32767) (.int 32767), o0 86 .iand, o0 87 (.aload_n 0), oN 88 (.getfield 85) [6, 3, 825], o0 91 .irem, o0 92 (.istore 9), o0 94 (.iload 4), o0 96 (.iload 9), o0 98 .ishr, oK 99 (.iconst 1) (.int 1), o0 100 .iand, oK 101 (.iconst 1) (.int 1), oN 102 (.if_icmp .ne 23) [5], o0 105 (.iload 4), o0 107 (.aload_n 0), oK 108 (.iconst 1) (.int 1), o0 109 (.iload 9), o0 111 .ishl, o0 112 (.iload 4), oC 114 (.invokevirtual 222) [1112] c_X6_takenBy, oK 117 (.iconst (-1)) (.int (-1)), o0 118 .ixor, o0 119 .iand, o0 120 (.istore 4), oN 122 (.goto 67) [7]]),
  (125, false, [true, false, true, true, true, true, true, true, true, true], [o0 125 (.aload_n 0), o0 126 (.iload 9), o0 128 (.iload 4), o0 130 (.iload 5), o0 132 (.aload_n 0), oN 133 (.getfield 7) [6, 0, 822], oK 136 (.bipush 28) (.int 28), o0 138 .iaload, o0 139 (.aload_n 0), oN 140 (.getfield 7) [6, 0, 822], oK 143 (.bipush 27) (.int 27), o0 145 .iaload, oC 146 (.invokevirtual 212) [1092] c_X6_refusal, oN 149 (.ifCond .ne 37) [6], o0 152 (.iload 4), o0 154 (.aload_n 0), oK 155 (.iconst 1) (.int 1), o0 156 (.iload 9), o0 158 .ishl, oC 159 (.invokevirtual 189) [1019] c_X6_follow, o0 162 .ior, o0 163 (.istore 4), o0 165 (.iload 5), o0 167 (.aload_n 0), oK 168 (.iconst 2) (.int 2), o0 169 (.aload_n 0), oK 170 (.iconst 1) (.int 1), o0 171 (.iload 9), o0 173 .ishl, oC 174 (.invokevirtual 189) [1019] c_X6_follow, oC 177 (.invokevirtual 182) [1023] c_X6_allOf, o0 180 .ior, o0 181 (.istore 5), oN 183 (.goto 6) [7]]),
  (186, false, [true, false, true, true, true, true, true, true, true, false], [oK 186 (.iinc 6 1) (.int 1), oN 189 .nop [7]]),
  (189, false, [true, false, true, true, true, true, true, true, true, false], [oK 189 (.iinc 8 1) (.int 1), oN 192 (.goto (-132)) [4]]),
  (195, false, [false, false, false, true, false, true, true, false, false, false], [o0 195 (.iload_n 3), oN 196 (.ifCond .ne 8) [9], o0 199 (.iload 5), oN 201 (.goto 5) [10]]),
  (204, false, [false, false, false, false, false, false, true, false, false, false], [o0 204 (.iload 6), oN 206 .nop [10]]),
  (206, false, [false, false, false, false, false, false, false, false, false, false], [o0 206 .ireturn])]
set_option maxRecDepth 100000 in
theorem ck_X6_wild : s_ck RX6 cX6_wild 10 3 75 k_X6_wild = true := by decide +kernel

set_option maxRecDepth 100000 in
set_option maxHeartbeats 1000000 in
theorem ok_X6_wild : s_Ok c_X6_wild := by
  refine s_ok_of k_X6_wild (by decide +kernel) sta_X6_wild ck_X6_wild (And.intro ok_X6_in (And.intro ok_X6_in (And.intro ok_X6_takenBy (And.intro ok_X6_refusal (And.intro ok_X6_follow (And.intro ok_X6_follow (And.intro ok_X6_allOf trivial))))))) ?_
  rintro vs L ⟨s, A, sd, t, z, n, d, rfl, rfl, hn, hn8, hd, hd8⟩
  refine ⟨rfl, fun G hG => ?_⟩
  have e3 : (s 3).toNatClampNeg = n := by rw [hn, nI_clamp (by omega)]
  have ed : (A 1 28).toNatClampNeg = d := by rw [hd, nI_clamp (by omega)]
  have fin : ∀ a : Int32, a = r_mwild (A 1) (s 3) sd t z → s_PP (some .int) true c_X6_wild.2.2.2.2.2 [.ref 0, .int sd, .int t, .int z] (mdW s A) (some (.int a)) (mdW s A) := fun a ha => ⟨rfl, by rw [ha]; rfl, fun _ => rfl⟩
  refine hG 0 _ _ _ (And.intro ⟨_, _, _, rfl⟩ ?_)
  intro r hr
  obtain ⟨b, hb⟩ : ∃ b, b = if t < 1 then (0 : Int32) else if 60 < t then 0 else 1 := ⟨_, rfl⟩
  obtain rfl : r = some (.int b) := by
    rw [hb, ← p_in64_i]; exact hr
  refine And.intro (fun h => ?_) (fun h => ?_)
  · have h : b = 0 := h
    refine fin _ ?_
    rw [r_mwild]
    by_cases h1 : t < 1
    · rw [if_pos h1]
    · rw [if_neg h1]
      by_cases h2 : 60 < t
      · rw [if_pos h2]
      · rw [hb, if_neg h1, if_neg h2] at h; exact absurd h (by decide)
  have h : ¬ b = 0 := h
  have h1 : ¬ t < 1 := fun q => h (by rw [hb, if_pos q])
  have h2 : ¬ 60 < t := fun q => h (by rw [hb, if_neg h1, if_pos q])
  refine And.intro ⟨_, _, _, rfl⟩ ?_
  intro r hr
  obtain ⟨b2, hb2⟩ : ∃ b, b = p_in64 z.toInt64 0 (1 : Int32).toInt64 := ⟨_, rfl⟩
  obtain rfl : r = some (.int b2) := by rw [hb2]; exact hr
  refine And.intro (fun h3 => ?_) (fun h3 => ?_)
  · have h3 : z < 0 ∨ 1 < z := (p_rng _ _).mp (hb2.symm.trans h3)
    exact fin _ (by rw [r_mwild, if_neg h1, if_neg h2, if_pos h3])
  have h3 : ¬ (z < 0 ∨ 1 < z) := fun q => h3 (hb2.trans ((p_rng _ _).mpr q))
  refine And.intro (fun h4 => ?_) (fun h4 => ?_)
  · have h4 : s 3 = 0 := h4
    exact fin _ (by rw [r_mwild, if_neg h1, if_neg h2, if_neg h3, if_pos h4])
  have h4 : ¬ s 3 = 0 := h4
  obtain ⟨M, hM2, hM⟩ := nI_of (x := t) (fun q => h1 (by
    have a := Int32.lt_iff_toInt_lt.mp q
    rw [Int32.lt_iff_toInt_lt]
    have z0 : (0 : Int32).toInt = 0 := rfl
    have z1 : (1 : Int32).toInt = 1 := rfl
    omega))
  obtain ⟨on, hon⟩ : ∃ on, on = fun i => A 1 (2 + i) := ⟨_, rfl⟩
  obtain ⟨nd, hnd⟩ : ∃ nd, nd = fun i => A 1 (10 + i) := ⟨_, rfl⟩
  obtain ⟨cl, hcl⟩ : ∃ cl, cl = fun i => A 1 (18 + i) := ⟨_, rfl⟩
  have hP : p_mwq (A 1) (s 3) sd t = p_mw on nd cl (s 3) n (A 1 27) (A 1 1) d (A 1 26) (A 1 0) sd M := by
    rw [p_mwq, e3, ed, hM, nI_clamp hM2, hon, hnd, hcl]
  have loop : ∀ (k i : Nat) (x a1 a2 a3 a4 : Int32), i + k = M → x = nI i → (a1, a2, a3, a4) = p_mw on nd cl (s 3) n (A 1 27) (A 1 1) d (A 1 26) (A 1 0) sd i → G 4 [some (.ref 0), none, some (.int t), some (.int z), some (.int a1), some (.int a2), some (.int a3), some (.int a4), some (.int x), none] [] (mdW s A) := by
    intro k
    induction k with
    | zero =>
      intro i x a1 a2 a3 a4 hi hx ha
      have hq : p_mwq (A 1) (s 3) sd t = (a1, a2, a3, a4) := by rw [hP, ha, show i = M by omega]
      refine hG 4 _ _ _ (And.intro (fun q => ?_) (fun q => ?_))
      · have q : x < t := q
        rw [hx, hM, nI_ltI (by omega) (by omega)] at q; omega
      · refine And.intro (fun h5 => ?_) (fun h5 => ?_)
        · exact fin _ (by rw [r_mwild, if_neg h1, if_neg h2, if_neg h3, if_neg h4, if_pos h5, hq])
        · exact fin _ (by rw [r_mwild, if_neg h1, if_neg h2, if_neg h3, if_neg h4, if_neg h5, hq])
    | succ k ih =>
      intro i x a1 a2 a3 a4 hi hx ha
      have next : ∀ b1 b2 b3 b4 : Int32, (b1, b2, b3, b4) = p_mwS on nd cl (s 3) n (A 1 27) (A 1 1) d (a1, a2, a3, a4) → G 4 [some (.ref 0), none, some (.int t), some (.int z), some (.int b1), some (.int b2), some (.int b3), some (.int b4), some (.int (x + 1)), none] [] (mdW s A) := fun b1 b2 b3 b4 hb => ih (i + 1) _ _ _ _ _ (by omega) (by rw [hx, nI_1]) (by rw [hb, p_mw, ← ha])
      obtain ⟨w, hw⟩ : ∃ w, w = p_mwr (s 3) (a4 * 1103515245 + 12345) := ⟨_, rfl⟩
      obtain ⟨g, hg⟩ : ∃ g, g = p_fw nd n ((1 : Int32) <<< (w &&& 31)) := ⟨_, rfl⟩
      refine hG 4 _ _ _ (And.intro (fun q => ?_) (fun q => ?_))
      · refine And.intro h4 ?_
        refine And.intro (fun h5 => ?_) (fun h5 => ?_)
        · have h5 : (a1 >>> (p_mwr (s 3) (a4 * 1103515245 + 12345) &&& 31)) &&& 1 = 1 := h5
          rw [← hw] at h5
          have h5 : ¬ p_hb a1 w = 0 := fun q => p_hb_0.mp q h5
          refine And.intro ⟨s, A, _, _, n, rfl, rfl, hn, hn8⟩ ?_
          intro r hr
          obtain ⟨tk, htk⟩ : ∃ tk, tk = p_tk nd n ((1 : Int32) <<< (w &&& 31)) a1 n := ⟨_, rfl⟩
          obtain rfl : r = some (.int tk) := by
            have h6 : r = some (.int (p_tk (fun i => A 1 (10 + i)) (s 3).toNatClampNeg ((1 : Int32) <<< (p_mwr (s 3) (a4 * 1103515245 + 12345) &&& 31)) a1 (s 3).toNatClampNeg)) := hr
            rw [h6, htk, hnd, e3, hw]
          exact next _ _ _ _ (by rw [p_mwS]; show _ = if p_hb a1 (p_mwr (s 3) (a4 * 1103515245 + 12345)) = 0 then _ else _; rw [← hw, if_neg h5, htk])
        · have h5 : ¬ (a1 >>> (p_mwr (s 3) (a4 * 1103515245 + 12345) &&& 31)) &&& 1 = 1 := h5
          rw [← hw] at h5
          have h5 : p_hb a1 w = 0 := p_hb_0.mpr h5
          refine And.intro (vi159 28 (by omega)) (And.intro (vi159 27 (by omega)) (And.intro ⟨s, A, _, _, _, _, _, n, d, rfl, rfl, hn, hn8, hd, hd8⟩ ?_))
          intro r hr
          obtain ⟨re, hre⟩ : ∃ re, re = p_re on nd cl n (A 1 27) (A 1 1) w a1 a2 d := ⟨_, rfl⟩
          obtain rfl : r = some (.int re) := by
            have h6 : r = some (.int (p_re (fun i => A 1 (2 + i)) (fun i => A 1 (10 + i)) (fun i => A 1 (18 + i)) (s 3).toNatClampNeg (A 1 27) (A 1 1) (p_mwr (s 3) (a4 * 1103515245 + 12345)) a1 a2 (A 1 28).toNatClampNeg)) := hr
            rw [h6, hre, hon, hnd, hcl, e3, ed, hw]
          refine And.intro (fun h6 => ?_) (fun h6 => ?_)
          · have h6 : re = 0 := h6
            refine And.intro ⟨s, A, _, n, rfl, rfl, hn, hn8⟩ ?_
            intro r hr
            obtain rfl : r = some (.int g) := by
              have h7 : r = some (.int (p_fw (fun i => A 1 (10 + i)) (s 3).toNatClampNeg ((1 : Int32) <<< (p_mwr (s 3) (a4 * 1103515245 + 12345) &&& 31)))) := hr
              rw [h7, hg, hnd, e3, hw]
            refine And.intro ⟨s, A, _, n, rfl, rfl, hn, hn8⟩ ?_
            intro r hr
            obtain rfl : r = some (.int g) := by
              have h7 : r = some (.int (p_fw (fun i => A 1 (10 + i)) (s 3).toNatClampNeg ((1 : Int32) <<< (p_mwr (s 3) (a4 * 1103515245 + 12345) &&& 31)))) := hr
              rw [h7, hg, hnd, e3, hw]
            refine And.intro ⟨s, A, 2, _, n, rfl, rfl, hn, hn8, by omega⟩ ?_
            intro r hr
            obtain rfl : r = some (.int (p_ga on n g)) := by
              have h7 : r = some (.int (p_ga (fun i => A 1 (2 + i)) (s 3).toNatClampNeg g)) := hr
              rw [h7, hon, e3]
            exact next _ _ _ _ (by rw [p_mwS]; show _ = if p_hb a1 (p_mwr (s 3) (a4 * 1103515245 + 12345)) = 0 then (if p_re on nd cl n (A 1 27) (A 1 1) (p_mwr (s 3) (a4 * 1103515245 + 12345)) a1 a2 d = 0 then (a1 ||| p_fw nd n ((1 : Int32) <<< (p_mwr (s 3) (a4 * 1103515245 + 12345) &&& 31)), a2 ||| p_ga on n (p_fw nd n ((1 : Int32) <<< (p_mwr (s 3) (a4 * 1103515245 + 12345) &&& 31))), a3, a4 * 1103515245 + 12345) else _) else _; rw [← hw, if_pos h5, ← hre, if_pos h6, ← hg])
          · have h6 : ¬ re = 0 := h6
            exact next _ _ _ _ (by rw [p_mwS]; show _ = if p_hb a1 (p_mwr (s 3) (a4 * 1103515245 + 12345)) = 0 then (if p_re on nd cl n (A 1 27) (A 1 1) (p_mwr (s 3) (a4 * 1103515245 + 12345)) a1 a2 d = 0 then _ else (a1, a2, a3 + 1, a4 * 1103515245 + 12345)) else _; rw [← hw, if_pos h5, ← hre, if_neg h6])
      · have q : ¬ x < t := q
        rw [hx, hM, nI_ltI (by omega) (by omega)] at q; omega
  have l0 := loop M 0 0 (A 1 26) (A 1 0) 0 sd (by omega) nI_0.symm rfl
  exact And.intro (vi159 26 (by omega)) (And.intro (vi159 0 (by omega)) l0)

/-! ===== WishClerk: the fewest struck ===== -/
/-- a set is fresh, of a size, and leaves no row -/
def p_lsT (mv al fo : Nat → Int32) (li p : Int32) (n h0 N : Nat) (z k : Nat) : Int32 := if nI k &&& li = 0 then (if p_bc (nI k) = nI z then (if p_ldr mv al fo (nI k) p n h0 N = 0 then 1 else 0) else 0) else 0
def p_lsI (T : Nat → Int32) : Nat → Nat → Int32
  | 0, _ => -4
  | f + 1, k => if T k = 1 then nI k else p_lsI T f (k + 1)
def p_lsO (T : Nat → Nat → Int32) (N : Nat) : Nat → Nat → Int32
  | 0, _ => -4
  | f + 1, z => if p_lsI (T z) N 0 = -4 then p_lsO T N f (z + 1) else p_lsI (T z) N 0
theorem p_lsI_r (T : Nat → Int32) : ∀ f k, p_lsI T f k = -4 ∨ ∃ j, j < k + f ∧ p_lsI T f k = nI j
  | 0, _ => Or.inl rfl
  | f + 1, k => by
    rw [p_lsI]
    split
    · exact Or.inr ⟨k, by omega, rfl⟩
    · exact (p_lsI_r T f (k + 1)).imp id (fun ⟨j, h1, h2⟩ => ⟨j, by omega, h2⟩)
def c_X5_leastStruck : sCtr := ((yX5_leastStruck, cX5_leastStruck, 5, (some .int)), (6, 1, 3, 69), false,
  wrfp,
  fun vs L => ∃ (x0 x1 x3 x4 x5 : Nat) (y7 y8 y9 a b : Int32) (M : Nat → Nat → Int32) (s : Nat → Int32) (F : Nat → Nat → Int32) (p : Int32) (n h0 : Nat), vs = [.ref 0, .int p] ∧ L = wr5 x0 x1 x3 x4 x5 y7 y8 y9 a b M s F ∧ bOK s F n h0 ∧ a = nI h0 ∧ b = nI (2 ^ n),
  fun vs L r L' => r = some (.int (p_lsO (p_lsT (bF L 2) (bF L 3) (bF L 12) (oI L 6 6) (vI vs 1) (oI L 6 1).toNatClampNeg (oI L 1 4).toNatClampNeg (oI L 1 5).toNatClampNeg) (oI L 1 5).toNatClampNeg ((oI L 6 1).toNatClampNeg + 1) 0)) ∧ ∃ g, L' = wrL L (oI L 1 4) (oI L 1 5) (va_up (bG 1 L) 4 g))
theorem sta_X5_leastStruck : s_Sta c_X5_leastStruck := ⟨⟨by decide +kernel, by decide +kernel, by decide +kernel⟩, List.mem_of_getElem? (i := 661) (by decide +kernel), List.mem_of_getElem? (i := 64) (by decide +kernel), ⟨List.mem_of_getElem? (i := 660) (by decide +kernel), List.mem_of_getElem? (i := 21) (by decide +kernel), Or.inl ⟨_, rfl, rfl⟩⟩⟩

def k_X5_leastStruck : List sBk := [
  (0, false, [true, true, false, false, false], [oK 0 (.iconst 0) (.int 0), o0 1 (.istore_n 2), oN 2 .nop [1]]),
  (2, true, [true, true, true, false, false], [o0 2 (.iload_n 2), o0 3 (.aload_n 0), oN 4 (.getfield 49) [5, 6, 304], oN 7 (.getfield 82) [0, 1, 121], oN 10 (.if_icmp .gt 78) [7], oK 13 (.iconst 0) (.int 0), o0 14 (.istore_n 3), oN 15 .nop [2]]),
  (15, true, [true, true, true, true, false], [o0 15 (.iload_n 3), o0 16 (.aload_n 0), oN 17 (.getfield 49) [5, 6, 304], oC 20 (.invokevirtual 194) [662] c_X0_sets, oN 23 (.if_icmp .ge 59) [6], o0 26 (.iload_n 3), o0 27 (.aload_n 0), oN 28 (.getfield 49) [5, 6, 304], oN 31 (.getfield 97) [0, 6, 136], o0 34 .iand, oN 35 (.ifCond .ne 7) [3], oK 38 (.iconst 1) (.int 1), oN 39 (.goto 4) [4]]),
  (42, false, [true, true, true, true, false], [oK 42 (.iconst 0) (.int 0), oN 43 .nop [4]]),
  (43, true, [true, true, true, true, false], [o0 43 (.istore 4), o0 45 (.iload 4), oN 47 (.ifCond .eq 29) [5], o0 50 (.iload_n 3), oC 51 (.invokestatic 160) [574] c_J6_bitCount_0f7a4, o0 54 (.iload_n 2), oN 55 (.if_icmp .ne 21) [5], o0 58 (.aload_n 0), oN 59 (.getfield 28) [5, 2, 300], o0 62 (.aload_n 0), oN 63 (.getfield 49) [5, 6, 304], o0 66 (.iload_n 1), o0 67 (.iload_n 3), oC 68 (.invokevirtual 181) [650] c_X2_leadTo, oN 71 (.ifCond .ne 5) [5], o0 74 (.iload_n 3), o0 75 .ireturn]),
  (76, true, [true, true, true, true, false], [oK 76 (.iinc 3 1) (.int 1), oN 79 (.goto (-64)) [2]]),
  (82, false, [true, true, true, false, false], [oK 82 (.iinc 2 1) (.int 1), oN 85 (.goto (-83)) [1]]),
  (88, false, [false, false, false, false, false], [oK 88 (.bipush (-4)) (.int (-4)), o0 90 .ireturn])]
set_option maxRecDepth 100000 in
theorem ck_X5_leastStruck : s_ck RX5 cX5_leastStruck 5 3 69 k_X5_leastStruck = true := by decide +kernel

theorem okb_X5_leastStruck : s_okb k_X5_leastStruck := by
  show s_Ok c_X0_sets ∧ s_Ok c_J6_bitCount_0f7a4 ∧ s_Ok c_X2_leadTo ∧ True
  exact ⟨ok_X0_sets, ok_J6_bitCount_0f7a4, ok_X2_leadTo, trivial⟩
set_option maxRecDepth 100000 in
set_option maxHeartbeats 4000000 in
theorem ok_X5_leastStruck : s_Ok c_X5_leastStruck := by
  refine s_ok_of k_X5_leastStruck (by decide +kernel) sta_X5_leastStruck ck_X5_leastStruck okb_X5_leastStruck ?_
  rintro vs L ⟨x0, x1, x3, x4, x5, y7, y8, y9, a, b, M, s, F, p, n, h0, rfl, rfl, hb, ha, hbe⟩
  refine ⟨rfl, fun G hG => ?_⟩
  obtain ⟨hn1, hn, hs5, hh0, hnd, hon, hfo, hwa⟩ := id hb
  have h28 := p_2le n hn
  have e1 : (s 1).toNatClampNeg = n := by rw [hn1, nI_clamp (by omega)]
  have ea : a.toNatClampNeg = h0 := by rw [ha, nI_clamp (by omega)]
  have eb : b.toNatClampNeg = 2 ^ n := by rw [hbe, nI_clamp (by omega)]
  obtain ⟨T, hT⟩ : ∃ T, T = p_lsT (M 1) (M 2) (F 6) (s 6) p n h0 (2 ^ n) := ⟨_, rfl⟩
  obtain ⟨R, hR⟩ : ∃ R, R = p_lsO T (2 ^ n) (n + 1) 0 := ⟨_, rfl⟩
  have fin : ∀ (v : Int32) (g : Nat → Int32), R = v → s_PP (some .int) false c_X5_leastStruck.2.2.2.2.2 [.ref 0, .int p] (wr5 x0 x1 x3 x4 x5 y7 y8 y9 a b M s F) (some (.int v)) (wr5 x0 x1 x3 x4 x5 y7 y8 y9 a b (va_up M 4 g) s F) := by
    intro v g hv
    refine ⟨rfl, ⟨?_, g, rfl⟩, fun h => by cases h⟩
    show some (Value.int v) = some (Value.int (p_lsO (p_lsT (M 1) (M 2) (F 6) (s 6) p (s 1).toNatClampNeg a.toNatClampNeg b.toNatClampNeg) b.toNatClampNeg ((s 1).toNatClampNeg + 1) 0))
    rw [e1, ea, eb, ← hT, ← hR, hv]
  have hTe : ∀ z k, T z k = if nI k &&& s 6 = 0 then (if p_bc (nI k) = nI z then (if p_ldr (M 1) (M 2) (F 6) (nI k) p n h0 (2 ^ n) = 0 then 1 else 0) else 0) else 0 := fun z k => by rw [hT, p_lsT]
  have l1 : ∀ (f z : Nat) (x : Int32) (g : Nat → Int32), z + f = n + 1 → x = nI z → R = p_lsO T (2 ^ n) f z → G 1 [some (.ref 0), some (.int p), some (.int x), none, none] [] (wr5 x0 x1 x3 x4 x5 y7 y8 y9 a b (va_up M 4 g) s F) := by
    intro f
    induction f with
    | zero =>
      intro z x g hz hx hr
      refine hG 1 _ _ _ (And.intro (fun q => ?_) (fun q => ?_))
      · exact fin _ g hr
      · have q : ¬ s 1 < x := q
        rw [hx, hn1, nI_ltI (by omega) (by omega)] at q; omega
    | succ f ih =>
      intro z x g hz hx hr
      refine hG 1 _ _ _ (And.intro (fun q => ?_) (fun q => ?_))
      · have q : s 1 < x := q
        rw [hx, hn1, nI_ltI (by omega) (by omega)] at q; omega
      have l2 : ∀ (f2 k : Nat) (y : Int32) (g : Nat → Int32), k + f2 = 2 ^ n → y = nI k → p_lsI (T z) (2 ^ n) 0 = p_lsI (T z) f2 k → G 2 [some (.ref 0), some (.int p), some (.int x), some (.int y), none] [] (wr5 x0 x1 x3 x4 x5 y7 y8 y9 a b (va_up M 4 g) s F) := by
        intro f2
        induction f2 with
        | zero =>
          intro k y g hk hy hr2
          refine hG 2 _ _ _ (And.intro ⟨_, _, _, rfl, rfl⟩ ?_)
          intro r hr3
          obtain rfl : r = some (.int ((1 : Int32) <<< (s 1 &&& 31))) := hr3
          refine And.intro (fun q => ?_) (fun q => ?_)
          · have q : y < (1 : Int32) <<< (s 1 &&& 31) := q
            rw [hn1, p_2n n (by omega), hy, nI_ltI (by omega) (by omega)] at q; omega
          · refine ih (z + 1) _ g (by omega) (by rw [hx, nI_1]) ?_
            rw [hr, p_lsO, hr2, p_lsI, if_pos rfl]
        | succ f2 ih2 =>
          intro k y g hk hy hr2
          have g5 : ∀ g, T z k = 0 → G 5 [some (.ref 0), some (.int p), some (.int x), some (.int y), none] [] (wr5 x0 x1 x3 x4 x5 y7 y8 y9 a b (va_up M 4 g) s F) := by
            intro g h0
            refine hG 5 _ _ _ ?_
            exact ih2 (k + 1) _ g (by omega) (by rw [hy, nI_1]) (by rw [hr2, p_lsI, h0, if_neg (by decide)])
          have g4 : ∀ c, c = (if nI k &&& s 6 = 0 then 1 else 0) → G 4 [some (.ref 0), some (.int p), some (.int x), some (.int y), none] [.int c] (wr5 x0 x1 x3 x4 x5 y7 y8 y9 a b (va_up M 4 g) s F) := by
            intro c hc
            refine hG 4 _ _ _ (And.intro (fun q => ?_) (fun q => ?_))
            · have q : c = 0 := q
              refine g5 g ?_
              by_cases w : nI k &&& s 6 = 0
              · rw [if_pos w] at hc; rw [hc] at q; exact absurd q (by decide)
              · rw [hTe, if_neg w]
            have q : ¬ c = 0 := q
            have w : nI k &&& s 6 = 0 := by
              by_cases w : nI k &&& s 6 = 0
              · exact w
              · rw [if_neg w] at hc; exact absurd hc q
            refine And.intro ⟨_, rfl⟩ ?_
            intro r hr3
            obtain ⟨bc, hbc⟩ : ∃ bc, bc = p_bc (nI k) := ⟨_, rfl⟩
            obtain rfl : r = some (.int bc) := by rw [hbc, ← hy]; exact hr3
            refine And.intro (fun q2 => ?_) (fun q2 => ?_)
            rotate_left
            · have q2 : ¬ bc = x := q2
              rw [hx, hbc] at q2
              exact g5 g (by rw [hTe, if_pos w, if_neg q2])
            have q2 : bc = x := q2
            rw [hx, hbc] at q2
            refine And.intro ⟨a, b, va_up M 4 g, s, F, p, y, n, h0, rfl, rfl, hb, ha, hbe⟩ ?_
            rintro r L' ⟨hr3, g2, hL⟩
            replace hr3 : r = some (.int (p_ldr (M 1) (M 2) (F 6) y p (s 1).toNatClampNeg a.toNatClampNeg b.toNatClampNeg)) := hr3
            rw [e1, ea, eb, hy] at hr3
            obtain ⟨v, hv⟩ : ∃ v, v = p_ldr (M 1) (M 2) (F 6) (nI k) p n h0 (2 ^ n) := ⟨_, rfl⟩
            rw [← hv] at hr3
            subst hr3
            obtain rfl : L' = rwW a b (va_up M 4 g2) s F := hL
            refine And.intro (fun q3 => ?_) (fun q3 => ?_)
            · have q3 : v = 0 := q3
              have t1 : T z k = 1 := by rw [hTe, if_pos w, if_pos q2, ← hv, if_pos q3]
              refine fin y g2 ?_
              rw [hr, p_lsO, hr2, p_lsI, if_pos t1, if_neg (nI_n4 (by omega)), hy]
            · have q3 : ¬ v = 0 := q3
              exact g5 g2 (by rw [hTe, if_pos w, if_pos q2, ← hv, if_neg q3])
          refine hG 2 _ _ _ (And.intro ⟨_, _, _, rfl, rfl⟩ ?_)
          intro r hr3
          obtain rfl : r = some (.int ((1 : Int32) <<< (s 1 &&& 31))) := hr3
          refine And.intro (fun q => ?_) (fun q => ?_)
          rotate_left
          · have q : ¬ y < (1 : Int32) <<< (s 1 &&& 31) := q
            rw [hn1, p_2n n (by omega), hy, nI_ltI (by omega) (by omega)] at q; omega
          refine And.intro (fun q2 => ?_) (fun q2 => ?_)
          · have q2 : y &&& s 6 = 0 := q2
            rw [hy] at q2
            exact g4 1 (by rw [if_pos q2])
          · have q2 : ¬ y &&& s 6 = 0 := q2
            rw [hy] at q2
            exact g4 0 (by rw [if_neg q2])
      exact l2 (2 ^ n) 0 _ g (by omega) nI_0.symm rfl
  have l := l1 (n + 1) 0 0 (M 4) (by omega) nI_0.symm hR
  rw [va_upI] at l
  exact hG 0 _ _ _ l
def q_few (AS : Nat → Nat → Int32) (LB fo : Nat → Int32) (pe l3 li : Int32) (n h0 : Nat) (p z v : Int32) : Prop := (p_in pe p = 0 ∨ z < 0 ∨ 1 < z → v = -1) ∧ (¬ (p_in pe p = 0 ∨ z < 0 ∨ 1 < z) → (¬ p_hb l3 p = 0 → v = -2) ∧ (p_hb l3 p = 0 → ∃ mv al, CHt AS LB h0 n mv al ∧ v = p_ss (p_lsO (p_lsT mv al fo li p n h0 (2 ^ n)) (2 ^ n) (n + 1) 0) z))
def c_X5_fewest : sCtr := ((yX5_fewest, cX5_fewest, 3, (some .int)), (6, 2, 6, 144), false,
  wrfp,
  fun vs L => ∃ (x0 x1 x3 x4 x5 : Nat) (y7 y8 y9 a b : Int32) (M : Nat → Nat → Int32) (s : Nat → Int32) (F : Nat → Nat → Int32) (p z : Int32) (n h0 d : Nat), vs = [.ref 0, .int p, .int z] ∧ L = wr5 x0 x1 x3 x4 x5 y7 y8 y9 a b M s F ∧ bOK s F n h0 ∧ s 2 = nI d ∧ d ≤ 8,
  fun vs L r L' => ∃ (v : Int32), r = some (.int v) ∧ q_few (p_AS (bF L 9) (bF L 10) (bF L 11) (oI L 6 1).toNatClampNeg (oI L 6 3) (oI L 6 5) (oI L 6 4) (oI L 6 2).toNatClampNeg (oI L 6 6)) (p_LB (bF L 9) (bF L 10) (oI L 6 1).toNatClampNeg (oI L 6 3) (oI L 6 5)) (bF L 12) (oI L 6 0) (oI L 6 3) (oI L 6 6) (oI L 6 1).toNatClampNeg (oI L 6 5).toNatClampNeg (vI vs 1) (vI vs 2) v ∧ ∃ a b M, L' = wrL L a b M)
theorem sta_X5_fewest : s_Sta c_X5_fewest := ⟨⟨by decide +kernel, by decide +kernel, by decide +kernel⟩, List.mem_of_getElem? (i := 657) (by decide +kernel), List.mem_of_getElem? (i := 64) (by decide +kernel), ⟨List.mem_of_getElem? (i := 655) (by decide +kernel), List.mem_of_getElem? (i := 656) (by decide +kernel), Or.inl ⟨_, rfl, rfl⟩⟩⟩

def k_X5_fewest : List sBk := [
  (0, false, [true, true, true], [o0 0 (.aload_n 0), oN 1 (.getfield 49) [5, 6, 304], o0 4 (.iload_n 1), oC 5 (.invokevirtual 131) [510] c_X0_hasOne, oN 8 (.ifCond .eq 12) [1], o0 11 (.iload_n 2), oN 12 (.ifCond .lt 8) [1], o0 15 (.iload_n 2), oK 16 (.iconst 1) (.int 1), oN 17 (.if_icmp .le 5) [2], oN 20 .nop [1]]),
  (20, false, [false, false, false], [oK 20 (.iconst (-1)) (.int (-1)), o0 21 .ireturn]),
  (22, false, [true, true, true], [o0 22 (.aload_n 0), oN 23 (.getfield 49) [5, 6, 304], oN 26 (.getfield 88) [0, 3, 127], o0 29 (.iload_n 1), oC 30 (.invokestatic 157) [573] c_X5_hasBit, oN 33 (.ifCond .eq 6) [3], oK 36 (.bipush (-2)) (.int (-2)), o0 38 .ireturn]),
  (39, false, [true, true, true], [o0 39 (.aload_n 0), oN 40 (.getfield 28) [5, 2, 300], o0 43 (.aload_n 0), oN 44 (.getfield 49) [5, 6, 304], o0 47 (.aload_n 0), oN 48 (.getfield 49) [5, 6, 304], oN 51 (.getfield 85) [0, 2, 123], oC 54 (.invokevirtual 169) [600] c_X2_chart, o0 57 (.aload_n 0), o0 58 (.iload_n 1), oC 59 (.invokevirtual 185) [658] c_X5_leastStruck, o0 62 (.iload_n 2), oC 63 (.invokestatic 188) [663] c_X5_sizeOrSet, o0 66 .ireturn])]
set_option maxRecDepth 100000 in
theorem ck_X5_fewest : s_ck RX5 cX5_fewest 3 6 144 k_X5_fewest = true := by decide +kernel

theorem okb_X5_fewest : s_okb k_X5_fewest := by
  show s_Ok c_X0_hasOne ∧ s_Ok c_X5_hasBit ∧ s_Ok c_X2_chart ∧ s_Ok c_X5_leastStruck ∧ s_Ok c_X5_sizeOrSet ∧ True
  exact ⟨ok_X0_hasOne, ok_X5_hasBit, ok_X2_chart, ok_X5_leastStruck, ok_X5_sizeOrSet, trivial⟩
set_option maxRecDepth 100000 in
set_option maxHeartbeats 4000000 in
theorem ok_X5_fewest : s_Ok c_X5_fewest := by
  refine s_ok_of k_X5_fewest (by decide +kernel) sta_X5_fewest ck_X5_fewest okb_X5_fewest ?_
  rintro vs L ⟨x0, x1, x3, x4, x5, y7, y8, y9, a, b, M, s, F, p, z, n, h0, d, rfl, rfl, hb, hd, hd8⟩
  refine ⟨rfl, fun G hG => ?_⟩
  obtain ⟨hn1, hn, hs5, hh0, hnd, hon, hfo, hwa⟩ := id hb
  have h28 := p_2le n hn
  have e1 : (s 1).toNatClampNeg = n := by rw [hn1, nI_clamp (by omega)]
  have e5 : (s 5).toNatClampNeg = h0 := by rw [hs5, nI_clamp (by omega)]
  have ed : (s 2).toNatClampNeg = d := by rw [hd, nI_clamp (by omega)]
  have fin' : ∀ (v a' b' : Int32) (M' : Nat → Nat → Int32), q_few (p_AS (F 3) (F 4) (F 5) n (s 3) (s 5) (s 4) d (s 6)) (p_LB (F 3) (F 4) n (s 3) (s 5)) (F 6) (s 0) (s 3) (s 6) n h0 p z v → s_PP (some .int) false c_X5_fewest.2.2.2.2.2 [.ref 0, .int p, .int z] (wr5 x0 x1 x3 x4 x5 y7 y8 y9 a b M s F) (some (.int v)) (wr5 x0 x1 x3 x4 x5 y7 y8 y9 a' b' M' s F) := by
    intro v a' b' M' hv
    refine ⟨rfl, ⟨v, rfl, ?_, a', b', M', rfl⟩, fun h => by cases h⟩
    show q_few (p_AS (F 3) (F 4) (F 5) (s 1).toNatClampNeg (s 3) (s 5) (s 4) (s 2).toNatClampNeg (s 6)) (p_LB (F 3) (F 4) (s 1).toNatClampNeg (s 3) (s 5)) (F 6) (s 0) (s 3) (s 6) (s 1).toNatClampNeg (s 5).toNatClampNeg p z v
    rw [e1, e5, ed]
    exact hv
  refine hG 0 _ _ _ (And.intro ⟨_, _, _, rfl, rfl⟩ ?_)
  intro r hr
  obtain ⟨o, ho⟩ : ∃ o, o = p_in (s 0) p := ⟨_, rfl⟩
  obtain rfl : r = some (.int o) := by rw [ho]; exact hr
  have bad : p_in (s 0) p = 0 ∨ z < 0 ∨ 1 < z → q_few (p_AS (F 3) (F 4) (F 5) n (s 3) (s 5) (s 4) d (s 6)) (p_LB (F 3) (F 4) n (s 3) (s 5)) (F 6) (s 0) (s 3) (s 6) n h0 p z (-1) := fun q => ⟨fun _ => rfl, fun q2 => absurd q q2⟩
  refine And.intro (fun h => ?_) (fun h => ?_)
  · have h : o = 0 := h
    rw [ho] at h
    exact fin' (-1) a b M (bad (Or.inl h))
  have h : ¬ o = 0 := h
  rw [ho] at h
  refine And.intro (fun h2 => ?_) (fun h2 => ?_)
  · exact fin' (-1) a b M (bad (Or.inr (Or.inl h2)))
  have h2 : ¬ z < 0 := h2
  refine And.intro (fun h3 => ?_) (fun h3 => ?_)
  · exact fin' (-1) a b M (bad (Or.inr (Or.inr h3)))
  have h3 : ¬ 1 < z := h3
  have good : ¬ (p_in (s 0) p = 0 ∨ z < 0 ∨ 1 < z) := by
    rintro (q | q | q)
    · exact h q
    · exact h2 q
    · exact h3 q
  refine And.intro ⟨_, _, rfl⟩ ?_
  intro r hr
  obtain ⟨o2, ho2⟩ : ∃ o, o = p_hb (s 3) p := ⟨_, rfl⟩
  obtain rfl : r = some (.int o2) := by rw [ho2]; exact hr
  refine And.intro (fun h4 => ?_) (fun h4 => ?_)
  rotate_left
  · have h4 : ¬ o2 = 0 := h4
    rw [ho2] at h4
    exact fin' (-2) a b M ⟨fun q => absurd q good, fun _ => ⟨fun _ => rfl, fun q => absurd q h4⟩⟩
  have h4 : o2 = 0 := h4
  rw [ho2] at h4
  refine And.intro ⟨a, b, M, s, F, s 2, n, h0, d, rfl, rfl, hb, hd, hd8⟩ ?_
  rintro r L' ⟨rfl, M1, hL, hC⟩
  obtain ⟨S, hS⟩ : ∃ S, S = (1 : Int32) <<< (s 1 &&& 31) := ⟨_, rfl⟩
  have hSn : S = nI (2 ^ n) := by rw [hS, hn1, p_2n n (by omega)]
  have eS : S.toNatClampNeg = 2 ^ n := by rw [hSn, nI_clamp (by omega)]
  obtain rfl : L' = rwW (s 5) S M1 s F := by rw [hS]; exact hL
  replace hC : CHt (p_AS (F 3) (F 4) (F 5) (s 1).toNatClampNeg (s 3) (s 5) (s 4) (s 2).toNatClampNeg (s 6)) (p_LB (F 3) (F 4) (s 1).toNatClampNeg (s 3) (s 5)) (s 5).toNatClampNeg (s 1).toNatClampNeg (M1 1) (M1 2) := hC
  rw [e1, e5, ed] at hC
  refine And.intro ⟨_, _, _, _, _, y7, y8, y9, s 5, S, M1, s, F, p, n, h0, rfl, rfl, hb, hs5, hSn⟩ ?_
  rintro r L' ⟨hr, g, hL⟩
  replace hr : r = some (.int (p_lsO (p_lsT (M1 1) (M1 2) (F 6) (s 6) p (s 1).toNatClampNeg (s 5).toNatClampNeg S.toNatClampNeg) S.toNatClampNeg ((s 1).toNatClampNeg + 1) 0)) := hr
  rw [e1, e5, eS] at hr
  obtain ⟨v, hv⟩ : ∃ v, v = p_lsO (p_lsT (M1 1) (M1 2) (F 6) (s 6) p n h0 (2 ^ n)) (2 ^ n) (n + 1) 0 := ⟨_, rfl⟩
  rw [← hv] at hr
  subst hr
  obtain rfl : L' = .inr (.inr (5, [.ref (s_rho [0, 1, 2, 3, 4, 5, 6, 7, 8, 9, 10, 11, 12, 13, 14, 15] x0), .ref (s_rho [0, 1, 2, 3, 4, 5, 6, 7, 8, 9, 10, 11, 12, 13, 14, 15] x1), .ref 1, .ref (s_rho [0, 1, 2, 3, 4, 5, 6, 7, 8, 9, 10, 11, 12, 13, 14, 15] x3), .ref (s_rho [0, 1, 2, 3, 4, 5, 6, 7, 8, 9, 10, 11, 12, 13, 14, 15] x4), .ref (s_rho [0, 1, 2, 3, 4, 5, 6, 7, 8, 9, 10, 11, 12, 13, 14, 15] x5), .ref 6, .int y7, .int y8, .int y9])) :: .inr (.inr (2, [.ref 2, .ref 3, .ref 4, .ref 5, .int (s 5), .int S])) :: .inl (0, 256, M1 1) :: .inl (0, 256, M1 2) :: .inl (0, 256, M1 3) :: .inl (2, 256, g) :: bkK 6 s F := hL
  have ue := s_un_rho [0, 1, 2, 3, 4, 5, 6, 7, 8, 9, 10, 11, 12, 13, 14, 15] (by decide)
  refine s_pk_conv (L2 := wr5 x0 x1 x3 x4 x5 y7 y8 y9 (s 5) S (va_up M1 4 g) s F) ?_ ?_
  · show (.inr (.inr (5, [.ref (s_un [0, 1, 2, 3, 4, 5, 6, 7, 8, 9, 10, 11, 12, 13, 14, 15] (s_rho [0, 1, 2, 3, 4, 5, 6, 7, 8, 9, 10, 11, 12, 13, 14, 15] x0)), .ref (s_un [0, 1, 2, 3, 4, 5, 6, 7, 8, 9, 10, 11, 12, 13, 14, 15] (s_rho [0, 1, 2, 3, 4, 5, 6, 7, 8, 9, 10, 11, 12, 13, 14, 15] x1)), .ref 1, .ref (s_un [0, 1, 2, 3, 4, 5, 6, 7, 8, 9, 10, 11, 12, 13, 14, 15] (s_rho [0, 1, 2, 3, 4, 5, 6, 7, 8, 9, 10, 11, 12, 13, 14, 15] x3)), .ref (s_un [0, 1, 2, 3, 4, 5, 6, 7, 8, 9, 10, 11, 12, 13, 14, 15] (s_rho [0, 1, 2, 3, 4, 5, 6, 7, 8, 9, 10, 11, 12, 13, 14, 15] x4)), .ref (s_un [0, 1, 2, 3, 4, 5, 6, 7, 8, 9, 10, 11, 12, 13, 14, 15] (s_rho [0, 1, 2, 3, 4, 5, 6, 7, 8, 9, 10, 11, 12, 13, 14, 15] x5)), .ref 6, .int y7, .int y8, .int y9])) :: .inr (.inr (2, [.ref 2, .ref 3, .ref 4, .ref 5, .int (s 5), .int S])) :: .inl (0, 256, M1 1) :: .inl (0, 256, M1 2) :: .inl (0, 256, M1 3) :: .inl (2, 256, g) :: bkK 6 s F : sH) = _
    rw [ue x0, ue x1, ue x3, ue x4, ue x5]
    rfl
  refine And.intro ⟨_, _, rfl⟩ ?_
  intro r hr
  obtain rfl : r = some (.int (p_ss v z)) := hr
  exact fin' (p_ss v z) (s 5) S (va_up M1 4 g) ⟨fun q => absurd q good, fun _ => ⟨fun q => absurd h4 q, fun _ => ⟨M1 1, M1 2, hC, by rw [hv]⟩⟩⟩

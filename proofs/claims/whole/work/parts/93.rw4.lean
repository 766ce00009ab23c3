/-! ===== Rows: everAlive, costs, the first row ===== -/
def rwR (a b : Int32) (M : Nat → Nat → Int32) : sH := [.inr (.inr (2, [.ref 1, .ref 2, .ref 3, .ref 4, .int a, .int b])), .inl (0, 256, M 1), .inl (0, 256, M 2), .inl (0, 256, M 3), .inl (2, 256, M 4)]
def rwRfp (vs : sS) (L : sH) : List Nat := match vs with
  | .ref r :: _ => [r, s_rf L r 0, s_rf L r 1, s_rf L r 2, s_rf L r 3]
  | _ => []
def p_ea (mv al : Nat → Int32) (h0 : Nat) : Nat → Int32
  | 0 => 0
  | i + 1 => if mv (h0 + i) = -1 then p_ea mv al h0 i else p_ea mv al h0 i ||| al (h0 + i)
def c_X2_everAlive : sCtr := ((yX2_everAlive, cX2_everAlive, 3, (some .int)), (3, 0, 0, 0), true,
  rwRfp,
  fun vs L => ∃ (a b : Int32) (M : Nat → Nat → Int32) (h0 N : Nat), vs = [.ref 0] ∧ L = rwR a b M ∧ a = nI h0 ∧ b = nI N ∧ h0 ≤ N ∧ N ≤ 256,
  fun _ L r _ => r = some (.int (p_ea (bF L 1) (bF L 2) (oI L 0 4).toNatClampNeg ((oI L 0 5).toNatClampNeg - (oI L 0 4).toNatClampNeg))))
theorem sta_X2_everAlive : s_Sta c_X2_everAlive := ⟨⟨by decide +kernel, by decide +kernel, by decide +kernel⟩, List.mem_of_getElem? (i := 673) (by decide +kernel), List.mem_of_getElem? (i := 68) (by decide +kernel), ⟨List.mem_of_getElem? (i := 671) (by decide +kernel), List.mem_of_getElem? (i := 672) (by decide +kernel), Or.inl ⟨_, rfl, rfl⟩⟩⟩

def k_X2_everAlive : List sBk := [
  (0, false, [true, false, false], [oK 0 (.iconst 0) (.int 0), o0 1 (.istore_n 1), o0 2 (.aload_n 0), oN 3 (.getfield 31) [2, 4, 259], o0 6 (.istore_n 2), oN 7 .nop [1]]),
  (7, true, [true, true, true], [o0 7 (.iload_n 2), o0 8 (.aload_n 0), oN 9 (.getfield 38) [2, 5, 260], oN 12 (.if_icmp .ge 28) [3], o0 15 (.aload_n 0), oN 16 (.getfield 9) [2, 0, 255], o0 19 (.iload_n 2), o0 20 .iaload, oK 21 (.iconst (-1)) (.int (-1)), oN 22 (.if_icmp .eq 12) [2], o0 25 (.iload_n 1), o0 26 (.aload_n 0), oN 27 (.getfield 15) [2, 1, 256], o0 30 (.iload_n 2), o0 31 .iaload, o0 32 .ior, o0 33 (.istore_n 1), oN 34 .nop [2]]),
  (34, false, [true, true, true], [oK 34 (.iinc 2 1) (.int 1), oN 37 (.goto (-30)) [1]]),
  (40, false, [false, true, false], [o0 40 (.iload_n 1), o0 41 .ireturn])]
set_option maxRecDepth 100000 in
theorem ck_X2_everAlive : s_ck RX2 cX2_everAlive 3 0 0 k_X2_everAlive = true := by decide +kernel

set_option maxRecDepth 100000 in
set_option maxHeartbeats 4000000 in
theorem ok_X2_everAlive : s_Ok c_X2_everAlive := by
  refine s_ok_of k_X2_everAlive (by decide +kernel) sta_X2_everAlive ck_X2_everAlive trivial ?_
  rintro vs L ⟨a, b, M, h0, N, rfl, rfl, ha, hb, hN0, hN⟩
  refine ⟨rfl, fun G hG => ?_⟩
  have ea : a.toNatClampNeg = h0 := by rw [ha, nI_clamp (by omega)]
  have eb : b.toNatClampNeg = N := by rw [hb, nI_clamp (by omega)]
  have fin : ∀ v : Int32, v = p_ea (M 1) (M 2) h0 (N - h0) → s_PP (some .int) true c_X2_everAlive.2.2.2.2.2 [.ref 0] (rwR a b M) (some (.int v)) (rwR a b M) := fun v hv => ⟨rfl, by
    show some (Value.int v) = some (Value.int (p_ea (M 1) (M 2) a.toNatClampNeg (b.toNatClampNeg - a.toNatClampNeg)))
    rw [ea, eb, hv], fun _ => rfl⟩
  have loop : ∀ (k i : Nat) (x v : Int32), h0 + i + k = N → x = nI (h0 + i) → v = p_ea (M 1) (M 2) h0 i → G 1 [some (.ref 0), some (.int v), some (.int x)] [] (rwR a b M) := by
    intro k
    induction k with
    | zero =>
      intro i x v hi hx hv
      refine hG 1 _ _ _ (And.intro (fun q => ?_) (fun q => ?_))
      · have q : x < b := q
        rw [hx, hb, nI_ltI (by omega) (by omega)] at q; omega
      · exact fin v (by rw [hv, show i = N - h0 by omega])
    | succ k ih =>
      intro i x v hi hx hv
      have hin : vp_in x 256 := by rw [hx]; exact vp_in_nI (by omega) (by omega)
      have hxc : x.toNatClampNeg = h0 + i := by rw [hx, nI_clamp (by omega)]
      refine hG 1 _ _ _ (And.intro (fun q => ?_) (fun q => ?_))
      rotate_left
      · have q : ¬ x < b := q
        rw [hx, hb, nI_ltI (by omega) (by omega)] at q; omega
      refine And.intro hin (And.intro (fun q2 => ?_) (fun q2 => ?_))
      · have q2 : M 1 x.toNatClampNeg = -1 := q2
        rw [hxc] at q2
        exact ih (i + 1) _ v (by omega) (by rw [hx, nI_1]; rfl) (by rw [p_ea, if_pos q2, hv])
      · have q2 : ¬ M 1 x.toNatClampNeg = -1 := q2
        rw [hxc] at q2
        refine And.intro hin ?_
        exact ih (i + 1) _ (v ||| M 2 x.toNatClampNeg) (by omega) (by rw [hx, nI_1]; rfl) (by rw [p_ea, if_neg q2, hv, hxc])
  exact hG 0 _ _ _ (loop (N - h0) 0 a 0 (by omega) ha rfl)
def p_cx (mv : Int32) (fo pr c : Nat → Int32) (x z : Int32) : Nat → Int32
  | 0 => 1000000
  | k + 1 => if p_hb mv (nI k) = 0 then p_cx mv fo pr c x z k else (if (if z = 0 then 1 else pr k) + c (x ||| fo k).toNatClampNeg < p_cx mv fo pr c x z k then (if z = 0 then 1 else pr k) + c (x ||| fo k).toNatClampNeg else p_cx mv fo pr c x z k)
def c_X2_costOfNext : sCtr := ((yX2_costOfNext, cX2_costOfNext, 7, (some .int)), (3, 3, 1, 21), true,
  rwfp,
  fun vs L => ∃ (a b : Int32) (M : Nat → Nat → Int32) (s : Nat → Int32) (F : Nat → Nat → Int32) (x z : Int32) (h n : Nat), vs = [.ref 0, .ref 5, .int x, .int z] ∧ L = rwW a b M s F ∧ x = nI h ∧ h < 256 ∧ s 1 = nI n ∧ n ≤ 8 ∧ ∀ i, i < n → lt8 (F 6 i),
  fun vs L r _ => r = some (.int (p_cx (bF L 1 (vI vs 2).toNatClampNeg) (bF L 11) (bF L 7) (bF L 3) (vI vs 2) (vI vs 3) (oI L 5 1).toNatClampNeg)))
theorem sta_X2_costOfNext : s_Sta c_X2_costOfNext := ⟨⟨by decide +kernel, by decide +kernel, by decide +kernel⟩, List.mem_of_getElem? (i := 629) (by decide +kernel), List.mem_of_getElem? (i := 68) (by decide +kernel), ⟨List.mem_of_getElem? (i := 628) (by decide +kernel), List.mem_of_getElem? (i := 19) (by decide +kernel), Or.inl ⟨_, rfl, rfl⟩⟩⟩

def k_X2_costOfNext : List sBk := [
  (0, false, [true, true, true, true, false, false, false], [oV 0 (.ldc 77) [630] (.int 1000000), o0 2 (.istore 4), oK 4 (.iconst 0) (.int 0), o0 5 (.istore 5), oN 7 .nop [1]]),
  (7, true, [true, true, true, true, true, true, false], [o0 7 (.iload 5), o0 9 (.aload_n 1), oN 10 (.getfield 56) [0, 1, 120], oN 13 (.if_icmp .ge 64) [5], o0 16 (.aload_n 0), oN 17 (.getfield 9) [2, 0, 255], o0 20 (.iload_n 2), o0 21 .iaload, o0 22 (.iload 5), oC 24 (.invokestatic 59) [3, 0] c_X5_hasBit, oN 27 (.ifCond .eq 44) [4], o0 30 (.iload_n 3), oN 31 (.ifCond .eq 13) [2], o0 34 (.aload_n 1), oN 35 (.getfield 78) [0, 8, 143], o0 38 (.iload 5), o0 40 .iaload, oN 41 (.goto 4) [3]]),
  (44, false, [true, true, true, true, true, true, false], [oK 44 (.iconst 1) (.int 1), oN 45 .nop [3]]),
  (45, false, [true, true, true, true, true, true, false], [o0 45 (.istore 6), o0 47 (.iload 4), o0 49 (.iload 6), o0 51 (.aload_n 0), oN 52 (.getfield 18) [2, 2, 257], o0 55 (.iload_n 2), o0 56 (.aload_n 1), oN 57 (.getfield 67) [0, 12, 155], o0 60 (.iload 5), o0 62 .iaload, o0 63 .ior, o0 64 .iaload, o0 65 .iadd, oN 66 (.invokestatic 81) [631, 2], o0 69 (.istore 4), oN 71 .nop [4]]),
  (71, false, [true, true, true, true, true, true, false], [oK 71 (.iinc 5 1) (.int 1), oN 74 (.goto (-67)) [1]]),
  (77, false, [false, false, false, false, true, false, false], [o0 77 (.iload 4), o0 79 .ireturn])]
set_option maxRecDepth 100000 in
theorem ck_X2_costOfNext : s_ck RX2 cX2_costOfNext 7 1 21 k_X2_costOfNext = true := by decide +kernel

set_option maxRecDepth 100000 in
set_option maxHeartbeats 4000000 in
theorem ok_X2_costOfNext : s_Ok c_X2_costOfNext := by
  refine s_ok_of k_X2_costOfNext (by decide +kernel) sta_X2_costOfNext ck_X2_costOfNext (And.intro ok_X5_hasBit trivial) ?_
  rintro vs L ⟨a, b, M, s, F, x, z, h, n, rfl, rfl, hx, hh, hn, hn8, hfo⟩
  refine ⟨rfl, fun G hG => ?_⟩
  have e1 : (s 1).toNatClampNeg = n := by rw [hn, nI_clamp (by omega)]
  obtain ⟨cx, hcx⟩ : ∃ cx, cx = p_cx (M 1 x.toNatClampNeg) (F 6) (F 2) (M 3) x z := ⟨_, rfl⟩
  have hin : vp_in x 256 := by rw [hx]; exact vp_in_nI hh (by omega)
  have fin : ∀ v : Int32, v = cx n → s_PP (some .int) true c_X2_costOfNext.2.2.2.2.2 [.ref 0, .ref 5, .int x, .int z] (rwW a b M s F) (some (.int v)) (rwW a b M s F) := fun v hv => ⟨rfl, by rw [hv, ← e1, hcx]; rfl, fun _ => rfl⟩
  have hS : ∀ k, cx (k + 1) = if p_hb (M 1 x.toNatClampNeg) (nI k) = 0 then cx k else (if (if z = 0 then 1 else F 2 k) + M 3 (x ||| F 6 k).toNatClampNeg < cx k then (if z = 0 then 1 else F 2 k) + M 3 (x ||| F 6 k).toNatClampNeg else cx k) := fun k => by rw [hcx]; rfl
  have loop : ∀ (k i : Nat) (y v : Int32), i + k = n → y = nI i → v = cx i → G 1 [some (.ref 0), some (.ref 5), some (.int x), some (.int z), some (.int v), some (.int y), none] [] (rwW a b M s F) := by
    intro k
    induction k with
    | zero =>
      intro i y v hi hy hv
      refine hG 1 _ _ _ (And.intro (fun q => ?_) (fun q => ?_))
      · have q : y < s 1 := q
        rw [hy, hn, nI_ltI (by omega) (by omega)] at q; omega
      · exact fin v (by rw [hv, show i = n by omega])
    | succ k ih =>
      intro i y v hi hy hv
      have hiny : vp_in y 8 := by rw [hy]; exact vp_in_nI (by omega) (by omega)
      have hyc : y.toNatClampNeg = i := by rw [hy, nI_clamp (by omega)]
      refine hG 1 _ _ _ (And.intro (fun q => ?_) (fun q => ?_))
      rotate_left
      · have q : ¬ y < s 1 := q
        rw [hy, hn, nI_ltI (by omega) (by omega)] at q; omega
      refine And.intro hin (And.intro ⟨_, _, rfl⟩ ?_)
      intro r hr
      obtain ⟨c, hc⟩ : ∃ c, c = p_hb (M 1 x.toNatClampNeg) (nI i) := ⟨_, rfl⟩
      obtain rfl : r = some (.int c) := by rw [hc, ← hy]; exact hr
      refine And.intro (fun q2 => ?_) (fun q2 => ?_)
      · have q2 : c = 0 := q2
        exact ih (i + 1) _ v (by omega) (by rw [hy, nI_1]) (by rw [hS, ← hc, if_pos q2, hv])
      have q2 : ¬ c = 0 := q2
      have hb2 : vp_in (x ||| F 6 y.toNatClampNeg) 256 := by
        rw [hyc]
        obtain ⟨j, hj, e⟩ := lt8_or ⟨h, hh, hx⟩ (hfo i (by omega))
        rw [e]; exact vp_in_nI hj (by omega)
      have nxt : ∀ (o y2 v2 : Int32), o = (if z = 0 then 1 else F 2 i) → y2 = y + 1 → v2 = (if o + M 3 (x ||| F 6 y.toNatClampNeg).toNatClampNeg < v then o + M 3 (x ||| F 6 y.toNatClampNeg).toNatClampNeg else v) → G 1 [some (.ref 0), some (.ref 5), some (.int x), some (.int z), some (.int v2), some (.int y2), none] [] (rwW a b M s F) := by
        intro o y2 v2 ho hy2 hv2
        refine ih (i + 1) _ _ (by omega) (by rw [hy2, hy, nI_1]) ?_
        rw [hS, ← hc, if_neg q2, ← ho, hv2, hyc, hv]
      refine And.intro (fun q3 => ?_) (fun q3 => ?_)
      · have q3 : z = 0 := q3
        refine And.intro hiny (And.intro hb2 ?_)
        exact nxt 1 _ _ (by rw [if_pos q3]) rfl rfl
      · have q3 : ¬ z = 0 := q3
        refine And.intro hiny (And.intro hiny (And.intro hb2 ?_))
        exact nxt (F 2 y.toNatClampNeg) _ _ (by rw [if_neg q3, hyc]) rfl rfl
  exact hG 0 _ _ _ (loop n 0 _ _ (by omega) nI_0.symm (by rw [hcx]; rfl))
def p_lkS (mv al fo pr : Nat → Int32) (p z : Int32) (n h : Nat) (f : Nat → Int32) : Nat → Int32 := fun j => if mv h = -1 then f j else upd f h (if p_hb (al h) p = 0 then p_cx (mv h) fo pr f (nI h) z n else 0) j
/-- the costs of the i states from the last on -/
def p_lkc (mv al fo pr : Nat → Int32) (p z : Int32) (n N : Nat) (f : Nat → Int32) : Nat → Nat → Int32
  | 0 => f
  | i + 1 => p_lkS mv al fo pr p z n (N - 1 - i) (p_lkc mv al fo pr p z n N f i)
def c_X2_leastCost : sCtr := ((yX2_leastCost, cX2_leastCost, 5, (some .int)), (3, 3, 2, 47), false,
  rwfp,
  fun vs L => ∃ (a b : Int32) (M : Nat → Nat → Int32) (s : Nat → Int32) (F : Nat → Nat → Int32) (p z : Int32) (n h0 : Nat), vs = [.ref 0, .ref 5, .int p, .int z] ∧ L = rwW a b M s F ∧ bOK s F n h0 ∧ a = nI h0 ∧ b = nI (2 ^ n),
  fun vs L r L' => ∃ c, c = p_lkc (bF L 1) (bF L 2) (bF L 11) (bF L 7) (vI vs 2) (vI vs 3) (oI L 5 1).toNatClampNeg (oI L 0 5).toNatClampNeg (bF L 3) ((oI L 0 5).toNatClampNeg - (oI L 0 4).toNatClampNeg) ∧ r = some (.int (if c (oI L 0 4).toNatClampNeg < 1000000 then c (oI L 0 4).toNatClampNeg else -4)) ∧ L' = rwW (oI L 0 4) (oI L 0 5) (va_up (bF L) 3 c) (oI L 5) (bG 5 L))
theorem sta_X2_leastCost : s_Sta c_X2_leastCost := ⟨⟨by decide +kernel, by decide +kernel, by decide +kernel⟩, List.mem_of_getElem? (i := 625) (by decide +kernel), List.mem_of_getElem? (i := 68) (by decide +kernel), ⟨List.mem_of_getElem? (i := 623) (by decide +kernel), List.mem_of_getElem? (i := 624) (by decide +kernel), Or.inl ⟨_, rfl, rfl⟩⟩⟩

def k_X2_leastCost : List sBk := [
  (0, false, [true, true, true, true, false], [o0 0 (.aload_n 0), oN 1 (.getfield 38) [2, 5, 260], oK 4 (.iconst 1) (.int 1), o0 5 .isub, o0 6 (.istore 4), oN 8 .nop [1]]),
  (8, true, [true, true, true, true, true], [o0 8 (.iload 4), o0 10 (.aload_n 0), oN 11 (.getfield 31) [2, 4, 259], oN 14 (.if_icmp .lt 53) [5], o0 17 (.aload_n 0), oN 18 (.getfield 9) [2, 0, 255], o0 21 (.iload 4), o0 23 .iaload, oK 24 (.iconst (-1)) (.int (-1)), oN 25 (.if_icmp .eq 36) [4], o0 28 (.aload_n 0), oN 29 (.getfield 18) [2, 2, 257], o0 32 (.iload 4), o0 34 (.aload_n 0), oN 35 (.getfield 15) [2, 1, 256], o0 38 (.iload 4), o0 40 .iaload, o0 41 (.iload_n 2), oC 42 (.invokestatic 59) [3, 0] c_X5_hasBit, oN 45 (.ifCond .eq 7) [2], oK 48 (.iconst 0) (.int 0), oN 49 (.goto 11) [3]]),
  (52, false, [true, true, true, true, true], [o0 52 (.aload_n 0), o0 53 (.aload_n 1), o0 54 (.iload 4), o0 56 (.iload_n 3), oC 57 (.invokevirtual 73) [626] c_X2_costOfNext, oN 60 .nop [3]]),
  (60, false, [true, true, true, true, true], [o0 60 .iastore, oN 61 .nop [4]]),
  (61, false, [true, true, true, true, true], [oK 61 (.iinc 4 (-1)) (.int (-1)), oN 64 (.goto (-56)) [1]]),
  (67, false, [true, false, false, false, false], [o0 67 (.aload_n 0), oN 68 (.getfield 18) [2, 2, 257], o0 71 (.aload_n 0), oN 72 (.getfield 31) [2, 4, 259], o0 75 .iaload, oV 76 (.ldc 77) [630] (.int 1000000), oN 78 (.if_icmp .lt 8) [6], oK 81 (.bipush (-4)) (.int (-4)), oN 83 (.goto 12) [7]]),
  (86, false, [true, false, false, false, false], [o0 86 (.aload_n 0), oN 87 (.getfield 18) [2, 2, 257], o0 90 (.aload_n 0), oN 91 (.getfield 31) [2, 4, 259], o0 94 .iaload, oN 95 .nop [7]]),
  (95, false, [false, false, false, false, false], [o0 95 .ireturn])]
set_option maxRecDepth 100000 in
theorem ck_X2_leastCost : s_ck RX2 cX2_leastCost 5 2 47 k_X2_leastCost = true := by decide +kernel

set_option maxRecDepth 100000 in
set_option maxHeartbeats 4000000 in
theorem ok_X2_leastCost : s_Ok c_X2_leastCost := by
  refine s_ok_of k_X2_leastCost (by decide +kernel) sta_X2_leastCost ck_X2_leastCost (And.intro ok_X5_hasBit (And.intro ok_X2_costOfNext trivial)) ?_
  rintro vs L ⟨a, b, M, s, F, p, z, n, h0, rfl, rfl, hb, ha, hbe⟩
  refine ⟨rfl, fun G hG => ?_⟩
  have hfo := bOK_fo hb
  obtain ⟨hn1, hn, hs5, hh0, hnd, hon, hfo', hwa⟩ := id hb
  have h28 := p_2le n hn
  have e1 : (s 1).toNatClampNeg = n := by rw [hn1, nI_clamp (by omega)]
  have ea : a.toNatClampNeg = h0 := by rw [ha, nI_clamp (by omega)]
  have eb : b.toNatClampNeg = 2 ^ n := by rw [hbe, nI_clamp (by omega)]
  obtain ⟨N, hN⟩ : ∃ N, N = 2 ^ n := ⟨_, rfl⟩
  rw [← hN] at eb hbe hh0 h28
  obtain ⟨C, hC⟩ : ∃ C, C = p_lkc (M 1) (M 2) (F 6) (F 2) p z n N (M 3) := ⟨_, rfl⟩
  have hCS : ∀ i, C (i + 1) = p_lkS (M 1) (M 2) (F 6) (F 2) p z n (N - 1 - i) (C i) := fun i => by rw [hC]; rfl
  have hina : vp_in a 256 := by rw [ha]; exact vp_in_nI (by omega) (by omega)
  have fin : ∀ (v : Int32) (c : Nat → Int32), c = C (N - h0) → v = (if c h0 < 1000000 then c h0 else -4) → s_PP (some .int) false c_X2_leastCost.2.2.2.2.2 [.ref 0, .ref 5, .int p, .int z] (rwW a b M s F) (some (.int v)) (rwW a b (va_up M 3 c) s F) := by
    intro v c hc hv
    refine ⟨rfl, ⟨c, ?_, ?_, rfl⟩, fun h => by cases h⟩
    · show c = p_lkc (M 1) (M 2) (F 6) (F 2) p z (s 1).toNatClampNeg b.toNatClampNeg (M 3) (b.toNatClampNeg - a.toNatClampNeg)
      rw [e1, ea, eb, hc, hC]
    · show some (Value.int v) = some (Value.int (if c a.toNatClampNeg < 1000000 then c a.toNatClampNeg else -4))
      rw [ea, hv]
  have loop : ∀ (m i : Nat) (x : Int32) (c : Nat → Int32), h0 + m + i = N → x = nI (h0 + m) + (-1) → c = C i → G 1 [some (.ref 0), some (.ref 5), some (.int p), some (.int z), some (.int x)] [] (rwW a b (va_up M 3 c) s F) := by
    intro m
    induction m with
    | zero =>
      intro i x c hi hx hc
      refine hG 1 _ _ _ (And.intro (fun q => ?_) (fun q => ?_))
      · refine And.intro hina (And.intro (fun q2 => ?_) (fun q2 => ?_))
        · have q2 : c a.toNatClampNeg < 1000000 := q2
          rw [ea] at q2
          refine And.intro hina ?_
          exact fin (c a.toNatClampNeg) c (by rw [hc, show i = N - h0 by omega]) (by rw [if_pos q2, ea])
        · have q2 : ¬ c a.toNatClampNeg < 1000000 := q2
          rw [ea] at q2
          exact fin (-4) c (by rw [hc, show i = N - h0 by omega]) (by rw [if_neg q2])
      · exfalso
        apply q
        show x < a
        rw [hx, ha, Nat.add_zero, ← Int32.sub_eq_add_neg, Int32.lt_iff_toInt_lt]
        have := pk_sub_toInt (a := h0) (b := 1) (by omega) (by omega)
        rw [show nI 1 = 1 from rfl] at this
        rw [this, nI_toInt (by omega)]; omega
    | succ m ih =>
      intro i x c hi hx hc
      have hxe : x = nI (h0 + m) := by
        rw [hx, ← Int32.sub_eq_add_neg, show h0 + (m + 1) = (h0 + m) + 1 by omega, nI_pred]
      have hin : vp_in x 256 := by rw [hxe]; exact vp_in_nI (by omega) (by omega)
      have hxc : x.toNatClampNeg = h0 + m := by rw [hxe, nI_clamp (by omega)]
      have hNi : N - 1 - i = h0 + m := by omega
      refine hG 1 _ _ _ (And.intro (fun q => ?_) (fun q => ?_))
      · have q : x < a := q
        rw [hxe, ha, nI_ltI (by omega) (by omega)] at q; omega
      refine And.intro hin (And.intro (fun q2 => ?_) (fun q2 => ?_))
      · have q2 : M 1 x.toNatClampNeg = -1 := q2
        rw [hxc] at q2
        refine ih (i + 1) _ c (by omega) (by rw [hxe]) ?_
        rw [hCS, hNi, hc]
        funext j
        rw [p_lkS, if_pos q2]
      have q2 : ¬ M 1 x.toNatClampNeg = -1 := q2
      rw [hxc] at q2
      have nxt : ∀ v, v = (if p_hb (M 2 (h0 + m)) p = 0 then p_cx (M 1 (h0 + m)) (F 6) (F 2) c (nI (h0 + m)) z n else 0) → G 1 [some (.ref 0), some (.ref 5), some (.int p), some (.int z), some (.int (x + (-1)))] [] (rwW a b (va_up M 3 (upd c x.toNatClampNeg v)) s F) := by
        intro v hv
        refine ih (i + 1) _ _ (by omega) (by rw [hxe]) ?_
        rw [hCS, hNi, ← hc, hxc, hv]
        funext j
        rw [p_lkS, if_neg q2]
      refine And.intro hin (And.intro ⟨_, _, rfl⟩ ?_)
      intro r hr
      obtain ⟨d, hd⟩ : ∃ d, d = p_hb (M 2 (h0 + m)) p := ⟨_, rfl⟩
      obtain rfl : r = some (.int d) := by rw [hd, ← hxc]; exact hr
      refine And.intro (fun q3 => ?_) (fun q3 => ?_)
      · have q3 : d = 0 := q3
        refine And.intro ⟨a, b, va_up M 3 c, s, F, x, z, h0 + m, n, rfl, rfl, hxe, by omega, hn1, hn, hfo⟩ ?_
        intro r hr
        have hr : r = some (.int (p_cx (M 1 x.toNatClampNeg) (F 6) (F 2) c x z (s 1).toNatClampNeg)) := hr
        rw [e1, hxc, hxe] at hr
        obtain ⟨v, hv⟩ : ∃ v, v = p_cx (M 1 (h0 + m)) (F 6) (F 2) c (nI (h0 + m)) z n := ⟨_, rfl⟩
        rw [← hv] at hr
        subst hr
        refine And.intro hin ?_
        exact nxt v (by rw [← hd, if_pos q3, hv])
      · have q3 : ¬ d = 0 := q3
        refine And.intro hin ?_
        exact nxt 0 (by rw [← hd, if_neg q3])
  have l := loop (N - h0) 0 (b - 1) (M 3) (by omega) (by rw [hbe, Int32.sub_eq_add_neg, show h0 + (N - h0) = N by omega]) (by rw [hC]; rfl)
  rw [va_upI] at l
  exact hG 0 _ _ _ l
def p_f1 (mv : Int32) (fo c : Nat → Int32) (x : Int32) : Nat → Nat → Int32
  | 0, _ => -4
  | k + 1, w => if p_hb mv (nI w) = 0 then p_f1 mv fo c x k (w + 1) else if c (x ||| fo w).toNatClampNeg = c x.toNatClampNeg - 1 then nI w else p_f1 mv fo c x k (w + 1)
theorem p_f1_r (mv : Int32) (fo c : Nat → Int32) (x : Int32) : ∀ k w, p_f1 mv fo c x k w = -4 ∨ ∃ u, w ≤ u ∧ u < w + k ∧ p_f1 mv fo c x k w = nI u
  | 0, _ => Or.inl rfl
  | k + 1, w => by
    have ih := p_f1_r mv fo c x k (w + 1)
    have go : p_f1 mv fo c x k (w + 1) = -4 ∨ ∃ u, w ≤ u ∧ u < w + (k + 1) ∧ p_f1 mv fo c x k (w + 1) = nI u := ih.imp id (fun ⟨u, h1, h2, h3⟩ => ⟨u, by omega, by omega, h3⟩)
    rw [p_f1]
    split
    · exact go
    · split
      · exact Or.inr ⟨w, by omega, by omega, rfl⟩
      · exact go
def c_X2_firstWish : sCtr := ((yX2_firstWish, cX2_firstWish, 4, (some .int)), (3, 2, 1, 21), true,
  rwfp,
  fun vs L => ∃ (a b : Int32) (M : Nat → Nat → Int32) (s : Nat → Int32) (F : Nat → Nat → Int32) (x : Int32) (h n : Nat), vs = [.ref 0, .ref 5, .int x] ∧ L = rwW a b M s F ∧ x = nI h ∧ h < 256 ∧ s 1 = nI n ∧ n ≤ 8 ∧ ∀ i, i < n → lt8 (F 6 i),
  fun vs L r _ => r = some (.int (p_f1 (bF L 1 (vI vs 2).toNatClampNeg) (bF L 11) (bF L 3) (vI vs 2) (oI L 5 1).toNatClampNeg 0)))
theorem sta_X2_firstWish : s_Sta c_X2_firstWish := ⟨⟨by decide +kernel, by decide +kernel, by decide +kernel⟩, List.mem_of_getElem? (i := 641) (by decide +kernel), List.mem_of_getElem? (i := 68) (by decide +kernel), ⟨List.mem_of_getElem? (i := 640) (by decide +kernel), List.mem_of_getElem? (i := 20) (by decide +kernel), Or.inl ⟨_, rfl, rfl⟩⟩⟩

def k_X2_firstWish : List sBk := [
  (0, false, [true, true, true, false], [oK 0 (.iconst 0) (.int 0), o0 1 (.istore_n 3), oN 2 .nop [1]]),
  (2, true, [true, true, true, true], [o0 2 (.iload_n 3), o0 3 (.aload_n 1), oN 4 (.getfield 56) [0, 1, 120], oN 7 (.if_icmp .ge 48) [3], o0 10 (.aload_n 0), oN 11 (.getfield 9) [2, 0, 255], o0 14 (.iload_n 2), o0 15 .iaload, o0 16 (.iload_n 3), oC 17 (.invokestatic 59) [3, 0] c_X5_hasBit, oN 20 (.ifCond .eq 29) [2], o0 23 (.aload_n 0), oN 24 (.getfield 18) [2, 2, 257], o0 27 (.iload_n 2), o0 28 (.aload_n 1), oN 29 (.getfield 67) [0, 12, 155], o0 32 (.iload_n 3), o0 33 .iaload, o0 34 .ior, o0 35 .iaload, o0 36 (.aload_n 0), oN 37 (.getfield 18) [2, 2, 257], o0 40 (.iload_n 2), o0 41 .iaload, oK 42 (.iconst 1) (.int 1), o0 43 .isub, oN 44 (.if_icmp .ne 5) [2], o0 47 (.iload_n 3), o0 48 .ireturn]),
  (49, false, [true, true, true, true], [oK 49 (.iinc 3 1) (.int 1), oN 52 (.goto (-50)) [1]]),
  (55, false, [false, false, false, false], [oK 55 (.bipush (-4)) (.int (-4)), o0 57 .ireturn])]
set_option maxRecDepth 100000 in
theorem ck_X2_firstWish : s_ck RX2 cX2_firstWish 4 1 21 k_X2_firstWish = true := by decide +kernel

set_option maxRecDepth 100000 in
set_option maxHeartbeats 4000000 in
theorem ok_X2_firstWish : s_Ok c_X2_firstWish := by
  refine s_ok_of k_X2_firstWish (by decide +kernel) sta_X2_firstWish ck_X2_firstWish (And.intro ok_X5_hasBit trivial) ?_
  rintro vs L ⟨a, b, M, s, F, x, h, n, rfl, rfl, hx, hh, hn, hn8, hfo⟩
  refine ⟨rfl, fun G hG => ?_⟩
  have e1 : (s 1).toNatClampNeg = n := by rw [hn, nI_clamp (by omega)]
  obtain ⟨R, hR⟩ : ∃ R, R = p_f1 (M 1 x.toNatClampNeg) (F 6) (M 3) x n 0 := ⟨_, rfl⟩
  have hin : vp_in x 256 := by rw [hx]; exact vp_in_nI hh (by omega)
  have fin : ∀ v : Int32, R = v → s_PP (some .int) true c_X2_firstWish.2.2.2.2.2 [.ref 0, .ref 5, .int x] (rwW a b M s F) (some (.int v)) (rwW a b M s F) := fun v hv => ⟨rfl, by rw [← hv, hR, ← e1]; rfl, fun _ => rfl⟩
  have loop : ∀ (k i : Nat) (y : Int32), i + k = n → y = nI i → R = p_f1 (M 1 x.toNatClampNeg) (F 6) (M 3) x k i → G 1 [some (.ref 0), some (.ref 5), some (.int x), some (.int y)] [] (rwW a b M s F) := by
    intro k
    induction k with
    | zero =>
      intro i y hi hy hv
      refine hG 1 _ _ _ (And.intro (fun q => ?_) (fun q => ?_))
      · have q : y < s 1 := q
        rw [hy, hn, nI_ltI (by omega) (by omega)] at q; omega
      · exact fin _ hv
    | succ k ih =>
      intro i y hi hy hv
      have hiny : vp_in y 8 := by rw [hy]; exact vp_in_nI (by omega) (by omega)
      have hyc : y.toNatClampNeg = i := by rw [hy, nI_clamp (by omega)]
      refine hG 1 _ _ _ (And.intro (fun q => ?_) (fun q => ?_))
      rotate_left
      · have q : ¬ y < s 1 := q
        rw [hy, hn, nI_ltI (by omega) (by omega)] at q; omega
      refine And.intro hin (And.intro ⟨_, _, rfl⟩ ?_)
      intro r hr
      obtain ⟨c, hc⟩ : ∃ c, c = p_hb (M 1 x.toNatClampNeg) (nI i) := ⟨_, rfl⟩
      obtain rfl : r = some (.int c) := by rw [hc, ← hy]; exact hr
      rw [p_f1, ← hc] at hv
      refine And.intro (fun q2 => ?_) (fun q2 => ?_)
      · have q2 : c = 0 := q2
        rw [if_pos q2] at hv
        exact ih (i + 1) _ (by omega) (by rw [hy, nI_1]) hv
      have q2 : ¬ c = 0 := q2
      rw [if_neg q2] at hv
      have hb2 : vp_in (x ||| F 6 y.toNatClampNeg) 256 := by
        rw [hyc]
        obtain ⟨j, hj, e⟩ := lt8_or ⟨h, hh, hx⟩ (hfo i (by omega))
        rw [e]; exact vp_in_nI hj (by omega)
      refine And.intro hiny (And.intro hb2 (And.intro hin (And.intro (fun q3 => ?_) (fun q3 => ?_))))
      · have q3 : M 3 (x ||| F 6 y.toNatClampNeg).toNatClampNeg = M 3 x.toNatClampNeg - 1 := q3
        rw [hyc] at q3
        rw [if_pos q3] at hv
        exact fin y (by rw [hv, hy])
      · have q3 : ¬ M 3 (x ||| F 6 y.toNatClampNeg).toNatClampNeg = M 3 x.toNatClampNeg - 1 := q3
        rw [hyc] at q3
        rw [if_neg q3] at hv
        exact ih (i + 1) _ (by omega) (by rw [hy, nI_1]) hv
  exact hG 0 _ _ _ (loop n 0 _ (by omega) nI_0.symm hR)
def p_wr (mv fo c : Nat → Int32) (n : Nat) : Nat → Int32 → Int32 → Int32
  | 0, _, w => w
  | k + 1, x, _ => if p_f1 (mv x.toNatClampNeg) fo c x n 0 < 0 then -4 else p_wr mv fo c n k (x ||| fo (p_f1 (mv x.toNatClampNeg) fo c x n 0).toNatClampNeg) (p_f1 (mv x.toNatClampNeg) fo c x n 0)
def c_X2_wishOfRow : sCtr := ((yX2_wishOfRow, cX2_wishOfRow, 6, (some .int)), (3, 2, 2, 44), true,
  rwfp,
  fun vs L => ∃ (a b : Int32) (M : Nat → Nat → Int32) (s : Nat → Int32) (F : Nat → Nat → Int32) (y : Int32) (i h n : Nat), vs = [.ref 0, .ref 5, .int y] ∧ L = rwW a b M s F ∧ y = nI i ∧ i < 8 ∧ a = nI h ∧ h < 256 ∧ s 1 = nI n ∧ n ≤ 8 ∧ ∀ i, i < n → lt8 (F 6 i),
  fun vs L r _ => r = some (.int (p_wr (bF L 1) (bF L 11) (bF L 3) (oI L 5 1).toNatClampNeg ((vI vs 2).toNatClampNeg + 1) (oI L 0 4) (-4))))
theorem sta_X2_wishOfRow : s_Sta c_X2_wishOfRow := ⟨⟨by decide +kernel, by decide +kernel, by decide +kernel⟩, List.mem_of_getElem? (i := 637) (by decide +kernel), List.mem_of_getElem? (i := 68) (by decide +kernel), ⟨List.mem_of_getElem? (i := 635) (by decide +kernel), List.mem_of_getElem? (i := 636) (by decide +kernel), Or.inl ⟨_, rfl, rfl⟩⟩⟩

def k_X2_wishOfRow : List sBk := [
  (0, false, [true, true, true, false, false, false], [o0 0 (.aload_n 0), oN 1 (.getfield 31) [2, 4, 259], o0 4 (.istore_n 3), oK 5 (.bipush (-4)) (.int (-4)), o0 7 (.istore 4), oK 9 (.iconst 0) (.int 0), o0 10 (.istore 5), oN 12 .nop [1]]),
  (12, true, [true, true, true, true, true, true], [o0 12 (.iload 5), o0 14 (.iload_n 2), oN 15 (.if_icmp .gt 35) [3], o0 18 (.aload_n 0), o0 19 (.aload_n 1), o0 20 (.iload_n 3), oC 21 (.invokevirtual 87) [638] c_X2_firstWish, o0 24 (.istore 4), o0 26 (.iload 4), oN 28 (.ifCond .ge 6) [2], oK 31 (.bipush (-4)) (.int (-4)), o0 33 .ireturn]),
  (34, false, [true, true, true, true, true, true], [o0 34 (.iload_n 3), o0 35 (.aload_n 1), oN 36 (.getfield 67) [0, 12, 155], o0 39 (.iload 4), o0 41 .iaload, o0 42 .ior, o0 43 (.istore_n 3), oK 44 (.iinc 5 1) (.int 1), oN 47 (.goto (-35)) [1]]),
  (50, false, [false, false, false, false, true, false], [o0 50 (.iload 4), o0 52 .ireturn])]
set_option maxRecDepth 100000 in
theorem ck_X2_wishOfRow : s_ck RX2 cX2_wishOfRow 6 2 44 k_X2_wishOfRow = true := by decide +kernel

set_option maxRecDepth 100000 in
set_option maxHeartbeats 4000000 in
theorem ok_X2_wishOfRow : s_Ok c_X2_wishOfRow := by
  refine s_ok_of k_X2_wishOfRow (by decide +kernel) sta_X2_wishOfRow ck_X2_wishOfRow (And.intro ok_X2_firstWish trivial) ?_
  rintro vs L ⟨a, b, M, s, F, y, i, h, n, rfl, rfl, hy, hi8, ha, hh, hn, hn8, hfo⟩
  refine ⟨rfl, fun G hG => ?_⟩
  have e1 : (s 1).toNatClampNeg = n := by rw [hn, nI_clamp (by omega)]
  have ey : y.toNatClampNeg = i := by rw [hy, nI_clamp (by omega)]
  obtain ⟨R, hR⟩ : ∃ R, R = p_wr (M 1) (F 6) (M 3) n (i + 1) a (-4) := ⟨_, rfl⟩
  have fin : ∀ v : Int32, R = v → s_PP (some .int) true c_X2_wishOfRow.2.2.2.2.2 [.ref 0, .ref 5, .int y] (rwW a b M s F) (some (.int v)) (rwW a b M s F) := fun v hv => ⟨rfl, by
    show some (Value.int v) = some (Value.int (p_wr (M 1) (F 6) (M 3) (s 1).toNatClampNeg (y.toNatClampNeg + 1) a (-4)))
    rw [e1, ey, ← hR, hv], fun _ => rfl⟩
  have loop : ∀ (k j h : Nat) (x w u : Int32), j + k = i + 1 → u = nI j → x = nI h → h < 256 → R = p_wr (M 1) (F 6) (M 3) n k x w → G 1 [some (.ref 0), some (.ref 5), some (.int y), some (.int x), some (.int w), some (.int u)] [] (rwW a b M s F) := by
    intro k
    induction k with
    | zero =>
      intro j h x w u hj hu hx hh hv
      refine hG 1 _ _ _ (And.intro (fun q => ?_) (fun q => ?_))
      · exact fin w hv
      · have q : ¬ y < u := q
        rw [hu, hy, nI_ltI (by omega) (by omega)] at q; omega
    | succ k ih =>
      intro j h x w u hj hu hx hh hv
      refine hG 1 _ _ _ (And.intro (fun q => ?_) (fun q => ?_))
      · have q : y < u := q
        rw [hu, hy, nI_ltI (by omega) (by omega)] at q; omega
      refine And.intro ⟨a, b, M, s, F, x, h, n, rfl, rfl, hx, hh, hn, hn8, hfo⟩ ?_
      intro r hr
      have hr : r = some (.int (p_f1 (M 1 x.toNatClampNeg) (F 6) (M 3) x (s 1).toNatClampNeg 0)) := hr
      have hrr := p_f1_r (M 1 x.toNatClampNeg) (F 6) (M 3) x n 0
      rw [e1] at hr
      rw [p_wr] at hv
      obtain ⟨v, hve⟩ : ∃ v, v = p_f1 (M 1 x.toNatClampNeg) (F 6) (M 3) x n 0 := ⟨_, rfl⟩
      rw [← hve] at hr hv hrr
      subst hr
      refine And.intro (fun q2 => ?_) (fun q2 => ?_)
      · have q2 : v < 0 := q2
        rw [if_pos q2] at hv
        exact fin _ hv
      have q2 : ¬ v < 0 := q2
      rw [if_neg q2] at hv
      obtain ⟨c, _, hc, hce⟩ : ∃ c, 0 ≤ c ∧ c < 0 + n ∧ v = nI c := by
        rcases hrr with z | z
        · rw [z] at q2; exact absurd (by decide) q2
        · exact z
      have hvc : v.toNatClampNeg = c := by rw [hce, nI_clamp (by omega)]
      obtain ⟨j2, hj2, e2⟩ := lt8_or ⟨h, hh, hx⟩ (hfo c (by omega))
      refine And.intro (by rw [hce]; exact vp_in_nI (by omega) (by omega)) ?_
      exact ih (j + 1) j2 _ v _ (by omega) (by rw [hu, nI_1]) (by rw [hvc]; exact e2) hj2 hv
  exact hG 0 _ _ _ (loop (i + 1) 0 h a (-4) 0 (by omega) nI_0.symm ha hh hR)

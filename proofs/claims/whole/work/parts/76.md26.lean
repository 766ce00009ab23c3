/-! ===== WishClerkModel: the cheapest row, the least depth, the fewest struck, all who may live ===== -/
/-- the least cost of a state where p lives -/
def p_cb (c lb : Nat → Int32) (p : Int32) : Nat → Int32
  | 0 => 1000000
  | h + 1 => if c h < p_cb c lb p h then (if p_hb (lb h) p = 0 then p_cb c lb p h else c h) else p_cb c lb p h
def p_cO (AS : Nat → Nat → Int32) (pr lb : Nat → Int32) (h0 n : Nat) (p : Int32) : Int32 := if p_cb (p_fc AS pr h0 n 256) lb p 256 = 1000000 then -4 else p_cb (p_fc AS pr h0 n 256) lb p 256
theorem p_cb_agr {f g lb : Nat → Int32} {p : Int32} (h : agr f g) : ∀ i, i ≤ 256 → p_cb f lb p i = p_cb g lb p i
  | 0, _ => rfl
  | i + 1, hi => by
    rw [p_cb, p_cb, p_cb_agr h i (by omega), h i (by omega)]
def md4 (A g : Nat → Nat → Int32) : Nat → Nat → Int32 := va_up (va_up (va_up (va_up A 9 (g 9)) 10 (g 10)) 11 (g 11)) 12 (g 12)
theorem md4_I (A : Nat → Nat → Int32) : md4 A A = A := by
  unfold md4
  rw [va_upI, va_upI, va_upI, va_upI]
def mdLB (s : Nat → Int32) (A : Nat → Nat → Int32) : Nat → Int32 := p_LB (mOn A) (mNd A) (s 3).toNatClampNeg (A 1 0) (A 1 26)
def mdCO (s : Nat → Int32) (A : Nat → Nat → Int32) (p e li : Int32) : Int32 := p_cO (mdAS s A e li) (A 4) (mdLB s A) (A 1 26).toNatClampNeg (s 3).toNatClampNeg p
def c_X6_cheapOf : sCtr := ((yX6_cheapOf, cX6_cheapOf, 7, (some .int)), (7, 3, 5, 126), false,
  mdfp,
  fun vs L => ∃ (s : Nat → Int32) (A : Nat → Nat → Int32) (p e li : Int32) (n d : Nat), vs = [.ref 0, .int p, .int e, .int li] ∧ L = mdW s A ∧ s 3 = nI n ∧ n ≤ 8 ∧ e = nI d ∧ d ≤ 8 ∧ (∀ i, i < n → lt8 (A 1 (10 + i))) ∧ lt8 (A 1 26),
  fun vs L r L' => r = some (.int (mdCO (oI L 0) (bF L) (vI vs 1) (vI vs 2) (vI vs 3))) ∧ ∃ g, L' = mdW (oI L 0) (md4 (bF L) g))
theorem sta_X6_cheapOf : s_Sta c_X6_cheapOf := ⟨⟨by decide +kernel, by decide +kernel, by decide +kernel⟩, List.mem_of_getElem? (i := 1149) (by decide +kernel), List.mem_of_getElem? (i := 70) (by decide +kernel), ⟨List.mem_of_getElem? (i := 1148) (by decide +kernel), List.mem_of_getElem? (i := 58) (by decide +kernel), Or.inl ⟨_, rfl, rfl⟩⟩⟩

def k_X6_cheapOf : List sBk := [
  (0, false, [true, true, true, true, false, false, false], [o0 0 (.aload_n 0), o0 1 (.iload_n 2), o0 2 (.iload_n 3), oC 3 (.invokevirtual 240) [1150] c_X6_findCosts, oV 6 (.ldc 239) [1154] (.int 1000000), o0 8 (.istore 4), oK 10 (.iconst 0) (.int 0), o0 11 (.istore 5), oN 13 .nop [1]]),
  (13, true, [true, true, false, false, true, true, false], [o0 13 (.iload 5), oK 15 (.sipush 256) (.int 256), oN 18 (.if_icmp .ge 61) [6], o0 21 (.aload_n 0), oN 22 (.getfield 35) [6, 22, 844], o0 25 (.iload 5), o0 27 .iaload, o0 28 (.iload 4), oN 30 (.if_icmp .ge 21) [2], o0 33 (.aload_n 0), o0 34 (.iload 5), oC 36 (.invokevirtual 225) [1134] c_X6_livingBy, o0 39 (.iload_n 1), o0 40 .ishr, oK 41 (.iconst 1) (.int 1), o0 42 .iand, oK 43 (.iconst 1) (.int 1), oN 44 (.if_icmp .ne 7) [2], oK 47 (.iconst 1) (.int 1), oN 48 (.goto 4) [3]]),
  (51, false, [true, true, false, false, true, true, false], [oK 51 (.iconst 0) (.int 0), oN 52 .nop [3]]),
  (52, false, [true, true, false, false, true, true, false], [o0 52 (.istore 6), o0 54 (.iload 6), oN 56 (.ifCond .eq 13) [4], o0 59 (.aload_n 0), oN 60 (.getfield 35) [6, 22, 844], o0 63 (.iload 5), o0 65 .iaload, oN 66 (.goto 5) [5]]),
  (69, false, [true, true, false, false, true, true, false], [o0 69 (.iload 4), oN 71 .nop [5]]),
  (71, false, [true, true, false, false, false, true, false], [o0 71 (.istore 4), oK 73 (.iinc 5 1) (.int 1), oN 76 (.goto (-63)) [1]]),
  (79, false, [false, false, false, false, true, false, false], [o0 79 (.iload 4), oV 81 (.ldc 239) [1154] (.int 1000000), oN 83 (.if_icmp .ne 8) [7], oK 86 (.bipush (-4)) (.int (-4)), oN 88 (.goto 5) [8]]),
  (91, false, [false, false, false, false, true, false, false], [o0 91 (.iload 4), oN 93 .nop [8]]),
  (93, false, [false, false, false, false, false, false, false], [o0 93 .ireturn])]
set_option maxRecDepth 100000 in
theorem ck_X6_cheapOf : s_ck RX6 cX6_cheapOf 7 5 126 k_X6_cheapOf = true := by decide +kernel

set_option maxRecDepth 100000 in
set_option maxHeartbeats 4000000 in
theorem ok_X6_cheapOf : s_Ok c_X6_cheapOf := by
  refine s_ok_of k_X6_cheapOf (by decide +kernel) sta_X6_cheapOf ck_X6_cheapOf (And.intro ok_X6_findCosts (And.intro ok_X6_livingBy trivial)) ?_
  rintro vs L ⟨s, A, p, e, li, n, d, rfl, rfl, hn, hn8, he, hd, hnd, hh0⟩
  refine ⟨rfl, fun G hG => ?_⟩
  obtain ⟨C, hC⟩ : ∃ C, C = p_fc (mdAS s A e li) (A 4) (A 1 26).toNatClampNeg (s 3).toNatClampNeg 256 := ⟨_, rfl⟩
  obtain ⟨LB, hLB⟩ : ∃ LB, LB = mdLB s A := ⟨_, rfl⟩
  have fin : ∀ (a : Int32) (f : Nat → Int32), a = (if p_cb C LB p 256 = 1000000 then -4 else p_cb C LB p 256) → s_PP (some .int) false c_X6_cheapOf.2.2.2.2.2 [.ref 0, .int p, .int e, .int li] (mdW s A) (some (.int a)) (mdW s (va_up A 9 f)) := fun a f ha => ⟨rfl, ⟨by rw [ha, hC, hLB]; rfl, va_up A 9 f, rfl⟩, fun h => by cases h⟩
  refine hG 0 _ _ _ (And.intro ⟨s, A, _, _, n, d, rfl, rfl, hn, hn8, he, hd, hnd, hh0⟩ ?_)
  rintro r L' ⟨rfl, f, hL, hf⟩
  obtain rfl : L' = mdW s (va_up A 9 f) := hL
  replace hf : agr f C := by rw [hC]; exact hf
  have loop : ∀ (k h : Nat) (x a : Int32), h + k = 256 → x = nI h → a = p_cb C LB p h → G 1 [some (.ref 0), some (.int p), none, none, some (.int a), some (.int x), none] [] (mdW s (va_up A 9 f)) := by
    intro k
    induction k with
    | zero =>
      intro h x a hk hx ha
      refine hG 1 _ _ _ (And.intro (fun q => ?_) (fun q => ?_))
      · rw [hx, show (256 : Int32) = nI 256 from rfl, nI_ltI (by omega) (by omega)] at q; omega
      · rw [show h = 256 by omega] at ha
        refine And.intro (fun q2 => ?_) (fun q2 => ?_)
        · have q2 : a = 1000000 := q2
          rw [ha] at q2
          exact fin _ f (by rw [if_pos q2])
        · have q2 : ¬ a = 1000000 := q2
          rw [ha] at q2
          exact fin _ f (by rw [if_neg q2, ha])
    | succ k ih =>
      intro h x a hk hx ha
      have hinh : vp_in x 256 := by rw [hx]; exact vp_in_nI (by omega) (by omega)
      have hxc : x.toNatClampNeg = h := by rw [hx, nI_clamp (by omega)]
      have hfh : f x.toNatClampNeg = C h := by rw [hxc]; exact hf h (by omega)
      refine hG 1 _ _ _ (And.intro (fun q => ?_) (fun q => ?_))
      rotate_left
      · rw [hx, show (256 : Int32) = nI 256 from rfl, nI_ltI (by omega) (by omega)] at q; omega
      refine And.intro hinh (And.intro (fun q2 => ?_) (fun q2 => ?_))
      · have q2 : f x.toNatClampNeg < a := q2
        rw [hfh, ha] at q2
        refine And.intro ⟨s, va_up A 9 f, _, n, rfl, rfl, hn, hn8⟩ ?_
        intro r hr
        obtain ⟨v, hv⟩ : ∃ v, v = LB h := ⟨_, rfl⟩
        obtain rfl : r = some (.int v) := by rw [hv, hLB, mdLB, p_LB, ← hx]; exact hr
        refine And.intro (fun q3 => ?_) (fun q3 => ?_)
        · have q3 : ¬ p_hb v p = 0 := fun z => p_hb_0.mp z q3
          refine And.intro (fun z => absurd z (by decide)) (fun _ => ?_)
          refine And.intro hinh ?_
          exact ih (h + 1) _ (f x.toNatClampNeg) (by omega) (by rw [hx, nI_1]) (by rw [p_cb, if_pos q2, ← hv, if_neg q3, hfh])
        · have q3 : p_hb v p = 0 := p_hb_0.mpr q3
          refine And.intro (fun _ => ?_) (fun z => absurd rfl z)
          exact ih (h + 1) _ a (by omega) (by rw [hx, nI_1]) (by rw [p_cb, if_pos q2, ← hv, if_pos q3, ha])
      · have q2 : ¬ f x.toNatClampNeg < a := q2
        rw [hfh, ha] at q2
        refine And.intro (fun _ => ?_) (fun z => absurd rfl z)
        exact ih (h + 1) _ a (by omega) (by rw [hx, nI_1]) (by rw [p_cb, if_neg q2, ha])
  exact loop 256 0 _ _ (by omega) nI_0.symm rfl
def r_mch (s : Nat → Int32) (A : Nat → Nat → Int32) (p : Int32) : Int32 := if p_in (s 2) p = 0 then -1 else mdCO s A p (A 1 28) (A 1 27)
def c_X6_cheap : sCtr := ((yX6_cheap, cX6_cheap, 2, (some .int)), (7, 1, 6, 152), false,
  mdfp,
  fun vs L => ∃ (s : Nat → Int32) (A : Nat → Nat → Int32) (p : Int32) (m n d : Nat), vs = [.ref 0, .int p] ∧ L = mdW s A ∧ s 2 = nI m ∧ m ≤ 8 ∧ s 3 = nI n ∧ n ≤ 8 ∧ A 1 28 = nI d ∧ d ≤ 8 ∧ (∀ i, i < n → lt8 (A 1 (10 + i))) ∧ lt8 (A 1 26),
  fun vs L r L' => r = some (.int (r_mch (oI L 0) (bF L) (vI vs 1))) ∧ ∃ g, L' = mdW (oI L 0) (md4 (bF L) g))
theorem sta_X6_cheap : s_Sta c_X6_cheap := ⟨⟨by decide +kernel, by decide +kernel, by decide +kernel⟩, List.mem_of_getElem? (i := 1145) (by decide +kernel), List.mem_of_getElem? (i := 70) (by decide +kernel), ⟨List.mem_of_getElem? (i := 1143) (by decide +kernel), List.mem_of_getElem? (i := 1144) (by decide +kernel), Or.inl ⟨_, rfl, rfl⟩⟩⟩

def k_X6_cheap : List sBk := [
  (0, false, [true, true], [o0 0 (.aload_n 0), o0 1 (.iload_n 1), oC 2 (.invokevirtual 192) [1035] c_X6_isOne, oN 5 (.ifCond .eq 25) [1], o0 8 (.aload_n 0), o0 9 (.iload_n 1), o0 10 (.aload_n 0), oN 11 (.getfield 7) [6, 0, 822], oK 14 (.bipush 28) (.int 28), o0 16 .iaload, o0 17 (.aload_n 0), oN 18 (.getfield 7) [6, 0, 822], oK 21 (.bipush 27) (.int 27), o0 23 .iaload, oC 24 (.invokevirtual 244) [1146] c_X6_cheapOf, oN 27 (.goto 4) [2]]),
  (30, false, [false, false], [oK 30 (.iconst (-1)) (.int (-1)), oN 31 .nop [2]]),
  (31, false, [false, false], [o0 31 .ireturn])]
set_option maxRecDepth 100000 in
theorem ck_X6_cheap : s_ck RX6 cX6_cheap 2 6 152 k_X6_cheap = true := by decide +kernel

set_option maxRecDepth 100000 in
set_option maxHeartbeats 4000000 in
theorem ok_X6_cheap : s_Ok c_X6_cheap := by
  refine s_ok_of k_X6_cheap (by decide +kernel) sta_X6_cheap ck_X6_cheap (And.intro ok_X6_isOne (And.intro ok_X6_cheapOf trivial)) ?_
  rintro vs L ⟨s, A, p, m, n, d, rfl, rfl, hm, hm8, hn, hn8, he, hd, hnd, hh0⟩
  refine ⟨rfl, fun G hG => ?_⟩
  have fin : ∀ (a : Int32) (g : Nat → Nat → Int32), a = r_mch s A p → s_PP (some .int) false c_X6_cheap.2.2.2.2.2 [.ref 0, .int p] (mdW s A) (some (.int a)) (mdW s (md4 A g)) := fun a g ha => ⟨rfl, ⟨by rw [ha]; rfl, g, rfl⟩, fun h => by cases h⟩
  refine hG 0 _ _ _ (And.intro ⟨s, A, _, m, rfl, rfl, hm, hm8⟩ ?_)
  intro r hr
  obtain ⟨b, hb⟩ : ∃ b, b = p_in (s 2) p := ⟨_, rfl⟩
  obtain rfl : r = some (.int b) := by rw [hb]; exact hr
  refine And.intro (fun h => ?_) (fun h => ?_)
  · have h : b = 0 := h
    have k := fin (-1) A (by rw [r_mch, ← hb, if_pos h])
    rw [md4_I] at k
    exact k
  have h : ¬ b = 0 := h
  refine And.intro (vp_in_nI (n := 28) (N := 159) (by decide) (by decide)) (And.intro (vp_in_nI (n := 27) (N := 159) (by decide) (by decide)) ?_)
  refine And.intro ⟨s, A, _, _, _, n, d, rfl, rfl, hn, hn8, he, hd, hnd, hh0⟩ ?_
  rintro r L' ⟨hr, g, hL⟩
  obtain ⟨v, hv⟩ : ∃ v, v = mdCO s A p (A 1 28) (A 1 27) := ⟨_, rfl⟩
  obtain rfl : r = some (.int v) := by rw [hv]; exact hr
  obtain rfl : L' = mdW s (md4 A g) := hL
  exact fin v g (by rw [r_mch, ← hb, if_neg h, hv])
def p_dpF (c : Nat → Int32) : Nat → Nat → Int32
  | 0, _ => -4
  | k + 1, d => if c d = -4 then nI d else p_dpF c k (d + 1)
def r_mdp (s : Nat → Int32) (A : Nat → Nat → Int32) (p : Int32) : Int32 := if p_in (s 2) p = 0 then -1 else if p_hb (A 1 0) p = 0 then p_dpF (fun d => mdCO s A p (nI d) (A 1 27)) 9 0 else -2
def c_X6_deep : sCtr := ((yX6_deep, cX6_deep, 3, (some .int)), (7, 1, 6, 152), false,
  mdfp,
  fun vs L => ∃ (s : Nat → Int32) (A : Nat → Nat → Int32) (p : Int32) (m n : Nat), vs = [.ref 0, .int p] ∧ L = mdW s A ∧ s 2 = nI m ∧ m ≤ 8 ∧ s 3 = nI n ∧ n ≤ 8 ∧ (∀ i, i < n → lt8 (A 1 (10 + i))) ∧ lt8 (A 1 26),
  fun vs L r L' => r = some (.int (r_mdp (oI L 0) (bF L) (vI vs 1))) ∧ ∃ g, L' = mdW (oI L 0) (md4 (bF L) g))
theorem sta_X6_deep : s_Sta c_X6_deep := ⟨⟨by decide +kernel, by decide +kernel, by decide +kernel⟩, List.mem_of_getElem? (i := 1158) (by decide +kernel), List.mem_of_getElem? (i := 70) (by decide +kernel), ⟨List.mem_of_getElem? (i := 1156) (by decide +kernel), List.mem_of_getElem? (i := 1157) (by decide +kernel), Or.inl ⟨_, rfl, rfl⟩⟩⟩

def k_X6_deep : List sBk := [
  (0, false, [true, true, false], [o0 0 (.aload_n 0), o0 1 (.iload_n 1), oC 2 (.invokevirtual 192) [1035] c_X6_isOne, oN 5 (.ifCond .ne 5) [1], oK 8 (.iconst (-1)) (.int (-1)), o0 9 .ireturn]),
  (10, false, [true, true, false], [o0 10 (.aload_n 0), oN 11 (.getfield 7) [6, 0, 822], oK 14 (.iconst 0) (.int 0), o0 15 .iaload, o0 16 (.iload_n 1), o0 17 .ishr, oK 18 (.iconst 1) (.int 1), o0 19 .iand, oK 20 (.iconst 1) (.int 1), oN 21 (.if_icmp .ne 6) [2], oK 24 (.bipush (-2)) (.int (-2)), o0 26 .ireturn]),
  (27, false, [true, true, false], [oK 27 (.iconst 0) (.int 0), o0 28 (.istore_n 2), oN 29 .nop [3]]),
  (29, true, [true, true, true], [o0 29 (.iload_n 2), oK 30 (.bipush 8) (.int 8), oN 32 (.if_icmp .gt 29) [5], o0 35 (.aload_n 0), o0 36 (.iload_n 1), o0 37 (.iload_n 2), o0 38 (.aload_n 0), oN 39 (.getfield 7) [6, 0, 822], oK 42 (.bipush 27) (.int 27), o0 44 .iaload, oC 45 (.invokevirtual 244) [1146] c_X6_cheapOf, oK 48 (.bipush (-4)) (.int (-4)), oN 50 (.if_icmp .ne 5) [4], o0 53 (.iload_n 2), o0 54 .ireturn]),
  (55, false, [true, true, true], [oK 55 (.iinc 2 1) (.int 1), oN 58 (.goto (-29)) [3]]),
  (61, false, [false, false, false], [oK 61 (.bipush (-4)) (.int (-4)), o0 63 .ireturn])]
set_option maxRecDepth 100000 in
theorem ck_X6_deep : s_ck RX6 cX6_deep 3 6 152 k_X6_deep = true := by decide +kernel

set_option maxRecDepth 100000 in
set_option maxHeartbeats 4000000 in
theorem ok_X6_deep : s_Ok c_X6_deep := by
  refine s_ok_of k_X6_deep (by decide +kernel) sta_X6_deep ck_X6_deep (And.intro ok_X6_isOne (And.intro ok_X6_cheapOf trivial)) ?_
  rintro vs L ⟨s, A, p, m, n, rfl, rfl, hm, hm8, hn, hn8, hnd, hh0⟩
  refine ⟨rfl, fun G hG => ?_⟩
  have fin : ∀ (a : Int32) (g : Nat → Nat → Int32), a = r_mdp s A p → s_PP (some .int) false c_X6_deep.2.2.2.2.2 [.ref 0, .int p] (mdW s A) (some (.int a)) (mdW s (md4 A g)) := fun a g ha => ⟨rfl, ⟨by rw [ha]; rfl, g, rfl⟩, fun h => by cases h⟩
  have fin0 : ∀ (a : Int32), a = r_mdp s A p → s_PP (some .int) false c_X6_deep.2.2.2.2.2 [.ref 0, .int p] (mdW s A) (some (.int a)) (mdW s A) := fun a ha => by
    have k := fin a A ha
    rw [md4_I] at k
    exact k
  refine hG 0 _ _ _ (And.intro ⟨s, A, _, m, rfl, rfl, hm, hm8⟩ ?_)
  intro r hr
  obtain ⟨b, hb⟩ : ∃ b, b = p_in (s 2) p := ⟨_, rfl⟩
  obtain rfl : r = some (.int b) := by rw [hb]; exact hr
  refine And.intro (fun h => ?_) (fun h => ?_)
  · have h : b = 0 := h
    exact fin0 (-1) (by rw [r_mdp, ← hb, if_pos h])
  have h : ¬ b = 0 := h
  refine And.intro (vp_in_nI (n := 0) (N := 159) (by decide) (by decide)) (And.intro (fun h2 => ?_) (fun h2 => ?_))
  · have h2 : ¬ p_hb (A 1 0) p = 0 := fun z => p_hb_0.mp z h2
    exact fin0 (-2) (by rw [r_mdp, ← hb, if_neg h, if_neg h2])
  have h2 : p_hb (A 1 0) p = 0 := p_hb_0.mpr h2
  obtain ⟨c, hc⟩ : ∃ c : Nat → Int32, c = fun d => mdCO s A p (nI d) (A 1 27) := ⟨_, rfl⟩
  have hr : r_mdp s A p = p_dpF c 9 0 := by rw [r_mdp, ← hb, if_neg h, if_pos h2, hc]
  have loop : ∀ (k d : Nat) (x : Int32) (g : Nat → Nat → Int32), d + k = 9 → x = nI d → r_mdp s A p = p_dpF c k d → G 3 [some (.ref 0), some (.int p), some (.int x)] [] (mdW s (md4 A g)) := by
    intro k
    induction k with
    | zero =>
      intro d x g hk hx hr
      refine hG 3 _ _ _ (And.intro (fun q => ?_) (fun q => ?_))
      · exact fin _ g (by rw [hr]; rfl)
      · rw [hx, show (8 : Int32) = nI 8 from rfl, nI_ltI (by omega) (by omega)] at q; omega
    | succ k ih =>
      intro d x g hk hx hr
      refine hG 3 _ _ _ (And.intro (fun q => ?_) (fun q => ?_))
      · rw [hx, show (8 : Int32) = nI 8 from rfl, nI_ltI (by omega) (by omega)] at q; omega
      refine And.intro (vp_in_nI (n := 27) (N := 159) (by decide) (by decide)) ?_
      refine And.intro ⟨s, md4 A g, _, _, _, n, d, rfl, rfl, hn, hn8, hx, by omega, hnd, hh0⟩ ?_
      rintro r L' ⟨hr2, g2, hL⟩
      obtain ⟨v, hv⟩ : ∃ v, v = c d := ⟨_, rfl⟩
      obtain rfl : r = some (.int v) := by rw [hv, hc]; show r = some (.int (mdCO s A p (nI d) (A 1 27))); rw [← hx]; exact hr2
      obtain rfl : L' = mdW s (md4 A g2) := hL
      refine And.intro (fun q2 => ?_) (fun q2 => ?_)
      · have q2 : v = -4 := q2
        exact fin x g2 (by rw [hr, p_dpF, ← hv, if_pos q2, hx])
      · have q2 : ¬ v = -4 := q2
        exact ih (d + 1) _ g2 (by omega) (by rw [hx, nI_1]) (by rw [hr, p_dpF, ← hv, if_neg q2])
  have l := loop 9 0 0 A (by omega) nI_0.symm hr
  rw [md4_I] at l
  exact l
def p_feS (c : Nat → Int32) (li : Int32) (k : Nat) (q : Int32 × Int32) : Int32 × Int32 := if nI k &&& li = 0 then (if p_bo (nI k) 8 < q.1 then (if c k = -4 then (p_bo (nI k) 8, nI k) else q) else q) else q
def p_fe (c : Nat → Int32) (li : Int32) : Nat → Int32 × Int32
  | 0 => (1000000, 0)
  | k + 1 => p_feS c li k (p_fe c li k)
def r_mfe (s : Nat → Int32) (A : Nat → Nat → Int32) (p z : Int32) : Int32 := if p_in (s 2) p = 0 then -1 else if z < 0 ∨ 1 < z then -1 else if p_hb (A 1 0) p = 0 then (if z = 0 then (p_fe (fun k => mdCO s A p (A 1 28) (A 1 27 ||| nI k)) (A 1 27) (2 ^ (s 3).toNatClampNeg)).1 else (p_fe (fun k => mdCO s A p (A 1 28) (A 1 27 ||| nI k)) (A 1 27) (2 ^ (s 3).toNatClampNeg)).2) else -2
def c_X6_fewest : sCtr := ((yX6_fewest, cX6_fewest, 7, (some .int)), (7, 2, 6, 152), false,
  mdfp,
  fun vs L => ∃ (s : Nat → Int32) (A : Nat → Nat → Int32) (p z : Int32) (m n d : Nat), vs = [.ref 0, .int p, .int z] ∧ L = mdW s A ∧ s 2 = nI m ∧ m ≤ 8 ∧ s 3 = nI n ∧ n ≤ 8 ∧ A 1 28 = nI d ∧ d ≤ 8 ∧ (∀ i, i < n → lt8 (A 1 (10 + i))) ∧ lt8 (A 1 26),
  fun vs L r L' => r = some (.int (r_mfe (oI L 0) (bF L) (vI vs 1) (vI vs 2))) ∧ ∃ g, L' = mdW (oI L 0) (md4 (bF L) g))
theorem sta_X6_fewest : s_Sta c_X6_fewest := ⟨⟨by decide +kernel, by decide +kernel, by decide +kernel⟩, List.mem_of_getElem? (i := 1162) (by decide +kernel), List.mem_of_getElem? (i := 70) (by decide +kernel), ⟨List.mem_of_getElem? (i := 1160) (by decide +kernel), List.mem_of_getElem? (i := 1161) (by decide +kernel), Or.inl ⟨_, rfl, rfl⟩⟩⟩

def k_X6_fewest : List sBk := [
  (0, false, [true, true, true, false, false, false, false], [o0 0 (.aload_n 0), o0 1 (.iload_n 1), oC 2 (.invokevirtual 192) [1035] c_X6_isOne, oN 5 (.ifCond .eq 13) [1], o0 8 (.iload_n 2), o0 9 .i2l, oK 10 (.lconst 0) (.long 0), oK 11 (.lconst 1) (.long 1), oC 12 (.invokestatic 90) [921] c_X6_in, oN 15 (.ifCond .ne 5) [2], oN 18 .nop [1]]),
  (18, false, [false, false, false, false, false, false, false], [oK 18 (.iconst (-1)) (.int (-1)), o0 19 .ireturn]),
  (20, false, [true, true, true, false, false, false, false], [o0 20 (.aload_n 0), oN 21 (.getfield 7) [6, 0, 822], oK 24 (.iconst 0) (.int 0), o0 25 .iaload, o0 26 (.iload_n 1), o0 27 .ishr, oK 28 (.iconst 1) (.int 1), o0 29 .iand, oK 30 (.iconst 1) (.int 1), oN 31 (.if_icmp .ne 6) [3], oK 34 (.bipush (-2)) (.int (-2)), o0 36 .ireturn]),
  (37, false, [true, true, true, false, false, false, false], [oV 37 (.ldc 239) [1154] (.int 1000000), o0 39 (.istore_n 3), oK 40 (.iconst 0) (.int 0), o0 41 (.istore 4), oK 43 (.iconst 0) (.int 0), o0 44 (.istore 5), oN 46 .nop [4]]),
  (46, true, [true, true, true, true, true, true, false], [o0 46 (.iload 5), oK 48 (.iconst 1) (.int 1), o0 49 (.aload_n 0), oN 50 (.getfield 85) [6, 3, 825], o0 53 .ishl, oN 54 (.if_icmp .ge 94) [11], o0 57 (.iload 5), o0 59 (.aload_n 0), oN 60 (.getfield 7) [6, 0, 822], oK 63 (.bipush 27) (.int 27), o0 65 .iaload, o0 66 .iand, oN 67 (.ifCond .ne 43) [5], o0 70 (.iload 5), oC 72 (.invokestatic 219) [1105] c_X6_bitsOf, o0 75 (.iload_n 3), oN 76 (.if_icmp .ge 34) [5], o0 79 (.aload_n 0), o0 80 (.iload_n 1), o0 81 (.aload_n 0), oN 82 (.getfield 7) [6, 0, 822], oK 85 (.bipush 28) (.int 28), o0 87 .iaload, o0 88 (.aload_n 0), oN 89 (.getfield 7) [6, 0, 822], oK 92 (.bipush 27) (.int 27), o0 94 .iaload, o0 95 (.iload 5), o0 97 .ior, oC 98 (.invokevirtual 244) [1146] c_X6_cheapOf, oK 101 (.bipush (-4)) (.int (-4)), oN 103 (.if_icmp .ne 7) [5], oK 106 (.iconst 1) (.int 1), oN 107 (.goto 4) [6]]),
  (110, false, [true, true, true, true, true, true, false], [oK 110 (.iconst 0) (.int 0), oN 111 .nop [6]]),
  (111, false, [true, true, true, true, true, true, false], [o0 111 (.istore 6), o0 113 (.iload 6), oN 115 (.ifCond .eq 8) [7], o0 118 (.iload 5), oN 120 (.goto 5) [8]]),
  (123, false, [true, true, true, true, true, true, true], [o0 123 (.iload 4), oN 125 .nop [8]]),
  (125, false, [true, true, true, true, false, true, true], [o0 125 (.istore 4), o0 127 (.iload 6), oN 129 (.ifCond .eq 11) [9], o0 132 (.iload 5), oC 134 (.invokestatic 219) [1105] c_X6_bitsOf, oN 137 (.goto 4) [10]]),
  (140, false, [true, true, true, true, true, true, false], [o0 140 (.iload_n 3), oN 141 .nop [10]]),
  (141, false, [true, true, true, false, true, true, false], [o0 141 (.istore_n 3), oK 142 (.iinc 5 1) (.int 1), oN 145 (.goto (-99)) [4]]),
  (148, false, [false, false, true, true, true, false, false], [o0 148 (.iload_n 2), oN 149 (.ifCond .ne 7) [12], o0 152 (.iload_n 3), oN 153 (.goto 5) [13]]),
  (156, false, [false, false, false, false, true, false, false], [o0 156 (.iload 4), oN 158 .nop [13]]),
  (158, false, [false, false, false, false, false, false, false], [o0 158 .ireturn])]
set_option maxRecDepth 100000 in
theorem ck_X6_fewest : s_ck RX6 cX6_fewest 7 6 152 k_X6_fewest = true := by decide +kernel

set_option maxRecDepth 100000 in
set_option maxHeartbeats 4000000 in
theorem ok_X6_fewest : s_Ok c_X6_fewest := by
  refine s_ok_of k_X6_fewest (by decide +kernel) sta_X6_fewest ck_X6_fewest (And.intro ok_X6_isOne (And.intro ok_X6_in (And.intro ok_X6_bitsOf (And.intro ok_X6_cheapOf (And.intro ok_X6_bitsOf trivial))))) ?_
  rintro vs L ⟨s, A, p, z, m, n, d, rfl, rfl, hm, hm8, hn, hn8, he, hd, hnd, hh0⟩
  refine ⟨rfl, fun G hG => ?_⟩
  have h28 := p_2le n hn8
  have e3 : (s 3).toNatClampNeg = n := by rw [hn, nI_clamp (by omega)]
  have fin : ∀ (a : Int32) (g : Nat → Nat → Int32), a = r_mfe s A p z → s_PP (some .int) false c_X6_fewest.2.2.2.2.2 [.ref 0, .int p, .int z] (mdW s A) (some (.int a)) (mdW s (md4 A g)) := fun a g ha => ⟨rfl, ⟨by rw [ha]; rfl, g, rfl⟩, fun h => by cases h⟩
  have fin0 : ∀ (a : Int32), a = r_mfe s A p z → s_PP (some .int) false c_X6_fewest.2.2.2.2.2 [.ref 0, .int p, .int z] (mdW s A) (some (.int a)) (mdW s A) := fun a ha => by
    have k := fin a A ha
    rw [md4_I] at k
    exact k
  refine hG 0 _ _ _ (And.intro ⟨s, A, _, m, rfl, rfl, hm, hm8⟩ ?_)
  intro r hr
  obtain ⟨b, hb⟩ : ∃ b, b = p_in (s 2) p := ⟨_, rfl⟩
  obtain rfl : r = some (.int b) := by rw [hb]; exact hr
  refine And.intro (fun h => ?_) (fun h => ?_)
  · have h : b = 0 := h
    exact fin0 (-1) (by rw [r_mfe, ← hb, if_pos h])
  have h : ¬ b = 0 := h
  refine And.intro ⟨_, _, _, rfl⟩ ?_
  intro r hr
  obtain ⟨b2, hb2⟩ : ∃ b, b = p_in64 z.toInt64 0 (1 : Int32).toInt64 := ⟨_, rfl⟩
  obtain rfl : r = some (.int b2) := by rw [hb2]; exact hr
  refine And.intro (fun h2 => ?_) (fun h2 => ?_)
  · have h2 : z < 0 ∨ 1 < z := (p_rng _ _).mp (hb2.symm.trans h2)
    exact fin0 (-1) (by rw [r_mfe, ← hb, if_neg h, if_pos h2])
  have h2 : ¬ (z < 0 ∨ 1 < z) := fun q => h2 (hb2.trans ((p_rng _ _).mpr q))
  refine And.intro (vp_in_nI (n := 0) (N := 159) (by decide) (by decide)) (And.intro (fun h3 => ?_) (fun h3 => ?_))
  · have h3 : ¬ p_hb (A 1 0) p = 0 := fun z => p_hb_0.mp z h3
    exact fin0 (-2) (by rw [r_mfe, ← hb, if_neg h, if_neg h2, if_neg h3])
  have h3 : p_hb (A 1 0) p = 0 := p_hb_0.mpr h3
  obtain ⟨c, hc⟩ : ∃ c : Nat → Int32, c = fun k => mdCO s A p (A 1 28) (A 1 27 ||| nI k) := ⟨_, rfl⟩
  have hr : r_mfe s A p z = if z = 0 then (p_fe c (A 1 27) (2 ^ n)).1 else (p_fe c (A 1 27) (2 ^ n)).2 := by rw [r_mfe, ← hb, if_neg h, if_neg h2, if_pos h3, ← hc, e3]
  have hsh : (1 : Int32) <<< (s 3 &&& 31) = nI (2 ^ n) := by rw [hn, p_2n n (by omega)]
  have loop : ∀ (k i : Nat) (x a1 a2 : Int32) (g : Nat → Nat → Int32), i + k = 2 ^ n → x = nI i → (a1, a2) = p_fe c (A 1 27) i → G 4 [some (.ref 0), some (.int p), some (.int z), some (.int a1), some (.int a2), some (.int x), none] [] (mdW s (md4 A g)) := by
    intro k
    induction k with
    | zero =>
      intro i x a1 a2 g hk hx ha
      have ha1 : a1 = (p_fe c (A 1 27) (2 ^ n)).1 := by rw [← show i = 2 ^ n by omega, ← ha]
      have ha2 : a2 = (p_fe c (A 1 27) (2 ^ n)).2 := by rw [← show i = 2 ^ n by omega, ← ha]
      refine hG 4 _ _ _ (And.intro (fun q => ?_) (fun q => ?_))
      · have q : x < (1 : Int32) <<< (s 3 &&& 31) := q
        rw [hsh, hx, nI_ltI (by omega) (by omega)] at q; omega
      refine And.intro (fun q => ?_) (fun q => ?_)
      · exact fin a1 g (by rw [hr, if_pos q, ha1])
      · exact fin a2 g (by rw [hr, if_neg q, ha2])
    | succ k ih =>
      intro i x a1 a2 g hk hx ha
      have skip : ∀ g, p_feS c (A 1 27) i (a1, a2) = (a1, a2) → G 4 [some (.ref 0), some (.int p), some (.int z), some (.int a1), some (.int a2), some (.int (x + 1)), none] [] (mdW s (md4 A g)) := fun g hq => ih (i + 1) _ a1 a2 g (by omega) (by rw [hx, nI_1]) (by rw [p_fe, ← ha, hq])
      refine hG 4 _ _ _ (And.intro (fun q => ?_) (fun q => ?_))
      rotate_left
      · have q : ¬ x < (1 : Int32) <<< (s 3 &&& 31) := q
        rw [hsh, hx, nI_ltI (by omega) (by omega)] at q; omega
      refine And.intro (vp_in_nI (n := 27) (N := 159) (by decide) (by decide)) (And.intro (fun q2 => ?_) (fun q2 => ?_))
      rotate_left
      · have q2 : ¬ x &&& A 1 27 = 0 := q2
        rw [hx] at q2
        refine And.intro (fun _ => ?_) (fun z => absurd rfl z)
        refine And.intro (fun _ => ?_) (fun z => absurd rfl z)
        exact skip g (by rw [p_feS, if_neg q2])
      have q2 : x &&& A 1 27 = 0 := q2
      rw [hx] at q2
      refine And.intro ⟨_, rfl⟩ ?_
      intro r hr2
      obtain ⟨w, hw⟩ : ∃ w, w = p_bo (nI i) 8 := ⟨_, rfl⟩
      obtain rfl : r = some (.int w) := by rw [hw, ← hx]; exact hr2
      refine And.intro (fun q3 => ?_) (fun q3 => ?_)
      rotate_left
      · have q3 : ¬ w < a1 := q3
        refine And.intro (fun _ => ?_) (fun z => absurd rfl z)
        refine And.intro (fun _ => ?_) (fun z => absurd rfl z)
        exact skip g (by rw [p_feS, if_pos q2, ← hw, if_neg q3])
      have q3 : w < a1 := q3
      refine And.intro (vp_in_nI (n := 28) (N := 159) (by decide) (by decide)) (And.intro (vp_in_nI (n := 27) (N := 159) (by decide) (by decide)) ?_)
      refine And.intro ⟨s, md4 A g, _, _, _, n, d, rfl, rfl, hn, hn8, he, hd, hnd, hh0⟩ ?_
      rintro r L' ⟨hr2, g2, hL⟩
      obtain ⟨v, hv⟩ : ∃ v, v = c i := ⟨_, rfl⟩
      obtain rfl : r = some (.int v) := by rw [hv, hc]; show r = some (.int (mdCO s A p (A 1 28) (A 1 27 ||| nI i))); rw [← hx]; exact hr2
      obtain rfl : L' = mdW s (md4 A g2) := hL
      refine And.intro (fun q4 => ?_) (fun q4 => ?_)
      · have q4 : v = -4 := q4
        refine And.intro (fun z => absurd z (by decide)) (fun _ => ?_)
        refine And.intro (fun z => absurd z (by decide)) (fun _ => ?_)
        refine And.intro ⟨_, rfl⟩ ?_
        intro r hr2
        obtain rfl : r = some (.int w) := by rw [hw, ← hx]; exact hr2
        exact ih (i + 1) _ w x g2 (by omega) (by rw [hx, nI_1]) (by rw [p_fe, ← ha, p_feS, if_pos q2, ← hw, if_pos q3, ← hv, if_pos q4, hx])
      · have q4 : ¬ v = -4 := q4
        refine And.intro (fun _ => ?_) (fun z => absurd rfl z)
        refine And.intro (fun _ => ?_) (fun z => absurd rfl z)
        exact skip g2 (by rw [p_feS, if_pos q2, ← hw, if_pos q3, ← hv, if_neg q4])
  have l := loop (2 ^ n) 0 0 1000000 0 A (by omega) nI_0.symm rfl
  rw [md4_I] at l
  exact l
def p_al (c lb : Nat → Int32) : Nat → Int32
  | 0 => 0
  | h + 1 => if c h < 1000000 then p_al c lb h ||| lb h else p_al c lb h
def r_mal (s : Nat → Int32) (A : Nat → Nat → Int32) : Int32 := p_al (p_fc (mdAS s A (A 1 28) (A 1 27)) (A 4) (A 1 26).toNatClampNeg (s 3).toNatClampNeg 256) (mdLB s A) 256
def c_X6_all : sCtr := ((yX6_all, cX6_all, 3, (some .int)), (7, 0, 5, 126), false,
  mdfp,
  fun vs L => ∃ (s : Nat → Int32) (A : Nat → Nat → Int32) (n d : Nat), vs = [.ref 0] ∧ L = mdW s A ∧ s 3 = nI n ∧ n ≤ 8 ∧ A 1 28 = nI d ∧ d ≤ 8 ∧ (∀ i, i < n → lt8 (A 1 (10 + i))) ∧ lt8 (A 1 26),
  fun _ L r L' => r = some (.int (r_mal (oI L 0) (bF L))) ∧ ∃ g, L' = mdW (oI L 0) (md4 (bF L) g))
theorem sta_X6_all : s_Sta c_X6_all := ⟨⟨by decide +kernel, by decide +kernel, by decide +kernel⟩, List.mem_of_getElem? (i := 1166) (by decide +kernel), List.mem_of_getElem? (i := 70) (by decide +kernel), ⟨List.mem_of_getElem? (i := 1164) (by decide +kernel), List.mem_of_getElem? (i := 1165) (by decide +kernel), Or.inl ⟨_, rfl, rfl⟩⟩⟩

def k_X6_all : List sBk := [
  (0, false, [true, false, false], [o0 0 (.aload_n 0), o0 1 (.aload_n 0), oN 2 (.getfield 7) [6, 0, 822], oK 5 (.bipush 28) (.int 28), o0 7 .iaload, o0 8 (.aload_n 0), oN 9 (.getfield 7) [6, 0, 822], oK 12 (.bipush 27) (.int 27), o0 14 .iaload, oC 15 (.invokevirtual 240) [1150] c_X6_findCosts, oK 18 (.iconst 0) (.int 0), o0 19 (.istore_n 1), oK 20 (.iconst 0) (.int 0), o0 21 (.istore_n 2), oN 22 .nop [1]]),
  (22, true, [true, true, true], [o0 22 (.iload_n 2), oK 23 (.sipush 256) (.int 256), oN 26 (.if_icmp .ge 32) [4], o0 29 (.iload_n 1), o0 30 (.aload_n 0), oN 31 (.getfield 35) [6, 22, 844], o0 34 (.iload_n 2), o0 35 .iaload, oV 36 (.ldc 239) [1154] (.int 1000000), oN 38 (.if_icmp .ge 11) [2], o0 41 (.aload_n 0), o0 42 (.iload_n 2), oC 43 (.invokevirtual 225) [1134] c_X6_livingBy, oN 46 (.goto 4) [3]]),
  (49, false, [true, false, true], [oK 49 (.iconst 0) (.int 0), oN 50 .nop [3]]),
  (50, false, [true, false, true], [o0 50 .ior, o0 51 (.istore_n 1), oK 52 (.iinc 2 1) (.int 1), oN 55 (.goto (-33)) [1]]),
  (58, false, [false, true, false], [o0 58 (.iload_n 1), o0 59 .ireturn])]
set_option maxRecDepth 100000 in
theorem ck_X6_all : s_ck RX6 cX6_all 3 5 126 k_X6_all = true := by decide +kernel

set_option maxRecDepth 100000 in
set_option maxHeartbeats 4000000 in
theorem ok_X6_all : s_Ok c_X6_all := by
  refine s_ok_of k_X6_all (by decide +kernel) sta_X6_all ck_X6_all (And.intro ok_X6_findCosts (And.intro ok_X6_livingBy trivial)) ?_
  rintro vs L ⟨s, A, n, d, rfl, rfl, hn, hn8, he, hd, hnd, hh0⟩
  refine ⟨rfl, fun G hG => ?_⟩
  obtain ⟨C, hC⟩ : ∃ C, C = p_fc (mdAS s A (A 1 28) (A 1 27)) (A 4) (A 1 26).toNatClampNeg (s 3).toNatClampNeg 256 := ⟨_, rfl⟩
  obtain ⟨LB, hLB⟩ : ∃ LB, LB = mdLB s A := ⟨_, rfl⟩
  have fin : ∀ (a : Int32) (f : Nat → Int32), a = p_al C LB 256 → s_PP (some .int) false c_X6_all.2.2.2.2.2 [.ref 0] (mdW s A) (some (.int a)) (mdW s (va_up A 9 f)) := fun a f ha => ⟨rfl, ⟨by rw [ha, hC, hLB]; rfl, va_up A 9 f, rfl⟩, fun h => by cases h⟩
  refine hG 0 _ _ _ (And.intro (vp_in_nI (n := 28) (N := 159) (by decide) (by decide)) (And.intro (vp_in_nI (n := 27) (N := 159) (by decide) (by decide)) ?_))
  refine And.intro ⟨s, A, _, _, n, d, rfl, rfl, hn, hn8, he, hd, hnd, hh0⟩ ?_
  rintro r L' ⟨rfl, f, hL, hf⟩
  obtain rfl : L' = mdW s (va_up A 9 f) := hL
  replace hf : agr f C := by rw [hC]; exact hf
  have loop : ∀ (k h : Nat) (x a : Int32), h + k = 256 → x = nI h → a = p_al C LB h → G 1 [some (.ref 0), some (.int a), some (.int x)] [] (mdW s (va_up A 9 f)) := by
    intro k
    induction k with
    | zero =>
      intro h x a hk hx ha
      refine hG 1 _ _ _ (And.intro (fun q => ?_) (fun q => ?_))
      · rw [hx, show (256 : Int32) = nI 256 from rfl, nI_ltI (by omega) (by omega)] at q; omega
      · rw [show h = 256 by omega] at ha
        exact fin a f ha
    | succ k ih =>
      intro h x a hk hx ha
      have hinh : vp_in x 256 := by rw [hx]; exact vp_in_nI (by omega) (by omega)
      have hxc : x.toNatClampNeg = h := by rw [hx, nI_clamp (by omega)]
      have hfh : f x.toNatClampNeg = C h := by rw [hxc]; exact hf h (by omega)
      refine hG 1 _ _ _ (And.intro (fun q => ?_) (fun q => ?_))
      rotate_left
      · rw [hx, show (256 : Int32) = nI 256 from rfl, nI_ltI (by omega) (by omega)] at q; omega
      refine And.intro hinh (And.intro (fun q2 => ?_) (fun q2 => ?_))
      · have q2 : f x.toNatClampNeg < 1000000 := q2
        rw [hfh] at q2
        refine And.intro ⟨s, va_up A 9 f, _, n, rfl, rfl, hn, hn8⟩ ?_
        intro r hr
        obtain ⟨v, hv⟩ : ∃ v, v = LB h := ⟨_, rfl⟩
        obtain rfl : r = some (.int v) := by rw [hv, hLB, mdLB, p_LB, ← hx]; exact hr
        exact ih (h + 1) _ (a ||| v) (by omega) (by rw [hx, nI_1]) (by rw [p_al, if_pos q2, ← hv, ha])
      · have q2 : ¬ f x.toNatClampNeg < 1000000 := q2
        rw [hfh] at q2
        exact ih (h + 1) _ (a ||| 0) (by omega) (by rw [hx, nI_1]) (by rw [p_al, if_neg q2, p_or0, ha])
  exact loop 256 0 _ _ (by omega) nI_0.symm rfl

/-! ===== WishClerkModel: sheets ===== -/
theorem p_isS_ne {k l : Int32} (h : ¬ p_isS k l = 0) : ∃ K, K < 4 ∧ k = nI K := by
  unfold p_isS at h
  by_cases h1 : k < 0 ∨ 3 < k
  · rw [if_pos h1] at h; exact absurd rfl h
  · obtain ⟨j, hj, rfl⟩ := nI_of (fun q => h1 (Or.inl q))
    exact ⟨j, by
      have : ¬ 3 < j := fun q => h1 (Or.inr ((nI_ltI (a := 3) (by omega) hj).mpr q))
      omega, rfl⟩
def q_zk (f : Nat → Int32) (a i : Nat) : Nat → Int32 := fun j => if a ≤ j ∧ j < a + i then 0 else f j
theorem q_zk0 (f : Nat → Int32) (a : Nat) : q_zk f a 0 = f := by
  funext j
  rw [q_zk, if_neg (by omega)]
theorem q_zkS (f : Nat → Int32) (a i : Nat) : upd (q_zk f a i) (a + i) 0 = q_zk f a (i + 1) := by
  funext j
  rw [upd]
  by_cases hj : j = a + i
  · rw [if_pos hj, q_zk, if_pos (by omega)]
  · rw [if_neg hj]
    unfold q_zk
    by_cases h2 : a ≤ j ∧ j < a + i
    · rw [if_pos h2, if_pos (by omega)]
    · rw [if_neg h2, if_neg (by omega)]
def r_msheet (k l n : Int32) : Int32 := if p_isS k l = 0 then -1 else if 40 < n then -1 else if n < 0 then -14 else 1
/-- lanes, sizes, cells -/
def q_msh (A : Nat → Nat → Int32) (k l n : Int32) : Nat → Nat → Int32 := fun i => if r_msheet k l n = 1 then va_up (va_up (va_up A 14 (upd (A 14) k.toNatClampNeg l)) 15 (upd (A 15) k.toNatClampNeg n)) 16 (q_zk (A 16) (40 * k.toNatClampNeg) 40) i else A i
def c_X6_sheet : sCtr := ((yX6_sheet, cX6_sheet, 5, (some .int)), (7, 3, 2, 46), false,
  mdfp,
  fun vs L => ∃ (s : Nat → Int32) (A : Nat → Nat → Int32) (k l n : Int32), vs = [.ref 0, .int k, .int l, .int n] ∧ L = mdW s A,
  fun vs L r L' => r = some (.int (r_msheet (vI vs 1) (vI vs 2) (vI vs 3))) ∧ L' = mdW (oI L 0) (q_msh (bF L) (vI vs 1) (vI vs 2) (vI vs 3)))
theorem sta_X6_sheet : s_Sta c_X6_sheet := ⟨⟨by decide +kernel, by decide +kernel, by decide +kernel⟩, List.mem_of_getElem? (i := 1229) (by decide +kernel), List.mem_of_getElem? (i := 70) (by decide +kernel), ⟨List.mem_of_getElem? (i := 1227) (by decide +kernel), List.mem_of_getElem? (i := 1228) (by decide +kernel), Or.inl ⟨_, rfl, rfl⟩⟩⟩

def k_X6_sheet : List sBk := [
  (0, false, [true, true, true, true, false], [o0 0 (.iload_n 1), o0 1 (.iload_n 2), oC 2 (.invokestatic 269) [1230] c_X6_isSheet, oN 5 (.ifCond .eq 9) [1], o0 8 (.iload_n 3), oK 9 (.bipush 40) (.int 40), oN 11 (.if_icmp .le 5) [2], oN 14 .nop [1]]),
  (14, false, [false, false, false, false, false], [oK 14 (.iconst (-1)) (.int (-1)), o0 15 .ireturn]),
  (16, false, [true, true, true, true, false], [o0 16 (.iload_n 3), oN 17 (.ifCond .ge 6) [3], oK 20 (.bipush (-14)) (.int (-14)), o0 22 .ireturn]),
  (23, false, [true, true, true, true, false], [o0 23 (.aload_n 0), oN 24 (.getfield 50) [6, 27, 849], o0 27 (.iload_n 1), o0 28 (.iload_n 2), o0 29 .iastore, o0 30 (.aload_n 0), oN 31 (.getfield 53) [6, 28, 850], o0 34 (.iload_n 1), o0 35 (.iload_n 3), o0 36 .iastore, oK 37 (.iconst 0) (.int 0), o0 38 (.istore 4), oN 40 .nop [4]]),
  (40, true, [true, true, false, false, true], [o0 40 (.iload 4), oK 42 (.bipush 40) (.int 40), oN 44 (.if_icmp .ge 22) [5], o0 47 (.aload_n 0), oN 48 (.getfield 56) [6, 29, 851], oK 51 (.bipush 40) (.int 40), o0 53 (.iload_n 1), o0 54 .imul, o0 55 (.iload 4), o0 57 .iadd, oK 58 (.iconst 0) (.int 0), o0 59 .iastore, oK 60 (.iinc 4 1) (.int 1), oN 63 (.goto (-23)) [4]]),
  (66, false, [false, false, false, false, false], [oK 66 (.iconst 1) (.int 1), o0 67 .ireturn])]
set_option maxRecDepth 100000 in
theorem ck_X6_sheet : s_ck RX6 cX6_sheet 5 2 46 k_X6_sheet = true := by decide +kernel

set_option maxRecDepth 100000 in
set_option maxHeartbeats 1000000 in
theorem ok_X6_sheet : s_Ok c_X6_sheet := by
  refine s_ok_of k_X6_sheet (by decide +kernel) sta_X6_sheet ck_X6_sheet (And.intro ok_X6_isSheet trivial) ?_
  rintro vs L ⟨s, A, k, l, n, rfl, rfl⟩
  refine ⟨rfl, fun G hG => ?_⟩
  have fin : ∀ (a : Int32) (L2 : sH), a = r_msheet k l n → L2 = mdW s (q_msh A k l n) → s_PP (some .int) false c_X6_sheet.2.2.2.2.2 [.ref 0, .int k, .int l, .int n] (mdW s A) (some (.int a)) L2 := fun a L2 ha hL => ⟨rfl, ⟨by rw [ha]; rfl, by rw [hL]; rfl⟩, fun h => by cases h⟩
  have no : ∀ a : Int32, a = r_msheet k l n → ¬ a = 1 → s_PP (some .int) false c_X6_sheet.2.2.2.2.2 [.ref 0, .int k, .int l, .int n] (mdW s A) (some (.int a)) (mdW s A) := fun a ha h1 => fin a _ ha (by rw [show q_msh A k l n = A by funext i; rw [q_msh, ← ha, if_neg h1]])
  refine hG 0 _ _ _ (And.intro ⟨_, _, rfl⟩ ?_)
  intro r hr
  obtain rfl : r = some (.int (p_isS k l)) := hr
  refine And.intro (fun h => ?_) (fun h => ?_)
  · exact no _ (by rw [r_msheet, if_pos h]) (by decide)
  refine And.intro (fun h2 => ?_) (fun h2 => ?_)
  · exact no _ (by rw [r_msheet, if_neg h, if_pos h2]) (by decide)
  refine And.intro (fun h3 => ?_) (fun h3 => ?_)
  · exact no _ (by rw [r_msheet, if_neg h, if_neg h2, if_pos h3]) (by decide)
  have hr1 : r_msheet k l n = 1 := by rw [r_msheet, if_neg h, if_neg h2, if_neg h3]
  obtain ⟨K, hK, hk⟩ := p_isS_ne h
  have hin : vp_in k 4 := by rw [hk]; exact vp_in_nI (by omega) (by omega)
  have hkc : k.toNatClampNeg = K := by rw [hk, nI_clamp (by omega)]
  obtain ⟨B, hB⟩ : ∃ B, B = va_up (va_up A 14 (upd (A 14) k.toNatClampNeg l)) 15 (upd (A 15) k.toNatClampNeg n) := ⟨_, rfl⟩
  have loop : ∀ (r i : Nat) (x : Int32) (f : Nat → Int32), i + r = 40 → x = nI i → f = q_zk (A 16) (40 * K) i → G 4 [some (.ref 0), some (.int k), none, none, some (.int x)] [] (mdW s (va_up B 16 f)) := by
    intro r
    induction r with
    | zero =>
      intro i x f hi hx hf
      refine hG 4 _ _ _ (And.intro (fun q => ?_) (fun q => ?_))
      · rw [hx, show (40 : Int32) = nI 40 from rfl, nI_ltI (by omega) (by omega)] at q; omega
      · exact fin _ _ hr1.symm (by rw [show q_msh A k l n = va_up B 16 f by funext i2; rw [q_msh, if_pos hr1, hB, hf, hkc, show i = 40 by omega]])
    | succ r ih =>
      intro i x f hi hx hf
      refine hG 4 _ _ _ (And.intro (fun q => ?_) (fun q => ?_))
      · have e : (40 : Int32) * k + x = nI (40 * K + i) := by rw [hk, hx, show (40 : Int32) = nI 40 from rfl, nI_mul, nI_add]
        refine And.intro ?_ ?_
        · show vp_in ((40 : Int32) * k + x) 160
          rw [e]; exact vp_in_nI (by omega) (by omega)
        · exact ih (i + 1) _ (upd f ((40 : Int32) * k + x).toNatClampNeg 0) (by omega) (by rw [hx, nI_1]) (by rw [e, nI_clamp (by omega), hf, q_zkS])
      · rw [hx, show (40 : Int32) = nI 40 from rfl, nI_ltI (by omega) (by omega)] at q; omega
  have l0 := loop 40 0 0 (A 16) (by omega) nI_0.symm (q_zk0 _ _).symm
  rw [hB] at l0
  exact And.intro hin (And.intro hin l0)
theorem p_in_nB {n : Nat} {p : Int32} (hn : n ≤ 256) (h : ¬ p_in (nI n) p = 0) : ∃ j, j < n ∧ p = nI j := by
  unfold p_in at h
  by_cases h1 : p < 0
  · rw [if_pos h1] at h; exact absurd rfl h
  · rw [if_neg h1] at h
    by_cases h2 : p < nI n
    · obtain ⟨j, hj, rfl⟩ := nI_of h1
      exact ⟨j, (nI_ltI hj (by omega)).mp h2, rfl⟩
    · rw [if_neg h2] at h; exact absurd rfl h
def r_mlay (la si : Nat → Int32) (k i : Int32) : Int32 := if p_isS k 0 = 0 then -1 else if la k.toNatClampNeg = -4 then -11 else if p_in (si k.toNatClampNeg) i = 0 then -12 else 1
def p_nar (ln v : Int32) : Int32 := if ln = 0 then v.toInt8.toInt32 else if ln = 1 then v.toInt16.toInt32 else v
def q_mlay (la si ce : Nat → Int32) (k i v : Int32) : Nat → Int32 := fun j => if r_mlay la si k i = 1 then upd ce (40 * k.toNatClampNeg + i.toNatClampNeg) (p_nar (la k.toNatClampNeg) v) j else ce j
def c_X6_lay : sCtr := ((yX6_lay, cX6_lay, 4, (some .int)), (7, 3, 2, 46), false,
  mdfp,
  fun vs L => ∃ (s : Nat → Int32) (A : Nat → Nat → Int32) (k i v : Int32), vs = [.ref 0, .int k, .int i, .int v] ∧ L = mdW s A ∧ ∀ K, K < 4 → ∃ m, m ≤ 40 ∧ A 15 K = nI m,
  fun vs L r L' => r = some (.int (r_mlay (bF L 14) (bF L 15) (vI vs 1) (vI vs 2))) ∧ L' = mdW (oI L 0) (va_up (bF L) 16 (q_mlay (bF L 14) (bF L 15) (bF L 16) (vI vs 1) (vI vs 2) (vI vs 3))))
theorem sta_X6_lay : s_Sta c_X6_lay := ⟨⟨by decide +kernel, by decide +kernel, by decide +kernel⟩, List.mem_of_getElem? (i := 1237) (by decide +kernel), List.mem_of_getElem? (i := 70) (by decide +kernel), ⟨List.mem_of_getElem? (i := 1235) (by decide +kernel), List.mem_of_getElem? (i := 1236) (by decide +kernel), Or.inl ⟨_, rfl, rfl⟩⟩⟩

def k_X6_lay : List sBk := [
  (0, false, [true, true, true, true], [o0 0 (.iload_n 1), oK 1 (.iconst 0) (.int 0), oC 2 (.invokestatic 269) [1230] c_X6_isSheet, oN 5 (.ifCond .ne 5) [1], oK 8 (.iconst (-1)) (.int (-1)), o0 9 .ireturn]),
  (10, false, [true, true, true, true], [o0 10 (.aload_n 0), oN 11 (.getfield 50) [6, 27, 849], o0 14 (.iload_n 1), o0 15 .iaload, oK 16 (.bipush (-4)) (.int (-4)), oN 18 (.if_icmp .ne 6) [2], oK 21 (.bipush (-11)) (.int (-11)), o0 23 .ireturn]),
  (24, false, [true, true, true, true], [o0 24 (.iload_n 2), o0 25 .i2l, oK 26 (.lconst 0) (.long 0), o0 27 (.aload_n 0), oN 28 (.getfield 53) [6, 28, 850], o0 31 (.iload_n 1), o0 32 .iaload, oK 33 (.iconst 1) (.int 1), o0 34 .isub, o0 35 .i2l, oC 36 (.invokestatic 90) [921] c_X6_in, oN 39 (.ifCond .ne 6) [3], oK 42 (.bipush (-12)) (.int (-12)), o0 44 .ireturn]),
  (45, false, [true, true, true, true], [o0 45 (.aload_n 0), oN 46 (.getfield 56) [6, 29, 851], oK 49 (.bipush 40) (.int 40), o0 51 (.iload_n 1), o0 52 .imul, o0 53 (.iload_n 2), o0 54 .iadd, o0 55 (.aload_n 0), oN 56 (.getfield 50) [6, 27, 849], o0 59 (.iload_n 1), o0 60 .iaload, oN 61 (.ifCond .ne 8) [4], o0 64 (.iload_n 3), o0 65 .i2b, oN 66 (.goto 19) [6]]),
  (69, false, [true, true, false, true], [o0 69 (.aload_n 0), oN 70 (.getfield 50) [6, 27, 849], o0 73 (.iload_n 1), o0 74 .iaload, oK 75 (.iconst 1) (.int 1), oN 76 (.if_icmp .ne 8) [5], o0 79 (.iload_n 3), o0 80 .i2s, oN 81 (.goto 4) [6]]),
  (84, false, [false, false, false, true], [o0 84 (.iload_n 3), oN 85 .nop [6]]),
  (85, false, [false, false, false, false], [o0 85 .iastore, oK 86 (.iconst 1) (.int 1), o0 87 .ireturn])]
set_option maxRecDepth 100000 in
theorem ck_X6_lay : s_ck RX6 cX6_lay 4 2 46 k_X6_lay = true := by decide +kernel

set_option maxRecDepth 100000 in
set_option maxHeartbeats 1000000 in
theorem ok_X6_lay : s_Ok c_X6_lay := by
  refine s_ok_of k_X6_lay (by decide +kernel) sta_X6_lay ck_X6_lay (And.intro ok_X6_isSheet (And.intro ok_X6_in trivial)) ?_
  rintro vs L ⟨s, A, k, i, v, rfl, rfl, hs⟩
  refine ⟨rfl, fun G hG => ?_⟩
  have fin : ∀ (a : Int32) (L2 : sH), a = r_mlay (A 14) (A 15) k i → L2 = mdW s (va_up A 16 (q_mlay (A 14) (A 15) (A 16) k i v)) → s_PP (some .int) false c_X6_lay.2.2.2.2.2 [.ref 0, .int k, .int i, .int v] (mdW s A) (some (.int a)) L2 := fun a L2 ha hL => ⟨rfl, ⟨by rw [ha]; rfl, by rw [hL]; rfl⟩, fun h => by cases h⟩
  have no : ∀ a : Int32, a = r_mlay (A 14) (A 15) k i → ¬ a = 1 → s_PP (some .int) false c_X6_lay.2.2.2.2.2 [.ref 0, .int k, .int i, .int v] (mdW s A) (some (.int a)) (mdW s A) := fun a ha h1 => fin a _ ha (by rw [show q_mlay (A 14) (A 15) (A 16) k i v = A 16 by funext j; rw [q_mlay, ← ha, if_neg h1], va_upI])
  refine hG 0 _ _ _ (And.intro ⟨_, _, rfl⟩ ?_)
  intro r hr
  obtain rfl : r = some (.int (p_isS k 0)) := hr
  refine And.intro (fun h => ?_) (fun h => ?_)
  · exact no _ (by rw [r_mlay, if_pos h]) (by decide)
  obtain ⟨K, hK, hk⟩ := p_isS_ne h
  have hin : vp_in k 4 := by rw [hk]; exact vp_in_nI (by omega) (by omega)
  have hkc : k.toNatClampNeg = K := by rw [hk, nI_clamp (by omega)]
  refine And.intro hin (And.intro (fun h2 => ?_) (fun h2 => ?_))
  · have h2 : A 14 k.toNatClampNeg = -4 := h2
    exact no _ (by rw [r_mlay, if_neg h, if_pos h2]) (by decide)
  have h2 : ¬ A 14 k.toNatClampNeg = -4 := h2
  obtain ⟨m, hm40, hm⟩ := hs K hK
  refine And.intro hin (And.intro ⟨_, _, _, rfl⟩ ?_)
  intro r hr
  obtain ⟨b, hb⟩ : ∃ b, b = p_in (A 15 k.toNatClampNeg) i := ⟨_, rfl⟩
  obtain rfl : r = some (.int b) := by
    have h1 : r = some (.int (p_in64 i.toInt64 0 (A 15 k.toNatClampNeg - 1).toInt64)) := hr
    rw [h1, hb, hkc, hm, p_in64_in i (by omega)]
  refine And.intro (fun h3 => ?_) (fun h3 => ?_)
  · have h3 : b = 0 := h3
    exact no _ (by rw [r_mlay, if_neg h, if_neg h2, ← hb, if_pos h3]) (by decide)
  have h3 : ¬ b = 0 := h3
  have h4 := h3
  rw [hb, hkc, hm] at h4
  obtain ⟨j, hj, hi⟩ := p_in_nB (by omega) h4
  have hr1 : r_mlay (A 14) (A 15) k i = 1 := by rw [r_mlay, if_neg h, if_neg h2, ← hb, if_neg h3]
  have e : (40 : Int32) * k + i = nI (40 * K + j) := by rw [hk, hi, show (40 : Int32) = nI 40 from rfl, nI_mul, nI_add]
  have ec : ((40 : Int32) * k + i).toNatClampNeg = 40 * k.toNatClampNeg + i.toNatClampNeg := by rw [e, hk, hi, nI_clamp (by omega), nI_clamp (by omega), nI_clamp (by omega)]
  have hin2 : vp_in ((40 : Int32) * k + i) 160 := by rw [e]; exact vp_in_nI (by omega) (by omega)
  have last : ∀ z : Int32, z = p_nar (A 14 k.toNatClampNeg) v → s_PP (some .int) false c_X6_lay.2.2.2.2.2 [.ref 0, .int k, .int i, .int v] (mdW s A) (some (.int 1)) (mdW s (va_up A 16 (upd (A 16) ((40 : Int32) * k + i).toNatClampNeg z))) := fun z hz => fin _ _ hr1.symm (by rw [show q_mlay (A 14) (A 15) (A 16) k i v = upd (A 16) ((40 : Int32) * k + i).toNatClampNeg z by funext j; rw [q_mlay, if_pos hr1, ec, hz]])
  refine And.intro hin (And.intro (fun h5 => ?_) (fun h5 => ?_))
  · have h5 : A 14 k.toNatClampNeg = 0 := h5
    exact And.intro hin2 (last _ (by rw [p_nar, if_pos h5]))
  have h5 : ¬ A 14 k.toNatClampNeg = 0 := h5
  refine And.intro hin (And.intro (fun h6 => ?_) (fun h6 => ?_))
  · have h6 : A 14 k.toNatClampNeg = 1 := h6
    exact And.intro hin2 (last _ (by rw [p_nar, if_neg h5, if_pos h6]))
  have h6 : ¬ A 14 k.toNatClampNeg = 1 := h6
  exact And.intro hin2 (last _ (by rw [p_nar, if_neg h5, if_neg h6]))

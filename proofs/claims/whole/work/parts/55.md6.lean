/-! ===== WishClerkModel: what is seen, what fits, least sets ===== -/
theorem nI_mul (a b : Nat) : nI a * nI b = nI (a * b) := (Int32.ofNat_mul a b).symm
def r_msee (st : Nat → Int32) (y p : Int32) : Int32 := if p_in y p = 0 then -1 else if st 36 = 8 then -3 else st 36 + 1
def q_msee (st : Nat → Int32) (y p z : Int32) : Nat → Int32 := fun j => if p_in y p = 0 then st j else if st 36 = 8 then st j else upd (upd (upd st (37 + 2 * (st 36).toNatClampNeg) p) (38 + 2 * (st 36).toNatClampNeg) (if z = 0 then 0 else 1)) 36 (st 36 + 1) j
def c_X6_see : sCtr := ((yX6_see, cX6_see, 3, (some .int)), (7, 2, 2, 46), false,
  mdfp,
  fun vs L => ∃ (s : Nat → Int32) (A : Nat → Nat → Int32) (p z : Int32) (n m : Nat), vs = [.ref 0, .int p, .int z] ∧ L = mdW s A ∧ s 2 = nI n ∧ n ≤ 8 ∧ A 1 36 = nI m ∧ m ≤ 8,
  fun vs L r L' => r = some (.int (r_msee (bF L 1) (oI L 0 2) (vI vs 1))) ∧ L' = mdU L (q_msee (bF L 1) (oI L 0 2) (vI vs 1) (vI vs 2)))
theorem sta_X6_see : s_Sta c_X6_see := ⟨⟨by decide +kernel, by decide +kernel, by decide +kernel⟩, List.mem_of_getElem? (i := 1186) (by decide +kernel), List.mem_of_getElem? (i := 70) (by decide +kernel), ⟨List.mem_of_getElem? (i := 1184) (by decide +kernel), List.mem_of_getElem? (i := 1185) (by decide +kernel), Or.inl ⟨_, rfl, rfl⟩⟩⟩

def k_X6_see : List sBk := [
  (0, false, [true, true, true], [o0 0 (.aload_n 0), o0 1 (.iload_n 1), oC 2 (.invokevirtual 192) [1035] c_X6_isOne, oN 5 (.ifCond .ne 5) [1], oK 8 (.iconst (-1)) (.int (-1)), o0 9 .ireturn]),
  (10, false, [true, true, true], [o0 10 (.aload_n 0), oN 11 (.getfield 7) [6, 0, 822], oK 14 (.bipush 36) (.int 36), o0 16 .iaload, oK 17 (.bipush 8) (.int 8), oN 19 (.if_icmp .ne 6) [2], oK 22 (.bipush (-3)) (.int (-3)), o0 24 .ireturn]),
  (25, false, [true, true, true], [o0 25 (.aload_n 0), oN 26 (.getfield 7) [6, 0, 822], oK 29 (.bipush 37) (.int 37), oK 31 (.iconst 2) (.int 2), o0 32 (.aload_n 0), oN 33 (.getfield 7) [6, 0, 822], oK 36 (.bipush 36) (.int 36), o0 38 .iaload, o0 39 .imul, o0 40 .iadd, o0 41 (.iload_n 1), o0 42 .iastore, o0 43 (.aload_n 0), oN 44 (.getfield 7) [6, 0, 822], oK 47 (.bipush 37) (.int 37), oK 49 (.iconst 2) (.int 2), o0 50 (.aload_n 0), oN 51 (.getfield 7) [6, 0, 822], oK 54 (.bipush 36) (.int 36), o0 56 .iaload, o0 57 .imul, o0 58 .iadd, oK 59 (.iconst 1) (.int 1), o0 60 .iadd, o0 61 (.iload_n 2), oC 62 (.invokestatic 150) [976] c_X6_flag, o0 65 .iastore, o0 66 (.aload_n 0), oN 67 (.getfield 7) [6, 0, 822], oK 70 (.bipush 36) (.int 36), o0 72 .dup2, o0 73 .iaload, oK 74 (.iconst 1) (.int 1), o0 75 .iadd, o0 76 .iastore, o0 77 (.aload_n 0), oN 78 (.getfield 7) [6, 0, 822], oK 81 (.bipush 36) (.int 36), o0 83 .iaload, o0 84 .ireturn])]
set_option maxRecDepth 100000 in
theorem ck_X6_see : s_ck RX6 cX6_see 3 2 46 k_X6_see = true := by decide +kernel

set_option maxRecDepth 100000 in
set_option maxHeartbeats 1000000 in
theorem ok_X6_see : s_Ok c_X6_see := by
  refine s_ok_of k_X6_see (by decide +kernel) sta_X6_see ck_X6_see (And.intro ok_X6_isOne (And.intro ok_X6_flag trivial)) ?_
  rintro vs L ⟨s, A, p, z, n, m, rfl, rfl, hn, hn8, hm, hm8⟩
  refine ⟨rfl, fun G hG => ?_⟩
  have fin : ∀ (a : Int32) (L2 : sH), a = r_msee (A 1) (s 2) p → L2 = mdW s (va_up A 1 (q_msee (A 1) (s 2) p z)) → s_PP (some .int) false c_X6_see.2.2.2.2.2 [.ref 0, .int p, .int z] (mdW s A) (some (.int a)) L2 := fun a L2 ha hL => ⟨rfl, ⟨by rw [ha]; rfl, by rw [hL]; rfl⟩, fun h => by cases h⟩
  have same : q_msee (A 1) (s 2) p z = A 1 → mdW s A = mdW s (va_up A 1 (q_msee (A 1) (s 2) p z)) := fun h => by rw [h, va_up1]
  refine hG 0 _ _ _ (And.intro ⟨s, A, p, n, rfl, rfl, hn, hn8⟩ ?_)
  intro r hr
  obtain rfl : r = some (.int (p_in (s 2) p)) := hr
  refine And.intro (fun h => ?_) (fun h => ?_)
  · exact fin _ _ (by rw [r_msee, if_pos h]) (same (by funext j; rw [q_msee, if_pos h]))
  refine And.intro (vi159 36 (by omega)) (And.intro (fun h2 => ?_) (fun h2 => ?_))
  · have h2 : A 1 36 = 8 := h2
    exact fin _ _ (by rw [r_msee, if_neg h, if_pos h2]) (same (by funext j; rw [q_msee, if_neg h, if_pos h2]))
  have h2 : ¬ A 1 36 = 8 := h2
  have hm7 : m ≠ 8 := fun q => h2 (by rw [hm, q]; rfl)
  have e : (37 : Int32) + 2 * A 1 36 = nI (37 + 2 * m) := by rw [hm, show (2 : Int32) = nI 2 from rfl, nI_mul]; exact nI_add 37 _
  have ec : ((37 : Int32) + 2 * A 1 36).toNatClampNeg = 37 + 2 * (A 1 36).toNatClampNeg := by rw [e, hm, nI_clamp (by omega), nI_clamp (by omega)]
  obtain ⟨B, hB⟩ : ∃ B, B = upd (A 1) ((37 : Int32) + 2 * A 1 36).toNatClampNeg p := ⟨_, rfl⟩
  have hx : B 36 = A 1 36 := by
    rw [hB, ec, upd, if_neg]; omega
  have e2 : (37 : Int32) + 2 * B 36 + 1 = nI (38 + 2 * m) := by rw [hx, e, nI_1]; congr 1; omega
  have ec2 : ((37 : Int32) + 2 * B 36 + 1).toNatClampNeg = 38 + 2 * (A 1 36).toNatClampNeg := by rw [e2, hm, nI_clamp (by omega), nI_clamp (by omega)]
  obtain ⟨C, hC⟩ : ∃ C, C = upd B ((37 : Int32) + 2 * B 36 + 1).toNatClampNeg (if z = 0 then 0 else 1) := ⟨_, rfl⟩
  have hy : C 36 = A 1 36 := by
    rw [hC, ec2, upd, if_neg, hx]; omega
  refine And.intro (vi159 36 (by omega)) (And.intro ?_ (And.intro (vi159 36 (by omega)) (And.intro ⟨_, rfl⟩ ?_)))
  · show vp_in ((37 : Int32) + 2 * A 1 36) 159
    rw [e]; exact vi159 _ (by omega)
  intro r hr
  obtain rfl : r = some (.int (if z = 0 then 0 else 1)) := hr
  refine And.intro ?_ (And.intro (vi159 36 (by omega)) (And.intro (vi159 36 (by omega)) (And.intro (vi159 36 (by omega)) ?_)))
  · show vp_in ((37 : Int32) + 2 * upd (A 1) ((37 : Int32) + 2 * A 1 36).toNatClampNeg p 36 + 1) 159
    rw [← hB, e2]; exact vi159 _ (by omega)
  refine fin _ _ ?_ ?_
  · show upd (upd (A 1) ((37 : Int32) + 2 * A 1 36).toNatClampNeg p) ((37 : Int32) + 2 * upd (A 1) ((37 : Int32) + 2 * A 1 36).toNatClampNeg p 36 + 1).toNatClampNeg (if z = 0 then 0 else 1) 36 + 1 = _
    rw [← hB, ← hC, hy, r_msee, if_neg h, if_neg h2]
  · have q : q_msee (A 1) (s 2) p z = upd C 36 (C 36 + 1) := by
      funext j
      rw [q_msee, if_neg h, if_neg h2, hy, hC, ec2, hB, ec]
    rw [q, hC, hB]; rfl
def p_mso (st : Nat → Int32) (a : Int32) : Nat → Int32
  | 0 => 1
  | k + 1 => if p_mso st a k = 0 then 0 else if (a >>> (st (37 + 2 * k) &&& 31)) &&& 1 = st (38 + 2 * k) then 1 else 0
def p_mis (st : Nat → Int32) (n : Nat) (g : Int32) : Int32 := p_mso st (st 0 ||| p_ga (fun i => st (2 + i)) n (p_fw (fun i => st (10 + i)) n g)) (st 36).toNatClampNeg
theorem p_mso_01 (st : Nat → Int32) (a : Int32) : ∀ k, p_mso st a k = 0 ∨ p_mso st a k = 1
  | 0 => Or.inr rfl
  | k + 1 => by
    rw [p_mso]
    by_cases h : p_mso st a k = 0
    · rw [if_pos h]; exact Or.inl rfl
    · rw [if_neg h]
      by_cases h2 : (a >>> (st (37 + 2 * k) &&& 31)) &&& 1 = st (38 + 2 * k)
      · rw [if_pos h2]; exact Or.inr rfl
      · rw [if_neg h2]; exact Or.inl rfl
def c_X6_isSo : sCtr := ((yX6_isSo, cX6_isSo, 5, (some .boolean)), (7, 1, 2, 47), true,
  mdfp,
  fun vs L => ∃ (s : Nat → Int32) (A : Nat → Nat → Int32) (g : Int32) (n m : Nat), vs = [.ref 0, .int g] ∧ L = mdW s A ∧ s 3 = nI n ∧ n ≤ 8 ∧ A 1 36 = nI m ∧ m ≤ 8,
  fun vs L r _ => r = some (.int (p_mis (bF L 1) (oI L 0 3).toNatClampNeg (vI vs 1))))
theorem sta_X6_isSo : s_Sta c_X6_isSo := ⟨⟨by decide +kernel, by decide +kernel, by decide +kernel⟩, List.mem_of_getElem? (i := 1199) (by decide +kernel), List.mem_of_getElem? (i := 70) (by decide +kernel), ⟨List.mem_of_getElem? (i := 1198) (by decide +kernel), List.mem_of_getElem? (i := 61) (by decide +kernel), Or.inl ⟨_, rfl, rfl⟩⟩⟩

def k_X6_isSo : List sBk := [
  (0, false, [true, true, false, false, false], [o0 0 (.aload_n 0), oN 1 (.getfield 7) [6, 0, 822], oK 4 (.iconst 0) (.int 0), o0 5 .iaload, o0 6 (.aload_n 0), oK 7 (.iconst 2) (.int 2), o0 8 (.aload_n 0), o0 9 (.iload_n 1), oC 10 (.invokevirtual 189) [1019] c_X6_follow, oC 13 (.invokevirtual 182) [1023] c_X6_allOf, o0 16 .ior, o0 17 (.istore_n 2), oK 18 (.iconst 1) (.int 1), o0 19 (.istore_n 3), oK 20 (.iconst 0) (.int 0), o0 21 (.istore 4), oN 23 .nop [1]]),
  (23, true, [true, false, true, true, true], [o0 23 (.iload 4), o0 25 (.aload_n 0), oN 26 (.getfield 7) [6, 0, 822], oK 29 (.bipush 36) (.int 36), o0 31 .iaload, oN 32 (.if_icmp .ge 52) [4], o0 35 (.iload_n 3), oN 36 (.ifCond .eq 40) [2], o0 39 (.iload_n 2), o0 40 (.aload_n 0), oN 41 (.getfield 7) [6, 0, 822], oK 44 (.bipush 37) (.int 37), oK 46 (.iconst 2) (.int 2), o0 47 (.iload 4), o0 49 .imul, o0 50 .iadd, o0 51 .iaload, o0 52 .ishr, oK 53 (.iconst 1) (.int 1), o0 54 .iand, o0 55 (.aload_n 0), oN 56 (.getfield 7) [6, 0, 822], oK 59 (.bipush 37) (.int 37), oK 61 (.iconst 2) (.int 2), o0 62 (.iload 4), o0 64 .imul, o0 65 .iadd, oK 66 (.iconst 1) (.int 1), o0 67 .iadd, o0 68 .iaload, oN 69 (.if_icmp .ne 7) [2], oK 72 (.iconst 1) (.int 1), oN 73 (.goto 4) [3]]),
  (76, false, [true, false, true, false, true], [oK 76 (.iconst 0) (.int 0), oN 77 .nop [3]]),
  (77, false, [true, false, true, false, true], [o0 77 (.istore_n 3), oK 78 (.iinc 4 1) (.int 1), oN 81 (.goto (-58)) [1]]),
  (84, false, [false, false, false, true, false], [o0 84 (.iload_n 3), o0 85 .ireturn])]
set_option maxRecDepth 100000 in
theorem ck_X6_isSo : s_ck RX6 cX6_isSo 5 2 47 k_X6_isSo = true := by decide +kernel

set_option maxRecDepth 100000 in
set_option maxHeartbeats 1000000 in
theorem ok_X6_isSo : s_Ok c_X6_isSo := by
  refine s_ok_of k_X6_isSo (by decide +kernel) sta_X6_isSo ck_X6_isSo (And.intro ok_X6_follow (And.intro ok_X6_allOf trivial)) ?_
  rintro vs L ⟨s, A, g, n, m, rfl, rfl, hn, hn8, hm, hm8⟩
  refine ⟨rfl, fun G hG => ?_⟩
  obtain ⟨a, ha⟩ : ∃ a, a = A 1 0 ||| p_ga (fun i => A 1 (2 + i)) (s 3).toNatClampNeg (p_fw (fun i => A 1 (10 + i)) (s 3).toNatClampNeg g) := ⟨_, rfl⟩
  have fin : ∀ b : Int32, b = p_mso (A 1) a m → (b = 0 ∨ b = 1) ∧ s_PP (some .boolean) true c_X6_isSo.2.2.2.2.2 [.ref 0, .int g] (mdW s A) (some (.int b)) (mdW s A) := fun b hb => ⟨by rw [hb]; exact p_mso_01 _ _ _, rfl, by
    have q : b = p_mis (A 1) (s 3).toNatClampNeg g := by rw [p_mis, ← ha, hm, nI_clamp (by omega), hb]
    rw [q]; rfl, fun _ => rfl⟩
  have loop : ∀ (k i : Nat) (x b : Int32), i + k = m → x = nI i → b = p_mso (A 1) a i → G 1 [some (.ref 0), none, some (.int a), some (.int b), some (.int x)] [] (mdW s A) := by
    intro k
    induction k with
    | zero =>
      intro i x b hi hx hb
      refine hG 1 _ _ _ (And.intro (vi159 36 (by omega)) (And.intro (fun h2 => ?_) (fun h2 => ?_)))
      · have h2 : x < A 1 36 := h2
        rw [hx, hm, nI_ltI (by omega) (by omega)] at h2; omega
      · exact fin _ (by rw [hb, show i = m by omega])
    | succ k ih =>
      intro i x b hi hx hb
      refine hG 1 _ _ _ (And.intro (vi159 36 (by omega)) (And.intro (fun h2 => ?_) (fun h2 => ?_)))
      · have e : (37 : Int32) + 2 * x = nI (37 + 2 * i) := by rw [hx, show (2 : Int32) = nI 2 from rfl, nI_mul]; exact nI_add 37 _
        have e2 : (37 : Int32) + 2 * x + 1 = nI (38 + 2 * i) := by rw [e, nI_1]; congr 1; omega
        refine And.intro (fun h3 => ?_) (fun h3 => ?_)
        · have h3 : b = 0 := h3
          exact ih (i + 1) _ _ (by omega) (by rw [hx, nI_1]) (by rw [p_mso, ← hb, if_pos h3])
        · have h3 : ¬ b = 0 := h3
          refine And.intro ?_ (And.intro ?_ (And.intro (fun h4 => ?_) (fun h4 => ?_)))
          · show vp_in ((37 : Int32) + 2 * x) 159
            rw [e]; exact vi159 _ (by omega)
          · show vp_in ((37 : Int32) + 2 * x + 1) 159
            rw [e2]; exact vi159 _ (by omega)
          · have h4 : (a >>> (A 1 ((37 : Int32) + 2 * x).toNatClampNeg &&& 31)) &&& 1 = A 1 ((37 : Int32) + 2 * x + 1).toNatClampNeg := h4
            rw [e2, e, nI_clamp (by omega), nI_clamp (by omega)] at h4
            exact ih (i + 1) _ _ (by omega) (by rw [hx, nI_1]) (by rw [p_mso, ← hb, if_neg h3, if_pos h4])
          · have h4 : ¬ (a >>> (A 1 ((37 : Int32) + 2 * x).toNatClampNeg &&& 31)) &&& 1 = A 1 ((37 : Int32) + 2 * x + 1).toNatClampNeg := h4
            rw [e2, e, nI_clamp (by omega), nI_clamp (by omega)] at h4
            exact ih (i + 1) _ _ (by omega) (by rw [hx, nI_1]) (by rw [p_mso, ← hb, if_neg h3, if_neg h4])
      · have h2 : ¬ x < A 1 36 := h2
        rw [hx, hm, nI_ltI (by omega) (by omega)] at h2; omega
  refine hG 0 _ _ _ (And.intro (vi159 0 (by omega)) (And.intro ⟨s, A, g, n, rfl, rfl, hn, hn8⟩ ?_))
  intro r hr
  obtain rfl : r = some (.int (p_fw (fun i => A 1 (10 + i)) (s 3).toNatClampNeg g)) := hr
  refine And.intro ⟨s, A, 2, _, n, rfl, rfl, hn, hn8, by omega⟩ ?_
  intro r hr
  obtain rfl : r = some (.int (p_ga (fun i => A 1 (2 + i)) (s 3).toNatClampNeg (p_fw (fun i => A 1 (10 + i)) (s 3).toNatClampNeg g))) := hr
  have l := loop m 0 0 1 (by omega) nI_0.symm rfl
  rw [ha] at l
  exact l
def p_mfS (st : Nat → Int32) (n : Nat) (g : Int32) (q : Int32 × Int32 × Int32 × Int32) : Int32 × Int32 × Int32 × Int32 :=
  if p_mis st n g = 0 then q else (q.1 + 1, (if q.1 = 0 then g else q.2.1), q.2.2.1 &&& g, q.2.2.2 ||| g)
def p_mfs (st : Nat → Int32) (n : Nat) : Nat → Int32 × Int32 × Int32 × Int32
  | 0 => (0, -4, ((1 : Int32) <<< (nI n &&& 31)) - 1, 0)
  | k + 1 => p_mfS st n (nI k) (p_mfs st n k)
def r_mfits (st : Nat → Int32) (n : Nat) (z : Int32) : Int32 := if z < 0 ∨ 3 < z then -1 else if z = 0 then (p_mfs st n (2 ^ n)).1 else if (p_mfs st n (2 ^ n)).1 = 0 then -4 else if z = 1 then (p_mfs st n (2 ^ n)).2.1 else if z = 2 then (p_mfs st n (2 ^ n)).2.2.1 else (((1 : Int32) <<< (nI n &&& 31)) - 1) &&& ((p_mfs st n (2 ^ n)).2.2.2 ^^^ (-1))
theorem nI_sub1 {m : Nat} (h : 0 < m) : nI m - 1 = nI (m - 1) := by
  have e : nI m = nI (m - 1) + 1 := by rw [nI_1]; congr 1; omega
  rw [e]; exact Int32.add_sub_cancel _ _
def c_X6_fits : sCtr := ((yX6_fits, cX6_fits, 8, (some .int)), (7, 1, 3, 71), true,
  mdfp,
  fun vs L => ∃ (s : Nat → Int32) (A : Nat → Nat → Int32) (z : Int32) (n m : Nat), vs = [.ref 0, .int z] ∧ L = mdW s A ∧ s 3 = nI n ∧ n ≤ 8 ∧ A 1 36 = nI m ∧ m ≤ 8,
  fun vs L r _ => r = some (.int (r_mfits (bF L 1) (oI L 0 3).toNatClampNeg (vI vs 1))))
theorem sta_X6_fits : s_Sta c_X6_fits := ⟨⟨by decide +kernel, by decide +kernel, by decide +kernel⟩, List.mem_of_getElem? (i := 1194) (by decide +kernel), List.mem_of_getElem? (i := 70) (by decide +kernel), ⟨List.mem_of_getElem? (i := 1192) (by decide +kernel), List.mem_of_getElem? (i := 1193) (by decide +kernel), Or.inl ⟨_, rfl, rfl⟩⟩⟩

def k_X6_fits : List sBk := [
  (0, false, [true, true, false, false, false, false, false, false], [o0 0 (.iload_n 1), o0 1 .i2l, oK 2 (.lconst 0) (.long 0), oV 3 (.ldc2_w 250) [1195] (.long 3), oC 6 (.invokestatic 90) [921] c_X6_in, oN 9 (.ifCond .ne 5) [1], oK 12 (.iconst (-1)) (.int (-1)), o0 13 .ireturn]),
  (14, false, [true, true, false, false, false, false, false, false], [oK 14 (.iconst 1) (.int 1), o0 15 (.aload_n 0), oN 16 (.getfield 85) [6, 3, 825], o0 19 .ishl, oK 20 (.iconst 1) (.int 1), o0 21 .isub, o0 22 (.istore_n 2), oK 23 (.iconst 0) (.int 0), o0 24 (.istore_n 3), oK 25 (.bipush (-4)) (.int (-4)), o0 27 (.istore 4), o0 29 (.iload_n 2), o0 30 (.istore 5), oK 32 (.iconst 0) (.int 0), o0 33 (.istore 6), oK 35 (.iconst 0) (.int 0), o0 36 (.istore 7), oN 38 .nop [2]]),
  (38, true, [true, true, true, true, true, true, true, true], [o0 38 (.iload 7), o0 40 (.iload_n 2), oN 41 (.if_icmp .gt 48) [6], o0 44 (.aload_n 0), o0 45 (.iload 7), oC 47 (.invokevirtual 252) [1196] c_X6_isSo, oN 50 (.ifCond .eq 33) [5], o0 53 (.iload_n 3), oN 54 (.ifCond .ne 8) [3], o0 57 (.iload 7), oN 59 (.goto 5) [4]]),
  (62, false, [true, true, true, true, true, true, true, true], [o0 62 (.iload 4), oN 64 .nop [4]]),
  (64, false, [true, true, true, true, false, true, true, true], [o0 64 (.istore 4), o0 66 (.iload 5), o0 68 (.iload 7), o0 70 .iand, o0 71 (.istore 5), o0 73 (.iload 6), o0 75 (.iload 7), o0 77 .ior, o0 78 (.istore 6), oK 80 (.iinc 3 1) (.int 1), oN 83 .nop [5]]),
  (83, false, [true, true, true, true, true, true, true, true], [oK 83 (.iinc 7 1) (.int 1), oN 86 (.goto (-48)) [2]]),
  (89, false, [false, true, true, true, true, true, true, false], [o0 89 (.iload_n 1), oN 90 (.ifCond .eq 7) [7], o0 93 (.iload_n 3), oN 94 (.ifCond .ne 14) [10], oN 97 .nop [7]]),
  (97, false, [false, true, false, true, false, false, false, false], [o0 97 (.iload_n 1), oN 98 (.ifCond .ne 7) [8], o0 101 (.iload_n 3), oN 102 (.goto 5) [9]]),
  (105, false, [false, false, false, false, false, false, false, false], [oK 105 (.bipush (-4)) (.int (-4)), oN 107 .nop [9]]),
  (107, false, [false, false, false, false, false, false, false, false], [o0 107 .ireturn]),
  (108, false, [false, true, true, false, true, true, true, false], [o0 108 (.iload_n 1), oK 109 (.iconst 1) (.int 1), oN 110 (.if_icmp .ne 8) [11], o0 113 (.iload 4), oN 115 (.goto 19) [13]]),
  (118, false, [false, true, true, false, false, true, true, false], [o0 118 (.iload_n 1), oK 119 (.iconst 2) (.int 2), oN 120 (.if_icmp .ne 8) [12], o0 123 (.iload 5), oN 125 (.goto 9) [13]]),
  (128, false, [false, false, true, false, false, false, true, false], [o0 128 (.iload_n 2), o0 129 (.iload 6), oK 131 (.iconst (-1)) (.int (-1)), o0 132 .ixor, o0 133 .iand, oN 134 .nop [13]]),
  (134, false, [false, false, false, false, false, false, false, false], [o0 134 .ireturn])]
set_option maxRecDepth 100000 in
theorem ck_X6_fits : s_ck RX6 cX6_fits 8 3 71 k_X6_fits = true := by decide +kernel

set_option maxRecDepth 100000 in
set_option maxHeartbeats 1000000 in
theorem ok_X6_fits : s_Ok c_X6_fits := by
  refine s_ok_of k_X6_fits (by decide +kernel) sta_X6_fits ck_X6_fits (And.intro ok_X6_in (And.intro ok_X6_isSo trivial)) ?_
  rintro vs L ⟨s, A, z, n, m, rfl, rfl, hn, hn8, hm, hm8⟩
  refine ⟨rfl, fun G hG => ?_⟩
  have h28 := p_2le n hn8
  have h20 : 0 < 2 ^ n := Nat.two_pow_pos n
  have e3 : (s 3).toNatClampNeg = n := by rw [hn, nI_clamp (by omega)]
  have fin : ∀ a : Int32, a = r_mfits (A 1) n z → s_PP (some .int) true c_X6_fits.2.2.2.2.2 [.ref 0, .int z] (mdW s A) (some (.int a)) (mdW s A) := fun a ha => ⟨rfl, by rw [ha, ← e3]; rfl, fun _ => rfl⟩
  refine hG 0 _ _ _ (And.intro ⟨_, _, _, rfl⟩ ?_)
  intro r hr
  obtain ⟨b, hb⟩ : ∃ b, b = p_in64 z.toInt64 0 (3 : Int32).toInt64 := ⟨_, rfl⟩
  obtain rfl : r = some (.int b) := by rw [hb]; exact hr
  refine And.intro (fun h => ?_) (fun h => ?_)
  · have h : z < 0 ∨ 3 < z := (p_rng _ _).mp (hb.symm.trans h)
    exact fin _ (by rw [r_mfits, if_pos h])
  have h : ¬ (z < 0 ∨ 3 < z) := fun q => h (hb.trans ((p_rng _ _).mpr q))
  obtain ⟨al, hal⟩ : ∃ al, al = ((1 : Int32) <<< (nI n &&& 31)) - 1 := ⟨_, rfl⟩
  have hal2 : al = nI (2 ^ n - 1) := by rw [hal, p_2n n (by omega), nI_sub1 h20]
  have loop : ∀ (k i : Nat) (x a1 a2 a3 a4 : Int32), i + k = 2 ^ n → x = nI i → (a1, a2, a3, a4) = p_mfs (A 1) n i → G 2 [some (.ref 0), some (.int z), some (.int al), some (.int a1), some (.int a2), some (.int a3), some (.int a4), some (.int x)] [] (mdW s A) := by
    intro k
    induction k with
    | zero =>
      intro i x a1 a2 a3 a4 hi hx ha
      have hq : (a1, a2, a3, a4) = p_mfs (A 1) n (2 ^ n) := by rw [ha, show i = 2 ^ n by omega]
      have q1 : a1 = (p_mfs (A 1) n (2 ^ n)).1 := by rw [← hq]
      have q2 : a2 = (p_mfs (A 1) n (2 ^ n)).2.1 := by rw [← hq]
      have q3 : a3 = (p_mfs (A 1) n (2 ^ n)).2.2.1 := by rw [← hq]
      have q4 : a4 = (p_mfs (A 1) n (2 ^ n)).2.2.2 := by rw [← hq]
      have hgt : al < x := by rw [hx, hal2, nI_ltI (by omega) (by omega)]; omega
      refine hG 2 _ _ _ (And.intro (fun h3 => ?_) (fun h3 => ?_))
      · refine And.intro (fun h4 => ?_) (fun h4 => ?_)
        · have h4 : z = 0 := h4
          refine And.intro (fun _ => ?_) (fun q => absurd h4 q)
          exact fin _ (by rw [r_mfits, if_neg h, if_pos h4, q1])
        · have h4 : ¬ z = 0 := h4
          refine And.intro (fun h5 => ?_) (fun h5 => ?_)
          · have h5 : (p_mfs (A 1) n (2 ^ n)).1 = 0 := by rw [← q1]; exact h5
            refine And.intro (fun q => absurd q h4) (fun _ => ?_)
            exact fin _ (by rw [r_mfits, if_neg h, if_neg h4, if_pos h5])
          · have h5 : ¬ (p_mfs (A 1) n (2 ^ n)).1 = 0 := by rw [← q1]; exact h5
            refine And.intro (fun h6 => ?_) (fun h6 => ?_)
            · exact fin _ (by rw [r_mfits, if_neg h, if_neg h4, if_neg h5, if_pos h6, q2])
            · refine And.intro (fun h7 => ?_) (fun h7 => ?_)
              · exact fin _ (by rw [r_mfits, if_neg h, if_neg h4, if_neg h5, if_neg h6, if_pos h7, q3])
              · exact fin _ (by rw [r_mfits, if_neg h, if_neg h4, if_neg h5, if_neg h6, if_neg h7, ← hal, q4])
      · exact absurd hgt h3
    | succ k ih =>
      intro i x a1 a2 a3 a4 hi hx ha
      have hgt : ¬ al < x := by rw [hx, hal2, nI_ltI (by omega) (by omega)]; omega
      have next : ∀ b1 b2 b3 b4 : Int32, (b1, b2, b3, b4) = p_mfS (A 1) n x (a1, a2, a3, a4) → G 2 [some (.ref 0), some (.int z), some (.int al), some (.int b1), some (.int b2), some (.int b3), some (.int b4), some (.int (x + 1))] [] (mdW s A) := fun b1 b2 b3 b4 hb => ih (i + 1) _ _ _ _ _ (by omega) (by rw [hx, nI_1]) (by rw [hb, p_mfs, ← ha, ← hx])
      refine hG 2 _ _ _ (And.intro (fun h3 => ?_) (fun h3 => ?_))
      · exact absurd h3 hgt
      · refine And.intro ⟨s, A, x, n, m, rfl, rfl, hn, hn8, hm, hm8⟩ ?_
        intro r hr
        obtain ⟨so, hso⟩ : ∃ so, so = p_mis (A 1) n x := ⟨_, rfl⟩
        obtain rfl : r = some (.int so) := by rw [hso, ← e3]; exact hr
        refine And.intro (fun h4 => ?_) (fun h4 => ?_)
        · have h4 : so = 0 := h4
          exact next _ _ _ _ (by rw [p_mfS, ← hso, if_pos h4])
        · have h4 : ¬ so = 0 := h4
          refine And.intro (fun h5 => ?_) (fun h5 => ?_)
          · have h5 : a1 = 0 := h5
            exact next _ _ _ _ (by rw [p_mfS, ← hso, if_neg h4]; show _ = (a1 + 1, (if a1 = 0 then x else a2), a3 &&& x, a4 ||| x); rw [if_pos h5])
          · have h5 : ¬ a1 = 0 := h5
            exact next _ _ _ _ (by rw [p_mfS, ← hso, if_neg h4]; show _ = (a1 + 1, (if a1 = 0 then x else a2), a3 &&& x, a4 ||| x); rw [if_neg h5])
  have l := loop (2 ^ n) 0 0 0 (-4) al 0 (by omega) nI_0.symm (by rw [p_mfs, hal])
  rw [hal, ← hn] at l
  exact l

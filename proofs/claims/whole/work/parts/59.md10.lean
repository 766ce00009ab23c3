/-! ===== WishClerkModel: reading a sheet, asking by a seed ===== -/
def p_mfa (ln sz la : Int32) (a : Int64) : Int32 := if ln = -4 then 1 else if ln = la then (if a < 0 then 2 else if a < sz.toInt64 then 0 else 2) else 3
/-- answer, what is changed, the fault (none: it stays) -/
def p_mrR (y : Int32) (N : Nat) (ln sz la f h0 l0 k : Int32) (ce : Nat → Int32) : Nat → Nat → (Nat → Int32) → Int32 × (Nat → Int32) × Option Int32
  | 0, c, st => (nI c, st, some 0)
  | r + 1, c, st =>
    if p_mfa ln sz la (f.toInt64 + (nI c).toInt64) = 0 then
      (if r_mask st y N (ce ((40 : Int32) * k + f + nI c).toNatClampNeg) < 0 then (-20 - nI c, upd (upd (q_mask st y N (ce ((40 : Int32) * k + f + nI c).toNatClampNeg)) 26 h0) 0 l0, none)
       else p_mrR y N ln sz la f h0 l0 k ce r (c + 1) (q_mask st y N (ce ((40 : Int32) * k + f + nI c).toNatClampNeg)))
    else (nI c, st, some (p_mfa ln sz la (f.toInt64 + (nI c).toInt64)))
theorem q_mask_o {st : Nat → Int32} {y : Int32} {n : Nat} {w : Int32} {j : Nat} (h1 : j ≠ 26) (h2 : j ≠ 0) : q_mask st y n w j = st j := by
  have e : ∀ a b : Int32, upd (upd st 26 a) 0 b j = st j := fun a b => by rw [upd, if_neg h2, upd, if_neg h1]
  unfold q_mask
  by_cases h3 : p_in y w = 0
  · rw [if_pos h3]
  rw [if_neg h3]
  by_cases h4 : p_hb (st 26) w = 0
  · rw [if_pos h4]
    by_cases h5 : 0 < r_mrefuses st y n w
    · rw [if_pos h5]
    · rw [if_neg h5, e]
  · rw [if_neg h4]
def p_mrq (y : Int32) (st la si ce : Nat → Int32) (k l f n : Int32) : Int32 × (Nat → Int32) × Option Int32 := p_mrR y y.toNatClampNeg (la k.toNatClampNeg) (si k.toNatClampNeg) l f (st 26) (st 0) k ce n.toNatClampNeg 0 st
def p_mrn (k l n : Int32) : Int32 := if p_isS k l = 0 then 0 else if n < 0 ∨ 20 < n then 0 else 1
def r_mread (y : Int32) (st la si ce : Nat → Int32) (k l f n : Int32) : Int32 := if p_mrn k l n = 0 then -1 else (p_mrq y st la si ce k l f n).1
def q_mread (y : Int32) (st la si ce : Nat → Int32) (k l f n : Int32) : Nat → Int32 := fun j => if p_mrn k l n = 0 then st j else (p_mrq y st la si ce k l f n).2.1 j
def t_mread (y t : Int32) (st la si ce : Nat → Int32) (k l f n : Int32) : Int32 := if p_mrn k l n = 0 then t else (p_mrq y st la si ce k l f n).2.2.getD t
theorem p_64f {f : Int32} {c m : Nat} (hc : c < 100) (hm : m ≤ 40) (h1 : ¬ f.toInt64 + (nI c).toInt64 < 0) (h2 : f.toInt64 + (nI c).toInt64 < (nI m).toInt64) : ∃ j, j < m ∧ f + nI c = nI j := by
  have e : (f.toInt64 + (nI c).toInt64).toInt = f.toInt + c := by
    rw [Int64.toInt_add, Int32.toInt_toInt64, Int32.toInt_toInt64, nI_toInt (by omega)]
    have a1 := Int32.le_toInt f
    have a2 := Int32.toInt_lt f
    rw [Int.bmod_eq_of_le (by omega) (by omega)]
  rw [Int64.lt_iff_toInt_lt, e, Int32.toInt_toInt64, nI_toInt (by omega)] at h2
  rw [Int64.lt_iff_toInt_lt, e, Int64.toInt_zero] at h1
  refine ⟨(f.toInt + c).toNat, by omega, ?_⟩
  apply Int32.toInt_inj.mp
  rw [Int32.toInt_add, nI_toInt (by omega), nI_toInt (by omega), Int.bmod_eq_of_le (by omega) (by omega)]
  omega
def c_X6_read : sCtr := ((yX6_read, cX6_read, 12, (some .int)), (7, 4, 5, 119), false,
  mdfp,
  fun vs L => ∃ (s : Nat → Int32) (A : Nat → Nat → Int32) (k l f n : Int32) (ny d : Nat), vs = [.ref 0, .int k, .int l, .int f, .int n] ∧ L = mdW s A ∧ (∀ K, K < 4 → ∃ m, m ≤ 40 ∧ A 15 K = nI m) ∧ s 3 = nI ny ∧ ny ≤ 8 ∧ A 1 28 = nI d ∧ d ≤ 8,
  fun vs L r L' => r = some (.int (r_mread (oI L 0 3) (bF L 1) (bF L 14) (bF L 15) (bF L 16) (vI vs 1) (vI vs 2) (vI vs 3) (vI vs 4))) ∧ L' = mdW (upd (oI L 0) 30 (t_mread (oI L 0 3) (oI L 0 30) (bF L 1) (bF L 14) (bF L 15) (bF L 16) (vI vs 1) (vI vs 2) (vI vs 3) (vI vs 4))) (va_up (bF L) 1 (q_mread (oI L 0 3) (bF L 1) (bF L 14) (bF L 15) (bF L 16) (vI vs 1) (vI vs 2) (vI vs 3) (vI vs 4))))
theorem sta_X6_read : s_Sta c_X6_read := ⟨⟨by decide +kernel, by decide +kernel, by decide +kernel⟩, List.mem_of_getElem? (i := 1241) (by decide +kernel), List.mem_of_getElem? (i := 70) (by decide +kernel), ⟨List.mem_of_getElem? (i := 1239) (by decide +kernel), List.mem_of_getElem? (i := 1240) (by decide +kernel), Or.inl ⟨_, rfl, rfl⟩⟩⟩

def k_X6_read : List sBk := [
  (0, false, [true, true, true, true, true, false, false, false, false, false, false, false], [o0 0 (.iload_n 1), o0 1 (.iload_n 2), oC 2 (.invokestatic 269) [1230] c_X6_isSheet, oN 5 (.ifCond .eq 16) [1], o0 8 (.iload 4), o0 10 .i2l, oK 11 (.lconst 0) (.long 0), oV 12 (.ldc2_w 272) [1242] (.long 20), oC 15 (.invokestatic 90) [921] c_X6_in, oN 18 (.ifCond .ne 5) [2], oN 21 .nop [1]]),
  (21, false, [false, false, false, false, false, false, false, false, false, false, false, false], [oK 21 (.iconst (-1)) (.int (-1)), o0 22 .ireturn]),
  (23, false, [true, true, true, true, true, false, false, false, false, false, false, false], [o0 23 (.aload_n 0), oN 24 (.getfield 7) [6, 0, 822], oK 27 (.bipush 26) (.int 26), o0 29 .iaload, o0 30 (.istore 5), o0 32 (.aload_n 0), oN 33 (.getfield 7) [6, 0, 822], oK 36 (.iconst 0) (.int 0), o0 37 .iaload, o0 38 (.istore 6), oK 40 (.iconst 0) (.int 0), o0 41 (.istore 7), oK 43 (.iconst 0) (.int 0), o0 44 (.istore 8), oK 46 (.iconst 0) (.int 0), o0 47 (.istore 9), oN 49 .nop [3]]),
  (49, true, [true, true, true, true, true, true, true, true, true, true, false, false], [o0 49 (.iload 9), o0 51 (.iload 4), oN 53 (.if_icmp .ge 130) [11], o0 56 (.iload 7), oN 58 (.ifCond .ne 125) [11], o0 61 (.iload_n 3), o0 62 .i2l, o0 63 (.iload 9), o0 65 .i2l, o0 66 .ladd, o0 67 (.lstore 10), o0 69 (.aload_n 0), oN 70 (.getfield 50) [6, 27, 849], o0 73 (.iload_n 1), o0 74 .iaload, oK 75 (.bipush (-4)) (.int (-4)), oN 77 (.if_icmp .ne 7) [4], oK 80 (.iconst 1) (.int 1), oN 81 (.goto 42) [8]]),
  (84, false, [true, true, true, true, true, true, true, false, true, true, true, false], [o0 84 (.aload_n 0), oN 85 (.getfield 50) [6, 27, 849], o0 88 (.iload_n 1), o0 89 .iaload, o0 90 (.iload_n 2), oN 91 (.if_icmp .eq 7) [5], oK 94 (.iconst 3) (.int 3), oN 95 (.goto 28) [8]]),
  (98, false, [true, true, true, true, true, true, true, false, true, true, true, false], [o0 98 (.lload 10), oK 100 (.lconst 0) (.long 0), o0 101 .lcmp, oN 102 (.ifCond .lt 16) [6], o0 105 (.lload 10), o0 107 (.aload_n 0), oN 108 (.getfield 53) [6, 28, 850], o0 111 (.iload_n 1), o0 112 .iaload, o0 113 .i2l, o0 114 .lcmp, oN 115 (.ifCond .lt 7) [7], oN 118 .nop [6]]),
  (118, false, [true, true, true, true, true, true, true, false, true, true, false, false], [oK 118 (.iconst 2) (.int 2), oN 119 (.goto 4) [8]]),
  (122, false, [true, true, true, true, true, true, true, false, true, true, false, false], [oK 122 (.iconst 0) (.int 0), oN 123 .nop [8]]),
  (123, false, [true, true, true, true, true, true, true, false, true, true, false, false], [o0 123 (.istore 7), o0 125 (.iload 7), oN 127 (.ifCond .ne 50) [10], o0 130 (.aload_n 0), o0 131 (.aload_n 0), oN 132 (.getfield 56) [6, 29, 851], oK 135 (.bipush 40) (.int 40), o0 137 (.iload_n 1), o0 138 .imul, o0 139 (.iload_n 3), o0 140 .iadd, o0 141 (.iload 9), o0 143 .iadd, o0 144 .iaload, oC 145 (.invokevirtual 274) [1243] c_X6_ask, oN 148 (.ifCond .ge 26) [9], o0 151 (.aload_n 0), oN 152 (.getfield 7) [6, 0, 822], oK 155 (.bipush 26) (.int 26), o0 157 (.iload 5), o0 159 .iastore, o0 160 (.aload_n 0), oN 161 (.getfield 7) [6, 0, 822], oK 164 (.iconst 0) (.int 0), o0 165 (.iload 6), o0 167 .iastore, oK 168 (.bipush (-20)) (.int (-20)), o0 170 (.iload 9), o0 172 .isub, o0 173 .ireturn]),
  (174, false, [true, true, true, true, true, true, true, true, true, true, false, false], [oK 174 (.iinc 8 1) (.int 1), oN 177 .nop [10]]),
  (177, false, [true, true, true, true, true, true, true, true, true, true, false, false], [oK 177 (.iinc 9 1) (.int 1), oN 180 (.goto (-131)) [3]]),
  (183, false, [true, false, false, false, false, false, false, true, true, false, false, false], [o0 183 (.aload_n 0), o0 184 (.iload 7), oN 186 (.putfield 277) [6, 30, 852], o0 189 (.iload 8), o0 191 .ireturn])]
set_option maxRecDepth 100000 in
theorem ck_X6_read : s_ck RX6 cX6_read 12 5 119 k_X6_read = true := by decide +kernel

set_option maxRecDepth 100000 in
set_option maxHeartbeats 1000000 in
theorem ok_X6_read : s_Ok c_X6_read := by
  refine s_ok_of k_X6_read (by decide +kernel) sta_X6_read ck_X6_read (And.intro ok_X6_isSheet (And.intro ok_X6_in (And.intro ok_X6_ask trivial))) ?_
  rintro vs L ⟨s, A, k, l, f, n, ny, d, rfl, rfl, hs, hn, hn8, hd, hd8⟩
  refine ⟨rfl, fun G hG => ?_⟩
  have fin : ∀ (a : Int32) (L2 : sH), a = r_mread (s 3) (A 1) (A 14) (A 15) (A 16) k l f n → L2 = mdW (upd s 30 (t_mread (s 3) (s 30) (A 1) (A 14) (A 15) (A 16) k l f n)) (va_up A 1 (q_mread (s 3) (A 1) (A 14) (A 15) (A 16) k l f n)) → s_PP (some .int) false c_X6_read.2.2.2.2.2 [.ref 0, .int k, .int l, .int f, .int n] (mdW s A) (some (.int a)) L2 := fun a L2 ha hL => ⟨rfl, ⟨by rw [ha]; rfl, by rw [hL]; rfl⟩, fun h => by cases h⟩
  have no : p_mrn k l n = 0 → s_PP (some .int) false c_X6_read.2.2.2.2.2 [.ref 0, .int k, .int l, .int f, .int n] (mdW s A) (some (.int (-1))) (mdW s A) := fun h => fin _ _ (by rw [r_mread, if_pos h]) (by rw [show q_mread (s 3) (A 1) (A 14) (A 15) (A 16) k l f n = A 1 by funext j; rw [q_mread, if_pos h], t_mread, if_pos h, va_up1, upd_I])
  refine hG 0 _ _ _ (And.intro ⟨_, _, rfl⟩ ?_)
  intro r hr
  obtain rfl : r = some (.int (p_isS k l)) := hr
  refine And.intro (fun h => ?_) (fun h => ?_)
  · exact no (by rw [p_mrn, if_pos h])
  refine And.intro ⟨_, _, _, rfl⟩ ?_
  intro r hr
  obtain ⟨b, hb⟩ : ∃ b, b = p_in64 n.toInt64 0 (20 : Int32).toInt64 := ⟨_, rfl⟩
  obtain rfl : r = some (.int b) := by rw [hb]; exact hr
  refine And.intro (fun h2 => ?_) (fun h2 => ?_)
  · have h2 : n < 0 ∨ 20 < n := (p_rng _ _).mp (hb.symm.trans h2)
    exact no (by rw [p_mrn, if_neg h, if_pos h2])
  have h2 : ¬ (n < 0 ∨ 20 < n) := fun q => h2 (hb.trans ((p_rng _ _).mpr q))
  have hmn : ¬ p_mrn k l n = 0 := by rw [p_mrn, if_neg h, if_neg h2]; decide
  obtain ⟨K, hK, hk⟩ := p_isS_ne h
  have hin : vp_in k 4 := by rw [hk]; exact vp_in_nI (by omega) (by omega)
  have hkc : k.toNatClampNeg = K := by rw [hk, nI_clamp (by omega)]
  obtain ⟨M, hM2, hM⟩ := nI_of (fun q => h2 (Or.inl q))
  have hM20 : M ≤ 20 := by
    have : ¬ 20 < M := fun q => h2 (Or.inr (by rw [hM]; exact (nI_ltI (a := 20) (by omega) hM2).mpr q))
    omega
  have hnc : n.toNatClampNeg = M := by rw [hM, nI_clamp hM2]
  obtain ⟨m, hm40, hm⟩ := hs K hK
  obtain ⟨y, hy⟩ : ∃ y, y = s 3 := ⟨_, rfl⟩
  obtain ⟨N, hN⟩ : ∃ N, N = (s 3).toNatClampNeg := ⟨_, rfl⟩
  have hP : p_mrq (s 3) (A 1) (A 14) (A 15) (A 16) k l f n = p_mrR y N (A 14 K) (A 15 K) l f (A 1 26) (A 1 0) k (A 16) M 0 (A 1) := by rw [p_mrq, hkc, hnc, ← hy, hN, hy]
  have fin2 : ∀ (a : Int32) (g : Nat → Int32) (o : Option Int32) (t : Int32), p_mrR y N (A 14 K) (A 15 K) l f (A 1 26) (A 1 0) k (A 16) M 0 (A 1) = (a, g, o) → t = o.getD (s 30) → s_PP (some .int) false c_X6_read.2.2.2.2.2 [.ref 0, .int k, .int l, .int f, .int n] (mdW s A) (some (.int a)) (mdW (upd s 30 t) (va_up A 1 g)) := fun a g o t hq ht => fin _ _ (by rw [r_mread, if_neg hmn, hP, hq]) (by rw [t_mread, if_neg hmn, hP, hq, ht, show q_mread (s 3) (A 1) (A 14) (A 15) (A 16) k l f n = g by funext j; rw [q_mread, if_neg hmn, hP, hq]])
  have out : ∀ (ft cn x : Int32) (g : Nat → Int32), ¬ ft = 0 → p_mrR y N (A 14 K) (A 15 K) l f (A 1 26) (A 1 0) k (A 16) M 0 (A 1) = (cn, g, some ft) → G 3 [some (.ref 0), some (.int k), some (.int l), some (.int f), some (.int n), some (.int (A 1 26)), some (.int (A 1 0)), some (.int ft), some (.int cn), some (.int x), none, none] [] (mdW s (va_up A 1 g)) := by
    intro ft cn x g hft hq
    refine hG 3 _ _ _ (And.intro (fun _ => ?_) (fun _ => ?_))
    · refine And.intro (fun z => absurd z hft) (fun _ => ?_)
      exact fin2 _ _ _ _ hq rfl
    · exact fin2 _ _ _ _ hq rfl
  have loop : ∀ (r c : Nat) (x : Int32) (g : Nat → Int32), c + r = M → x = nI c → g 28 = nI d → p_mrR y N (A 14 K) (A 15 K) l f (A 1 26) (A 1 0) k (A 16) r c g = p_mrR y N (A 14 K) (A 15 K) l f (A 1 26) (A 1 0) k (A 16) M 0 (A 1) → G 3 [some (.ref 0), some (.int k), some (.int l), some (.int f), some (.int n), some (.int (A 1 26)), some (.int (A 1 0)), some (.int 0), some (.int x), some (.int x), none, none] [] (mdW s (va_up A 1 g)) := by
    intro r
    induction r with
    | zero =>
      intro c x g hc hx hg hq
      refine hG 3 _ _ _ (And.intro (fun q => ?_) (fun q => ?_))
      · have q : x < n := q
        rw [hx, hM, nI_ltI (by omega) (by omega)] at q; omega
      · exact fin2 _ _ (some 0) _ (by rw [← hq, hx]; rfl) rfl
    | succ r ih =>
      intro c x g hc hx hg hq
      have bad : ∀ ft : Int32, ft = p_mfa (A 14 K) (A 15 K) l (f.toInt64 + x.toInt64) → ¬ ft = 0 → G 3 [some (.ref 0), some (.int k), some (.int l), some (.int f), some (.int n), some (.int (A 1 26)), some (.int (A 1 0)), some (.int ft), some (.int x), some (.int (x + 1)), none, none] [] (mdW s (va_up A 1 g)) := fun ft hf h0 => out _ _ _ _ h0 (by rw [← hq, p_mrR, ← hx, ← hf, if_neg h0])
      refine hG 3 _ _ _ (And.intro (fun q => ?_) (fun q => ?_))
      · refine And.intro (fun _ => ?_) (fun z => absurd rfl z)
        refine And.intro hin (And.intro (fun h3 => ?_) (fun h3 => ?_))
        · have h3 : A 14 K = -4 := by rw [← hkc]; exact h3
          refine And.intro (fun z => absurd z (by decide)) (fun _ => ?_)
          exact bad 1 (by rw [p_mfa, if_pos h3]) (by decide)
        have h3 : ¬ A 14 K = -4 := by rw [← hkc]; exact h3
        refine And.intro hin (And.intro (fun h4 => ?_) (fun h4 => ?_))
        · have h4 : A 14 K = l := by rw [← hkc]; exact h4
          refine And.intro (fun h5 => ?_) (fun h5 => ?_)
          · have h5 : f.toInt64 + x.toInt64 < 0 := (lg_cmp_lt _ _).mp h5
            refine And.intro (fun z => absurd z (by decide)) (fun _ => ?_)
            exact bad 2 (by rw [p_mfa, if_neg h3, if_pos h4, if_pos h5]) (by decide)
          have h5 : ¬ f.toInt64 + x.toInt64 < 0 := fun q => h5 ((lg_cmp_lt _ _).mpr q)
          refine And.intro hin (And.intro (fun h6 => ?_) (fun h6 => ?_))
          · have h6 : f.toInt64 + x.toInt64 < (A 15 K).toInt64 := by rw [← hkc]; exact (lg_cmp_lt _ _).mp h6
            have hz : p_mfa (A 14 K) (A 15 K) l (f.toInt64 + x.toInt64) = 0 := by rw [p_mfa, if_neg h3, if_pos h4, if_neg h5, if_pos h6]
            obtain ⟨j, hj, hfj⟩ := p_64f (f := f) (c := c) (m := m) (by omega) hm40 (by rw [← hx]; exact h5) (by rw [← hx, ← hm]; exact h6)
            have e : (40 : Int32) * k + f + x = nI (40 * K + j) := by
              rw [Int32.add_assoc, hx, hfj, hk, show (40 : Int32) = nI 40 from rfl, nI_mul, nI_add]
            obtain ⟨w, hw⟩ : ∃ w, w = A 16 ((40 : Int32) * k + f + x).toNatClampNeg := ⟨_, rfl⟩
            refine And.intro (fun _ => ?_) (fun z => absurd rfl z)
            refine And.intro ?_ (And.intro ⟨s, va_up A 1 g, _, ny, d, rfl, rfl, hn, hn8, hg, hd8⟩ ?_)
            · show vp_in ((40 : Int32) * k + f + x) 160
              rw [e]; exact vp_in_nI (by omega) (by omega)
            rintro r0 L' ⟨hr, hL⟩
            obtain ⟨a, ha⟩ : ∃ a, a = r_mask g y N w := ⟨_, rfl⟩
            obtain ⟨g2, hg2⟩ : ∃ g2, g2 = q_mask g y N w := ⟨_, rfl⟩
            obtain rfl : r0 = some (.int a) := by rw [ha, hw, hN, hy]; exact hr
            obtain rfl : L' = mdW s (va_up A 1 g2) := by rw [hg2, hw, hN, hy]; exact hL
            refine And.intro (fun h7 => ?_) (fun h7 => ?_)
            · have h7 : a < 0 := h7
              refine And.intro (vi159 26 (by omega)) (And.intro (vi159 0 (by omega)) ?_)
              have t := fin2 (-20 - x) (upd (upd g2 26 (A 1 26)) 0 (A 1 0)) none (s 30) (by rw [← hq, p_mrR, ← hx, if_pos hz, ← hw, ← ha, if_pos h7, hg2]) rfl
              rw [upd_I] at t
              exact t
            · have h7 : ¬ a < 0 := h7
              exact ih (c + 1) _ g2 (by omega) (by rw [hx, nI_1]) (by rw [hg2, q_mask_o (by decide) (by decide), hg]) (by rw [← hq, p_mrR, ← hx, if_pos hz, ← hw, ← ha, if_neg h7, hg2])
          · have h6 : ¬ f.toInt64 + x.toInt64 < (A 15 K).toInt64 := fun q => h6 (by rw [← hkc] at q; exact (lg_cmp_lt _ _).mpr q)
            refine And.intro (fun z => absurd z (by decide)) (fun _ => ?_)
            exact bad 2 (by rw [p_mfa, if_neg h3, if_pos h4, if_neg h5, if_neg h6]) (by decide)
        · have h4 : ¬ A 14 K = l := by rw [← hkc]; exact h4
          refine And.intro (fun z => absurd z (by decide)) (fun _ => ?_)
          exact bad 3 (by rw [p_mfa, if_neg h3, if_neg h4]) (by decide)
      · have q : ¬ x < n := q
        rw [hx, hM, nI_ltI (by omega) (by omega)] at q; omega
  have l0 := loop M 0 0 (A 1) (by omega) nI_0.symm hd rfl
  rw [va_up1] at l0
  exact And.intro (vi159 26 (by omega)) (And.intro (vi159 0 (by omega)) l0)

/-! ===== WishClerkModel: row ===== -/
def p_len (by_ : Nat → Int32) (bf : Nat → Nat) : Nat → Nat → Nat
  | 0, _ => 0
  | f + 1, x => if by_ x = 8 then 0 else p_len by_ bf f (bf x) + 1
/-- the wish at a place of the row, counted from its end -/
def p_fnd (by_ : Nat → Int32) (bf : Nat → Nat) (z : Int32) : Nat → Nat → Int32 → Int32 → Int32
  | 0, _, _, a => a
  | f + 1, x, k, a => if by_ x = 8 then a else p_fnd by_ bf z f (bf x) (k - 1) (if k - 1 = z then by_ x else a)
def p_rowA (R : Int32 × bQ) (z : Int32) : Int32 := if R.1 = -4 then -4 else if z = 0 then nI (p_len R.2.1 R.2.2.1 257 R.1.toNatClampNeg) else p_fnd R.2.1 R.2.2.1 (z - 10) 257 R.1.toNatClampNeg (nI (p_len R.2.1 R.2.2.1 257 R.1.toNatClampNeg)) (-4)
def r_mrow (s : Nat → Int32) (A : Nat → Nat → Int32) (p z : Int32) : Int32 := if p_in (s 2) p = 0 then -1 else if z = 0 then p_rowA (mdBQ s A p) z else if p_rg 10 17 z = 0 then -1 else p_rowA (mdBQ s A p) z
theorem p_len_le (by_ : Nat → Int32) (bf : Nat → Nat) : ∀ f x, p_len by_ bf f x ≤ f
  | 0, _ => Nat.le_refl _
  | f + 1, x => by
    rw [p_len]
    split
    · omega
    · have := p_len_le by_ bf f (bf x)
      omega
theorem mdBQ_W (s : Nat → Int32) (A : Nat → Nat → Int32) (p : Int32) : mdBQ (oI (mdW s A) 0) (bF (mdW s A)) p = mdBQ s A p := rfl
theorem r_mrow_W (s : Nat → Int32) (A : Nat → Nat → Int32) (p z : Int32) : r_mrow (oI (mdW s A) 0) (bF (mdW s A)) p z = r_mrow s A p z := by
  unfold r_mrow
  rw [mdBQ_W, show oI (mdW s A) 0 2 = s 2 from rfl]
def c_X6_row : sCtr := ((yX6_row, cX6_row, 8, (some .int)), (7, 2, 5, 126), false,
  mdfp,
  fun vs L => ∃ (s : Nat → Int32) (A : Nat → Nat → Int32) (p z : Int32) (m n d : Nat), vs = [.ref 0, .int p, .int z] ∧ L = mdW s A ∧ s 2 = nI m ∧ m ≤ 8 ∧ s 3 = nI n ∧ n ≤ 8 ∧ A 1 28 = nI d ∧ d ≤ 8 ∧ (∀ i, i < n → lt8 (A 1 (10 + i))) ∧ lt8 (A 1 26),
  fun vs L r L' => r = some (.int (r_mrow (oI L 0) (bF L) (vI vs 1) (vI vs 2))) ∧ ∃ g, L' = mdW (oI L 0) (md4 (bF L) g))
theorem sta_X6_row : s_Sta c_X6_row := ⟨⟨by decide +kernel, by decide +kernel, by decide +kernel⟩, List.mem_of_getElem? (i := 1127) (by decide +kernel), List.mem_of_getElem? (i := 70) (by decide +kernel), ⟨List.mem_of_getElem? (i := 1125) (by decide +kernel), List.mem_of_getElem? (i := 1126) (by decide +kernel), Or.inl ⟨_, rfl, rfl⟩⟩⟩

def k_X6_row : List sBk := [
  (0, false, [true, true, true, false, false, false, false, false], [o0 0 (.aload_n 0), o0 1 (.iload_n 1), oC 2 (.invokevirtual 192) [1035] c_X6_isOne, oN 5 (.ifCond .eq 21) [1], o0 8 (.iload_n 2), oN 9 (.ifCond .eq 19) [2], o0 12 (.iload_n 2), o0 13 .i2l, oV 14 (.ldc2_w 232) [1128] (.long 10), oV 17 (.ldc2_w 234) [1129] (.long 17), oC 20 (.invokestatic 90) [921] c_X6_in, oN 23 (.ifCond .ne 5) [2], oN 26 .nop [1]]),
  (26, false, [false, false, false, false, false, false, false, false], [oK 26 (.iconst (-1)) (.int (-1)), o0 27 .ireturn]),
  (28, false, [true, true, true, false, false, false, false, false], [o0 28 (.aload_n 0), o0 29 (.iload_n 1), oC 30 (.invokevirtual 236) [1130] c_X6_findRow, o0 33 (.istore_n 3), o0 34 (.iload_n 3), oK 35 (.bipush (-4)) (.int (-4)), oN 37 (.if_icmp .ne 6) [3], oK 40 (.bipush (-4)) (.int (-4)), o0 42 .ireturn]),
  (43, false, [true, false, true, true, false, false, false, false], [oK 43 (.iconst 0) (.int 0), o0 44 (.istore 4), o0 46 (.iload_n 3), o0 47 (.istore 5), oN 49 .nop [4]]),
  (49, true, [true, false, true, true, true, true, false, false], [o0 49 (.aload_n 0), oN 50 (.getfield 41) [6, 24, 846], o0 53 (.iload 5), o0 55 .iaload, oK 56 (.bipush 8) (.int 8), oN 58 (.if_icmp .eq 18) [5], oK 61 (.iinc 4 1) (.int 1), o0 64 (.aload_n 0), oN 65 (.getfield 38) [6, 23, 845], o0 68 (.iload 5), o0 70 .iaload, o0 71 (.istore 5), oN 73 (.goto (-24)) [4]]),
  (76, false, [true, false, true, true, true, false, false, false], [o0 76 (.iload_n 2), oN 77 (.ifCond .ne 6) [6], o0 80 (.iload 4), o0 82 .ireturn]),
  (83, false, [true, false, true, true, true, false, false, false], [oK 83 (.bipush (-4)) (.int (-4)), o0 85 (.istore 5), o0 87 (.iload 4), o0 89 (.istore 6), o0 91 (.iload_n 3), o0 92 (.istore 7), oN 94 .nop [7]]),
  (94, true, [true, false, true, false, false, true, true, true], [o0 94 (.aload_n 0), oN 95 (.getfield 41) [6, 24, 846], o0 98 (.iload 7), o0 100 .iaload, oK 101 (.bipush 8) (.int 8), oN 103 (.if_icmp .eq 41) [10], oK 106 (.iinc 6 (-1)) (.int (-1)), o0 109 (.iload 6), o0 111 (.iload_n 2), oK 112 (.bipush 10) (.int 10), o0 114 .isub, oN 115 (.if_icmp .ne 13) [8], o0 118 (.aload_n 0), oN 119 (.getfield 41) [6, 24, 846], o0 122 (.iload 7), o0 124 .iaload, oN 125 (.goto 5) [9]]),
  (128, false, [true, false, true, false, false, true, true, true], [o0 128 (.iload 5), oN 130 .nop [9]]),
  (130, false, [true, false, true, false, false, false, true, true], [o0 130 (.istore 5), o0 132 (.aload_n 0), oN 133 (.getfield 38) [6, 23, 845], o0 136 (.iload 7), o0 138 .iaload, o0 139 (.istore 7), oN 141 (.goto (-47)) [7]]),
  (144, false, [false, false, false, false, false, true, false, false], [o0 144 (.iload 5), o0 146 .ireturn])]
set_option maxRecDepth 100000 in
theorem ck_X6_row : s_ck RX6 cX6_row 8 5 126 k_X6_row = true := by decide +kernel

set_option maxRecDepth 100000 in
set_option maxHeartbeats 4000000 in
theorem ok_X6_row : s_Ok c_X6_row := by
  refine s_ok_of k_X6_row (by decide +kernel) sta_X6_row ck_X6_row (And.intro ok_X6_isOne (And.intro ok_X6_in (And.intro ok_X6_findRow trivial))) ?_
  rintro vs L ⟨s, A, p, z, m, n, d, rfl, rfl, hm, hm8, hn, hn8, he, hd, hnd, hh0⟩
  refine ⟨rfl, fun G hG => ?_⟩
  have fin : ∀ (a : Int32) (g : Nat → Nat → Int32), a = r_mrow s A p z → s_PP (some .int) false c_X6_row.2.2.2.2.2 [.ref 0, .int p, .int z] (mdW s A) (some (.int a)) (mdW s (md4 A g)) := fun a g ha => ⟨rfl, ⟨by
    show some (Value.int a) = some (Value.int (r_mrow (oI (mdW s A) 0) (bF (mdW s A)) p z))
    rw [r_mrow_W, ha], g, rfl⟩, fun h => by cases h⟩
  have fin0 : ∀ (a : Int32), a = r_mrow s A p z → s_PP (some .int) false c_X6_row.2.2.2.2.2 [.ref 0, .int p, .int z] (mdW s A) (some (.int a)) (mdW s A) := fun a ha => by
    have k := fin a A ha
    rw [md4_I] at k
    exact k
  obtain ⟨R, hR⟩ : ∃ R, R = mdBQ s A p := ⟨_, rfl⟩
  have main : r_mrow s A p z = p_rowA R z → s_go none k_X6_row G (s_PP (some .int) false c_X6_row.2.2.2.2.2 [.ref 0, .int p, .int z] (mdW s A)) false 99 2 [some (.ref 0), some (.int p), some (.int z), none, none, none, none, none] [] (mdW s A) := by
    intro hmain
    refine And.intro ⟨s, A, _, n, d, rfl, rfl, hn, hn8, he, hd, hnd, hh0⟩ ?_
    rintro r L' ⟨hr, g, hL, hq, hw, hend⟩
    replace hq : bRq g (mdBQ (oI (mdW s A) 0) (bF (mdW s A)) p).2 := hq
    replace hw : bWF (mdBQ (oI (mdW s A) 0) (bF (mdW s A)) p).2 := hw
    replace hend : (mdBQ (oI (mdW s A) 0) (bF (mdW s A)) p).1 = -4 ∨ ∃ h : Nat, h < 256 ∧ (mdBQ (oI (mdW s A) 0) (bF (mdW s A)) p).1 = nI h ∧ ¬ (mdBQ (oI (mdW s A) 0) (bF (mdW s A)) p).2.1 h = -4 := hend
    replace hr : r = some (.int (mdBQ (oI (mdW s A) 0) (bF (mdW s A)) p).1) := hr
    rw [mdBQ_W, ← hR] at hq hw hend hr
    obtain ⟨v, hv⟩ : ∃ v, v = R.1 := ⟨_, rfl⟩
    obtain rfl : r = some (.int v) := by rw [hv]; exact hr
    obtain rfl : L' = mdW s (md4 A g) := hL
    refine And.intro (fun c => ?_) (fun c => ?_)
    · have c : v = -4 := c
      rw [hv] at c
      exact fin (-4) g (by rw [hmain, p_rowA, if_pos c])
    have c : ¬ v = -4 := c
    rw [hv] at c
    rcases hend with q | ⟨h, hh, hhe, hvis⟩
    · exact absurd q c
    have hvc : R.1.toNatClampNeg = h := by rw [hhe, nI_clamp (by omega)]
    have hve : v = nI h := by rw [hv, hhe]
    obtain ⟨N, hN⟩ : ∃ N, N = p_len R.2.1 R.2.2.1 257 h := ⟨_, rfl⟩
    have hN2 : N ≤ 257 := by rw [hN]; exact p_len_le _ _ _ _
    have hmain2 : r_mrow s A p z = if z = 0 then nI N else p_fnd R.2.1 R.2.2.1 (z - 10) 257 h (nI N) (-4) := by
      rw [hmain, p_rowA, if_neg c, hvc, ← hN]
    have l7 : ∀ (f x : Nat) (u k a : Int32), x < f → x < 256 → u = nI x → ¬ R.2.1 x = -4 → ¬ z = 0 → r_mrow s A p z = p_fnd R.2.1 R.2.2.1 (z - 10) f x k a → G 7 [some (.ref 0), none, some (.int z), none, none, some (.int a), some (.int k), some (.int u)] [] (mdW s (md4 A g)) := by
      intro f
      induction f with
      | zero => intro x u k a hx; omega
      | succ f ih =>
        intro x u k a hx hx2 hu hvx hz hr2
        have hin : vp_in u 256 := by rw [hu]; exact vp_in_nI hx2 (by omega)
        have huc : u.toNatClampNeg = x := by rw [hu, nI_clamp (by omega)]
        have hg : g 11 u.toNatClampNeg = R.2.1 x := by rw [huc]; exact hq.1 x hx2
        refine hG 7 _ _ _ (And.intro hin (And.intro (fun c => ?_) (fun c => ?_)))
        · have c : g 11 u.toNatClampNeg = 8 := c
          rw [hg] at c
          rw [p_fnd, if_pos c] at hr2
          exact fin a g hr2.symm
        have c : ¬ g 11 u.toNatClampNeg = 8 := c
        rw [hg] at c
        rw [p_fnd, if_neg c] at hr2
        have hch := (hw.2.2.2 x hx2 hvx).resolve_left c
        have hbf : g 10 u.toNatClampNeg = nI (R.2.2.1 x) := by rw [huc]; exact hq.2.1 x hx2 hvx c
        refine And.intro (fun c2 => ?_) (fun c2 => ?_)
        · have c2 : k - 1 = z - 10 := by rw [Int32.sub_eq_add_neg]; exact c2
          rw [if_pos c2] at hr2
          refine And.intro hin (And.intro hin ?_)
          exact ih (R.2.2.1 x) (g 10 u.toNatClampNeg) (k + -1) (g 11 u.toNatClampNeg) (by omega) (by omega) hbf hch.2 hz (by rw [hr2, hg, Int32.sub_eq_add_neg (a := k)])
        · have c2 : ¬ k - 1 = z - 10 := by rw [Int32.sub_eq_add_neg]; exact c2
          rw [if_neg c2] at hr2
          refine And.intro hin ?_
          exact ih (R.2.2.1 x) (g 10 u.toNatClampNeg) (k + -1) a (by omega) (by omega) hbf hch.2 hz (by rw [hr2, Int32.sub_eq_add_neg (a := k)])
    have l4 : ∀ (f x a : Nat) (u y : Int32), x < f → x < 256 → u = nI x → y = nI a → ¬ R.2.1 x = -4 → N = a + p_len R.2.1 R.2.2.1 f x → G 4 [some (.ref 0), none, some (.int z), some (.int v), some (.int y), some (.int u), none, none] [] (mdW s (md4 A g)) := by
      intro f
      induction f with
      | zero => intro x a u y hx; omega
      | succ f ih =>
        intro x a u y hx hx2 hu hy hvx hNN
        have hin : vp_in u 256 := by rw [hu]; exact vp_in_nI hx2 (by omega)
        have huc : u.toNatClampNeg = x := by rw [hu, nI_clamp (by omega)]
        have hg : g 11 u.toNatClampNeg = R.2.1 x := by rw [huc]; exact hq.1 x hx2
        refine hG 4 _ _ _ (And.intro hin (And.intro (fun c => ?_) (fun c => ?_)))
        · have c : g 11 u.toNatClampNeg = 8 := c
          rw [hg] at c
          rw [p_len, if_pos c] at hNN
          refine And.intro (fun hz => ?_) (fun hz => ?_)
          · exact fin y g (by rw [hmain2, if_pos hz, hNN, hy, Nat.add_zero])
          · have hz : ¬ z = 0 := hz
            refine l7 257 h v y (-4) (by omega) hh hve hvis hz ?_
            rw [hmain2, if_neg hz, hNN, hy, Nat.add_zero]
        have c : ¬ g 11 u.toNatClampNeg = 8 := c
        rw [hg] at c
        rw [p_len, if_neg c] at hNN
        have hch := (hw.2.2.2 x hx2 hvx).resolve_left c
        have hbf : g 10 u.toNatClampNeg = nI (R.2.2.1 x) := by rw [huc]; exact hq.2.1 x hx2 hvx c
        refine And.intro hin ?_
        exact ih (R.2.2.1 x) (a + 1) (g 10 u.toNatClampNeg) _ (by omega) (by omega) hbf (by rw [hy, nI_1]) hch.2 (by omega)
    exact l4 257 h 0 v 0 (by omega) hh hve nI_0.symm hvis (by rw [hN, Nat.zero_add])
  refine hG 0 _ _ _ (And.intro ⟨s, A, _, m, rfl, rfl, hm, hm8⟩ ?_)
  intro r hr
  obtain ⟨b, hb⟩ : ∃ b, b = p_in (s 2) p := ⟨_, rfl⟩
  obtain rfl : r = some (.int b) := by rw [hb]; exact hr
  refine And.intro (fun h => ?_) (fun h => ?_)
  · have h : b = 0 := h
    exact fin0 (-1) (by rw [r_mrow, ← hb, if_pos h])
  have h : ¬ b = 0 := h
  refine And.intro (fun h2 => ?_) (fun h2 => ?_)
  · have h2 : z = 0 := h2
    exact main (by rw [r_mrow, ← hb, if_neg h, if_pos h2, hR])
  have h2 : ¬ z = 0 := h2
  refine And.intro ⟨_, _, _, rfl⟩ ?_
  intro r hr
  obtain ⟨b2, hb2⟩ : ∃ b, b = p_rg 10 17 z := ⟨_, rfl⟩
  obtain rfl : r = some (.int b2) := by rw [hb2, p_rg, ← p_in64_i]; exact hr
  refine And.intro (fun h3 => ?_) (fun h3 => ?_)
  · have h3 : b2 = 0 := h3
    exact fin0 (-1) (by rw [r_mrow, ← hb, if_neg h, if_neg h2, ← hb2, if_pos h3])
  · have h3 : ¬ b2 = 0 := h3
    exact main (by rw [r_mrow, ← hb, if_neg h, if_neg h2, ← hb2, if_neg h3, hR])

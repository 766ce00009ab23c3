/-! ===== WishClerk: row ===== -/
def kCo2 (AS : Nat → Nat → Int32) (LB fo pr : Nat → Int32) (n h0 : Nat) (p z : Int32) (mv c : Nat → Int32) : Prop := ∃ al c0, CHt AS LB h0 n mv al ∧ c = p_lkc mv al fo pr p z n (2 ^ n) c0 (2 ^ n - h0)
def q_row (AS : Nat → Nat → Int32) (LB fo pr : Nat → Int32) (pe : Int32) (n h0 : Nat) (p z v : Int32) : Prop := (p_in pe p = 0 → v = -1) ∧ (¬ p_in pe p = 0 → (¬ z = 0 → p_rg 10 17 z = 0 → v = -1) ∧ ((z = 0 ∨ ¬ p_rg 10 17 z = 0) → ∃ mv c, kCo2 AS LB fo pr n h0 p 0 mv c ∧ v = if z = 0 then kRes c h0 else if kRes c h0 = -4 then -4 else p_wr mv fo c n ((z - 10).toNatClampNeg + 1) (nI h0) (-4)))
def c_X5_row : sCtr := ((yX5_row, cX5_row, 4, (some .int)), (6, 2, 6, 144), false,
  wrfp,
  fun vs L => ∃ (x0 x1 x3 x4 x5 : Nat) (y7 y8 y9 a b : Int32) (M : Nat → Nat → Int32) (s : Nat → Int32) (F : Nat → Nat → Int32) (p z : Int32) (n h0 d : Nat), vs = [.ref 0, .int p, .int z] ∧ L = wr5 x0 x1 x3 x4 x5 y7 y8 y9 a b M s F ∧ bOK s F n h0 ∧ s 2 = nI d ∧ d ≤ 8,
  fun vs L r L' => ∃ (v : Int32), r = some (.int v) ∧ q_row (p_AS (bF L 9) (bF L 10) (bF L 11) (oI L 6 1).toNatClampNeg (oI L 6 3) (oI L 6 5) (oI L 6 4) (oI L 6 2).toNatClampNeg (oI L 6 6)) (p_LB (bF L 9) (bF L 10) (oI L 6 1).toNatClampNeg (oI L 6 3) (oI L 6 5)) (bF L 12) (bF L 8) (oI L 6 0) (oI L 6 1).toNatClampNeg (oI L 6 5).toNatClampNeg (vI vs 1) (vI vs 2) v ∧ ∃ a b M, L' = wrL L a b M)
theorem sta_X5_row : s_Sta c_X5_row := ⟨⟨by decide +kernel, by decide +kernel, by decide +kernel⟩, List.mem_of_getElem? (i := 599) (by decide +kernel), List.mem_of_getElem? (i := 64) (by decide +kernel), ⟨List.mem_of_getElem? (i := 597) (by decide +kernel), List.mem_of_getElem? (i := 598) (by decide +kernel), Or.inl ⟨_, rfl, rfl⟩⟩⟩

def k_X5_row : List sBk := [
  (0, false, [true, true, true, false], [o0 0 (.aload_n 0), oN 1 (.getfield 49) [5, 6, 304], o0 4 (.iload_n 1), oC 5 (.invokevirtual 131) [510] c_X0_hasOne, oN 8 (.ifCond .eq 19) [1], o0 11 (.iload_n 2), oN 12 (.ifCond .eq 17) [2], o0 15 (.iload_n 2), oK 16 (.bipush 10) (.int 10), oN 18 (.if_icmp .lt 9) [1], o0 21 (.iload_n 2), oK 22 (.bipush 17) (.int 17), oN 24 (.if_icmp .le 5) [2], oN 27 .nop [1]]),
  (27, false, [false, false, false, false], [oK 27 (.iconst (-1)) (.int (-1)), o0 28 .ireturn]),
  (29, false, [true, true, true, false], [o0 29 (.aload_n 0), oN 30 (.getfield 28) [5, 2, 300], o0 33 (.aload_n 0), oN 34 (.getfield 49) [5, 6, 304], o0 37 (.aload_n 0), oN 38 (.getfield 49) [5, 6, 304], oN 41 (.getfield 85) [0, 2, 123], oC 44 (.invokevirtual 169) [600] c_X2_chart, o0 47 (.aload_n 0), oN 48 (.getfield 28) [5, 2, 300], o0 51 (.aload_n 0), oN 52 (.getfield 49) [5, 6, 304], o0 55 (.iload_n 1), oK 56 (.iconst 0) (.int 0), oC 57 (.invokevirtual 173) [622] c_X2_leastCost, o0 60 (.istore_n 3), o0 61 (.iload_n 2), oN 62 (.ifCond .eq 9) [3], o0 65 (.iload_n 3), oK 66 (.bipush (-4)) (.int (-4)), oN 68 (.if_icmp .ne 5) [4], oN 71 .nop [3]]),
  (71, false, [false, false, false, true], [o0 71 (.iload_n 3), o0 72 .ireturn]),
  (73, false, [true, false, true, false], [o0 73 (.aload_n 0), oN 74 (.getfield 28) [5, 2, 300], o0 77 (.aload_n 0), oN 78 (.getfield 49) [5, 6, 304], o0 81 (.iload_n 2), oK 82 (.bipush 10) (.int 10), o0 84 .isub, oC 85 (.invokevirtual 177) [634] c_X2_wishOfRow, o0 88 .ireturn])]
set_option maxRecDepth 100000 in
theorem ck_X5_row : s_ck RX5 cX5_row 4 6 144 k_X5_row = true := by decide +kernel

theorem okb_X5_row : s_okb k_X5_row := by
  show s_Ok c_X0_hasOne ∧ s_Ok c_X2_chart ∧ s_Ok c_X2_leastCost ∧ s_Ok c_X2_wishOfRow ∧ True
  exact ⟨ok_X0_hasOne, ok_X2_chart, ok_X2_leastCost, ok_X2_wishOfRow, trivial⟩
set_option maxRecDepth 100000 in
set_option maxHeartbeats 4000000 in
theorem ok_X5_row : s_Ok c_X5_row := by
  refine s_ok_of k_X5_row (by decide +kernel) sta_X5_row ck_X5_row okb_X5_row ?_
  rintro vs L ⟨x0, x1, x3, x4, x5, y7, y8, y9, a, b, M, s, F, p, z, n, h0, d, rfl, rfl, hb, hd, hd8⟩
  refine ⟨rfl, fun G hG => ?_⟩
  have hfo8 := bOK_fo hb
  obtain ⟨hn1, hn, hs5, hh0, hnd, hon, hfo, hwa⟩ := id hb
  have h28 := p_2le n hn
  have e1 : (s 1).toNatClampNeg = n := by rw [hn1, nI_clamp (by omega)]
  have e5 : (s 5).toNatClampNeg = h0 := by rw [hs5, nI_clamp (by omega)]
  have ed : (s 2).toNatClampNeg = d := by rw [hd, nI_clamp (by omega)]
  have fin' : ∀ (v a' b' : Int32) (M' : Nat → Nat → Int32), q_row (p_AS (F 3) (F 4) (F 5) n (s 3) (s 5) (s 4) d (s 6)) (p_LB (F 3) (F 4) n (s 3) (s 5)) (F 6) (F 2) (s 0) n h0 p z v → s_PP (some .int) false c_X5_row.2.2.2.2.2 [.ref 0, .int p, .int z] (wr5 x0 x1 x3 x4 x5 y7 y8 y9 a b M s F) (some (.int v)) (wr5 x0 x1 x3 x4 x5 y7 y8 y9 a' b' M' s F) := by
    intro v a' b' M' hv
    refine ⟨rfl, ⟨v, rfl, ?_, a', b', M', rfl⟩, fun h => by cases h⟩
    show q_row (p_AS (F 3) (F 4) (F 5) (s 1).toNatClampNeg (s 3) (s 5) (s 4) (s 2).toNatClampNeg (s 6)) (p_LB (F 3) (F 4) (s 1).toNatClampNeg (s 3) (s 5)) (F 6) (F 2) (s 0) (s 1).toNatClampNeg (s 5).toNatClampNeg p z v
    rw [e1, e5, ed]
    exact hv
  have main : ¬ p_in (s 0) p = 0 → (z = 0 ∨ ¬ p_rg 10 17 z = 0) → s_go none k_X5_row G (s_PP (some .int) false c_X5_row.2.2.2.2.2 [.ref 0, .int p, .int z] (wr5 x0 x1 x3 x4 x5 y7 y8 y9 a b M s F)) false 99 2 [some (.ref 0), some (.int p), some (.int z), none] [] (wr5 x0 x1 x3 x4 x5 y7 y8 y9 a b M s F) := by
    intro hp hz
    refine And.intro ⟨a, b, M, s, F, s 2, n, h0, d, rfl, rfl, hb, hd, hd8⟩ ?_
    rintro r L' ⟨rfl, M1, hL, hC⟩
    obtain ⟨S, hS⟩ : ∃ S, S = (1 : Int32) <<< (s 1 &&& 31) := ⟨_, rfl⟩
    have hSn : S = nI (2 ^ n) := by rw [hS, hn1, p_2n n (by omega)]
    obtain rfl : L' = rwW (s 5) S M1 s F := by rw [hS]; exact hL
    replace hC : CHt (p_AS (F 3) (F 4) (F 5) (s 1).toNatClampNeg (s 3) (s 5) (s 4) (s 2).toNatClampNeg (s 6)) (p_LB (F 3) (F 4) (s 1).toNatClampNeg (s 3) (s 5)) (s 5).toNatClampNeg (s 1).toNatClampNeg (M1 1) (M1 2) := hC
    rw [e1, e5, ed] at hC
    refine And.intro ⟨s 5, S, M1, s, F, p, 0, n, h0, rfl, rfl, hb, hs5, hSn⟩ ?_
    rintro r L' ⟨c, hc, hr, hL⟩
    replace hc : c = p_lkc (M1 1) (M1 2) (F 6) (F 2) p 0 (s 1).toNatClampNeg S.toNatClampNeg (M1 3) (S.toNatClampNeg - (s 5).toNatClampNeg) := hc
    replace hr : r = some (.int (if c (s 5).toNatClampNeg < 1000000 then c (s 5).toNatClampNeg else -4)) := hr
    have eS : S.toNatClampNeg = 2 ^ n := by rw [hSn, nI_clamp (by omega)]
    rw [e1, e5, eS] at hc
    rw [e5] at hr
    obtain ⟨v, hv⟩ : ∃ v, v = kRes c h0 := ⟨_, rfl⟩
    have hr : r = some (.int v) := by rw [hr, hv, kRes]
    subst hr
    obtain rfl : L' = rwW (s 5) S (va_up M1 3 c) s F := hL
    have mk : ∀ u, u = (if z = 0 then kRes c h0 else if kRes c h0 = -4 then -4 else p_wr (M1 1) (F 6) c n ((z - 10).toNatClampNeg + 1) (nI h0) (-4)) → q_row (p_AS (F 3) (F 4) (F 5) n (s 3) (s 5) (s 4) d (s 6)) (p_LB (F 3) (F 4) n (s 3) (s 5)) (F 6) (F 2) (s 0) n h0 p z u := by
      intro u hu
      refine ⟨fun q => absurd q hp, fun _ => ⟨fun q1 q2 => ?_, fun _ => ⟨M1 1, c, ⟨M1 2, M1 3, hC, hc⟩, hu⟩⟩⟩
      rcases hz with q | q
      · exact absurd q q1
      · exact absurd q2 q
    rw [← hv] at mk
    refine And.intro (fun q => ?_) (fun q => ?_)
    · have q : z = 0 := q
      exact fin' v (s 5) S (va_up M1 3 c) (mk v (by rw [if_pos q]))
    have q : ¬ z = 0 := q
    refine And.intro (fun q2 => ?_) (fun q2 => ?_)
    · have q2 : v = -4 := q2
      exact fin' v (s 5) S (va_up M1 3 c) (mk v (by rw [if_neg q, if_pos q2, q2]))
    have q2 : ¬ v = -4 := q2
    have hz2 : ∃ i : Nat, i < 8 ∧ z - 10 = nI i := by
      have hr := hz.resolve_left q
      unfold p_rg at hr
      by_cases c1 : z < 10
      · rw [if_pos c1] at hr; exact absurd rfl hr
      rw [if_neg c1] at hr
      by_cases c2 : 17 < z
      · rw [if_pos c2] at hr; exact absurd rfl hr
      have z0 : ¬ z < 0 := fun q => c1 (by
        rw [Int32.lt_iff_toInt_lt] at q ⊢
        have a0 : (0 : Int32).toInt = 0 := rfl
        have a1 : (10 : Int32).toInt = 10 := rfl
        omega)
      obtain ⟨j, hj, rfl⟩ := nI_of z0
      rw [show (10 : Int32) = nI 10 from rfl, nI_ltI hj (by omega)] at c1
      rw [show (17 : Int32) = nI 17 from rfl, nI_ltI (by omega) hj] at c2
      exact ⟨j - 10, by omega, by rw [show (10 : Int32) = nI 10 from rfl, p_sub_nI (by omega) (by omega)]⟩
    obtain ⟨i, hi8, hie⟩ := hz2
    refine And.intro ⟨s 5, S, va_up M1 3 c, s, F, z - 10, i, h0, n, rfl, rfl, hie, hi8, hs5, by omega, hn1, hn, hfo8⟩ ?_
    intro r hr
    replace hr : r = some (.int (p_wr (M1 1) (F 6) c (s 1).toNatClampNeg ((z - 10).toNatClampNeg + 1) (s 5) (-4))) := hr
    rw [e1, hs5] at hr
    obtain ⟨u, hu⟩ : ∃ u, u = p_wr (M1 1) (F 6) c n ((z - 10).toNatClampNeg + 1) (nI h0) (-4) := ⟨_, rfl⟩
    rw [← hu] at hr
    subst hr
    exact fin' u (s 5) S (va_up M1 3 c) (mk u (by rw [if_neg q, if_neg q2, hu]))
  refine hG 0 _ _ _ (And.intro ⟨_, _, _, rfl, rfl⟩ ?_)
  intro r hr
  obtain ⟨o, ho⟩ : ∃ o, o = p_in (s 0) p := ⟨_, rfl⟩
  obtain rfl : r = some (.int o) := by rw [ho]; exact hr
  refine And.intro (fun h => ?_) (fun h => ?_)
  · have h : o = 0 := h
    rw [ho] at h
    exact fin' (-1) a b M ⟨fun _ => rfl, fun q => absurd h q⟩
  have h : ¬ o = 0 := h
  rw [ho] at h
  refine And.intro (fun h2 => ?_) (fun h2 => ?_)
  · exact main h (Or.inl h2)
  have h2 : ¬ z = 0 := h2
  refine And.intro (fun h3 => ?_) (fun h3 => ?_)
  · have h3 : z < 10 := h3
    exact fin' (-1) a b M ⟨fun _ => rfl, fun _ => ⟨fun _ _ => rfl, fun q => absurd (q.resolve_left h2) (fun z => z (by rw [p_rg, if_pos h3]))⟩⟩
  have h3 : ¬ z < 10 := h3
  refine And.intro (fun h4 => ?_) (fun h4 => ?_)
  · have h4 : 17 < z := h4
    exact fin' (-1) a b M ⟨fun _ => rfl, fun _ => ⟨fun _ _ => rfl, fun q => absurd (q.resolve_left h2) (fun z => z (by rw [p_rg, if_neg h3, if_pos h4]))⟩⟩
  · have h4 : ¬ 17 < z := h4
    exact main h (Or.inr (by rw [p_rg, if_neg h3, if_neg h4]; decide))

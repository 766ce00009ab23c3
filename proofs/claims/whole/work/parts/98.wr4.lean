/-! ===== WishClerk: deep ===== -/
def p_dpZ (c : Nat → Int32) : Nat → Nat → Int32
  | 0, _ => -4
  | k + 1, d => if c d = 0 then nI d else p_dpZ c k (d + 1)
def kAny (AS : Nat → Nat → Nat → Int32) (LB : Nat → Int32) (n h0 : Nat) (p : Int32) (d t : Nat) : Int32 := p_any (p_mk (aSt (AS d) (nI t)) h0 n (2 ^ n)) LB p (2 ^ n)
def q_dpc (AS : Nat → Nat → Nat → Int32) (LB : Nat → Int32) (pe l3 : Int32) (n h0 : Nat) (p v : Int32) : Prop := (p_in pe p = 0 → v = -1) ∧ (¬ p_in pe p = 0 → (¬ p_hb l3 p = 0 → v = -2) ∧ (p_hb l3 p = 0 → v = p_dpZ (fun d => kAny AS LB n h0 p d 0) 9 0))
def c_X5_deep : sCtr := ((yX5_deep, cX5_deep, 3, (some .int)), (6, 1, 6, 144), false,
  wrfp,
  fun vs L => ∃ (x0 x1 x3 x4 x5 : Nat) (y7 y8 y9 a b : Int32) (M : Nat → Nat → Int32) (s : Nat → Int32) (F : Nat → Nat → Int32) (p : Int32) (n h0 : Nat), vs = [.ref 0, .int p] ∧ L = wr5 x0 x1 x3 x4 x5 y7 y8 y9 a b M s F ∧ bOK s F n h0,
  fun vs L r L' => ∃ (v : Int32), r = some (.int v) ∧ q_dpc (fun d => p_AS (bF L 9) (bF L 10) (bF L 11) (oI L 6 1).toNatClampNeg (oI L 6 3) (oI L 6 5) (oI L 6 4) d (oI L 6 6)) (p_LB (bF L 9) (bF L 10) (oI L 6 1).toNatClampNeg (oI L 6 3) (oI L 6 5)) (oI L 6 0) (oI L 6 3) (oI L 6 1).toNatClampNeg (oI L 6 5).toNatClampNeg (vI vs 1) v ∧ ∃ a b M, L' = wrL L a b M)
theorem sta_X5_deep : s_Sta c_X5_deep := ⟨⟨by decide +kernel, by decide +kernel, by decide +kernel⟩, List.mem_of_getElem? (i := 649) (by decide +kernel), List.mem_of_getElem? (i := 64) (by decide +kernel), ⟨List.mem_of_getElem? (i := 647) (by decide +kernel), List.mem_of_getElem? (i := 648) (by decide +kernel), Or.inl ⟨_, rfl, rfl⟩⟩⟩

def k_X5_deep : List sBk := [
  (0, false, [true, true, false], [o0 0 (.aload_n 0), oN 1 (.getfield 49) [5, 6, 304], o0 4 (.iload_n 1), oC 5 (.invokevirtual 131) [510] c_X0_hasOne, oN 8 (.ifCond .ne 5) [1], oK 11 (.iconst (-1)) (.int (-1)), o0 12 .ireturn]),
  (13, false, [true, true, false], [o0 13 (.aload_n 0), oN 14 (.getfield 49) [5, 6, 304], oN 17 (.getfield 88) [0, 3, 127], o0 20 (.iload_n 1), oC 21 (.invokestatic 157) [573] c_X5_hasBit, oN 24 (.ifCond .eq 6) [2], oK 27 (.bipush (-2)) (.int (-2)), o0 29 .ireturn]),
  (30, false, [true, true, false], [oK 30 (.iconst 0) (.int 0), o0 31 (.istore_n 2), oN 32 .nop [3]]),
  (32, true, [true, true, true], [o0 32 (.iload_n 2), oK 33 (.bipush 8) (.int 8), oN 35 (.if_icmp .gt 39) [5], o0 38 (.aload_n 0), oN 39 (.getfield 28) [5, 2, 300], o0 42 (.aload_n 0), oN 43 (.getfield 49) [5, 6, 304], o0 46 (.iload_n 2), oC 47 (.invokevirtual 169) [600] c_X2_chart, o0 50 (.aload_n 0), oN 51 (.getfield 28) [5, 2, 300], o0 54 (.aload_n 0), oN 55 (.getfield 49) [5, 6, 304], o0 58 (.iload_n 1), oK 59 (.iconst 0) (.int 0), oC 60 (.invokevirtual 181) [650] c_X2_leadTo, oN 63 (.ifCond .ne 5) [4], o0 66 (.iload_n 2), o0 67 .ireturn]),
  (68, false, [true, true, true], [oK 68 (.iinc 2 1) (.int 1), oN 71 (.goto (-39)) [3]]),
  (74, false, [false, false, false], [oK 74 (.bipush (-4)) (.int (-4)), o0 76 .ireturn])]
set_option maxRecDepth 100000 in
theorem ck_X5_deep : s_ck RX5 cX5_deep 3 6 144 k_X5_deep = true := by decide +kernel

theorem okb_X5_deep : s_okb k_X5_deep := by
  show s_Ok c_X0_hasOne ∧ s_Ok c_X5_hasBit ∧ s_Ok c_X2_chart ∧ s_Ok c_X2_leadTo ∧ True
  exact ⟨ok_X0_hasOne, ok_X5_hasBit, ok_X2_chart, ok_X2_leadTo, trivial⟩
set_option maxRecDepth 100000 in
set_option maxHeartbeats 4000000 in
theorem ok_X5_deep : s_Ok c_X5_deep := by
  refine s_ok_of k_X5_deep (by decide +kernel) sta_X5_deep ck_X5_deep okb_X5_deep ?_
  rintro vs L ⟨x0, x1, x3, x4, x5, y7, y8, y9, a, b, M, s, F, p, n, h0, rfl, rfl, hb⟩
  refine ⟨rfl, fun G hG => ?_⟩
  obtain ⟨hn1, hn, hs5, hh0, hnd, hon, hfo, hwa⟩ := id hb
  have h28 := p_2le n hn
  have e1 : (s 1).toNatClampNeg = n := by rw [hn1, nI_clamp (by omega)]
  have e5 : (s 5).toNatClampNeg = h0 := by rw [hs5, nI_clamp (by omega)]
  have fin' : ∀ (v a' b' : Int32) (M' : Nat → Nat → Int32), q_dpc (fun d => p_AS (F 3) (F 4) (F 5) n (s 3) (s 5) (s 4) d (s 6)) (p_LB (F 3) (F 4) n (s 3) (s 5)) (s 0) (s 3) n h0 p v → s_PP (some .int) false c_X5_deep.2.2.2.2.2 [.ref 0, .int p] (wr5 x0 x1 x3 x4 x5 y7 y8 y9 a b M s F) (some (.int v)) (wr5 x0 x1 x3 x4 x5 y7 y8 y9 a' b' M' s F) := by
    intro v a' b' M' hv
    refine ⟨rfl, ⟨v, rfl, ?_, a', b', M', rfl⟩, fun h => by cases h⟩
    show q_dpc (fun d => p_AS (F 3) (F 4) (F 5) (s 1).toNatClampNeg (s 3) (s 5) (s 4) d (s 6)) (p_LB (F 3) (F 4) (s 1).toNatClampNeg (s 3) (s 5)) (s 0) (s 3) (s 1).toNatClampNeg (s 5).toNatClampNeg p v
    rw [e1, e5]
    exact hv
  refine hG 0 _ _ _ (And.intro ⟨_, _, _, rfl, rfl⟩ ?_)
  intro r hr
  obtain ⟨o, ho⟩ : ∃ o, o = p_in (s 0) p := ⟨_, rfl⟩
  obtain rfl : r = some (.int o) := by rw [ho]; exact hr
  refine And.intro (fun h => ?_) (fun h => ?_)
  · have h : o = 0 := h
    rw [ho] at h
    exact fin' (-1) a b M ⟨fun _ => rfl, fun q => absurd h q⟩
  have h : ¬ o = 0 := h
  rw [ho] at h
  refine And.intro ⟨_, _, rfl⟩ ?_
  intro r hr
  obtain ⟨o2, ho2⟩ : ∃ o, o = p_hb (s 3) p := ⟨_, rfl⟩
  obtain rfl : r = some (.int o2) := by rw [ho2]; exact hr
  refine And.intro (fun h2 => ?_) (fun h2 => ?_)
  rotate_left
  · have h2 : ¬ o2 = 0 := h2
    rw [ho2] at h2
    exact fin' (-2) a b M ⟨fun q => absurd q h, fun _ => ⟨fun _ => rfl, fun q => absurd q h2⟩⟩
  have h2 : o2 = 0 := h2
  rw [ho2] at h2
  obtain ⟨cf, hcf⟩ : ∃ cf, cf = fun d => kAny (fun d => p_AS (F 3) (F 4) (F 5) n (s 3) (s 5) (s 4) d (s 6)) (p_LB (F 3) (F 4) n (s 3) (s 5)) n h0 p d 0 := ⟨_, rfl⟩
  have mk : ∀ v, v = p_dpZ cf 9 0 → q_dpc (fun d => p_AS (F 3) (F 4) (F 5) n (s 3) (s 5) (s 4) d (s 6)) (p_LB (F 3) (F 4) n (s 3) (s 5)) (s 0) (s 3) n h0 p v := fun v hv => ⟨fun q => absurd q h, fun _ => ⟨fun q => absurd h2 q, fun _ => by rw [hv, hcf]⟩⟩
  have loop : ∀ (k d : Nat) (x a' b' : Int32) (M' : Nat → Nat → Int32), d + k = 9 → x = nI d → p_dpZ cf 9 0 = p_dpZ cf k d → G 3 [some (.ref 0), some (.int p), some (.int x)] [] (wr5 x0 x1 x3 x4 x5 y7 y8 y9 a' b' M' s F) := by
    intro k
    induction k with
    | zero =>
      intro d x a' b' M' hk hx hr
      refine hG 3 _ _ _ (And.intro (fun q => ?_) (fun q => ?_))
      · exact fin' _ a' b' M' (mk (-4) (by rw [hr]; rfl))
      · rw [hx, show (8 : Int32) = nI 8 from rfl, nI_ltI (by omega) (by omega)] at q; omega
    | succ k ih =>
      intro d x a' b' M' hk hx hr
      have exd : x.toNatClampNeg = d := by rw [hx, nI_clamp (by omega)]
      refine hG 3 _ _ _ (And.intro (fun q => ?_) (fun q => ?_))
      · rw [hx, show (8 : Int32) = nI 8 from rfl, nI_ltI (by omega) (by omega)] at q; omega
      refine And.intro ⟨a', b', M', s, F, x, n, h0, d, rfl, rfl, hb, hx, by omega⟩ ?_
      rintro r L' ⟨rfl, M1, hL, hC⟩
      obtain ⟨S, hS⟩ : ∃ S, S = (1 : Int32) <<< (s 1 &&& 31) := ⟨_, rfl⟩
      have hSn : S = nI (2 ^ n) := by rw [hS, hn1, p_2n n (by omega)]
      have eS : S.toNatClampNeg = 2 ^ n := by rw [hSn, nI_clamp (by omega)]
      obtain rfl : L' = rwW (s 5) S M1 s F := by rw [hS]; exact hL
      replace hC : CHt (p_AS (F 3) (F 4) (F 5) (s 1).toNatClampNeg (s 3) (s 5) (s 4) x.toNatClampNeg (s 6)) (p_LB (F 3) (F 4) (s 1).toNatClampNeg (s 3) (s 5)) (s 5).toNatClampNeg (s 1).toNatClampNeg (M1 1) (M1 2) := hC
      rw [e1, e5, exd] at hC
      refine And.intro ⟨s 5, S, M1, s, F, p, 0, n, h0, rfl, rfl, hb, hs5, hSn⟩ ?_
      rintro r L' ⟨hr2, g, hL⟩
      replace hr2 : r = some (.int (p_ldr (M1 1) (M1 2) (F 6) 0 p (s 1).toNatClampNeg (s 5).toNatClampNeg S.toNatClampNeg)) := hr2
      rw [e1, e5, eS] at hr2
      have sem := ldr_sem (t := 0) (p := p) hb (AS_up hn hnd) (AS_ed hn hnd) hC (by decide)
      rw [show (0 : Int32) = nI 0 from rfl, sem] at hr2
      obtain ⟨v, hv⟩ : ∃ v, v = cf d := ⟨_, rfl⟩
      have hr3 : r = some (.int v) := by
        rw [hr2, hv, congrFun hcf d]
        simp only [kAny]
      subst hr3
      obtain rfl : L' = rwW (s 5) S (va_up M1 4 g) s F := hL
      refine And.intro (fun q2 => ?_) (fun q2 => ?_)
      · have q2 : v = 0 := q2
        exact fin' x (s 5) S (va_up M1 4 g) (mk x (by rw [hr, p_dpZ, ← hv, if_pos q2, hx]))
      · have q2 : ¬ v = 0 := q2
        exact ih (d + 1) _ (s 5) S (va_up M1 4 g) (by omega) (by rw [hx, nI_1]) (by rw [hr, p_dpZ, ← hv, if_neg q2])
  exact loop 9 0 0 a b M (by omega) nI_0.symm rfl

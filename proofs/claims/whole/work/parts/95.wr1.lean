/-! ===== WishClerk: rows ===== -/
def wr5 (x0 x1 x3 x4 x5 : Nat) (y7 y8 y9 a b : Int32) (M : Nat → Nat → Int32) (s : Nat → Int32) (F : Nat → Nat → Int32) : sH := .inr (.inr (5, [.ref x0, .ref x1, .ref 1, .ref x3, .ref x4, .ref x5, .ref 6, .int y7, .int y8, .int y9])) :: .inr (.inr (2, [.ref 2, .ref 3, .ref 4, .ref 5, .int a, .int b])) :: .inl (0, 256, M 1) :: .inl (0, 256, M 2) :: .inl (0, 256, M 3) :: .inl (2, 256, M 4) :: bkK 6 s F
def wrfp (vs : sS) (L : sH) : List Nat := match vs with
  | .ref c :: _ => c :: s_rf L c 2 :: s_rf L (s_rf L c 2) 0 :: s_rf L (s_rf L c 2) 1 :: s_rf L (s_rf L c 2) 2 :: s_rf L (s_rf L c 2) 3 :: bkP L (s_rf L c 6)
  | _ => []
/-- the same world but for what Rows holds -/
def wrL (L : sH) (a b : Int32) (M : Nat → Nat → Int32) : sH := s_hd L :: .inr (.inr (2, [.ref 2, .ref 3, .ref 4, .ref 5, .int a, .int b])) :: .inl (0, 256, M 1) :: .inl (0, 256, M 2) :: .inl (0, 256, M 3) :: .inl (2, 256, M 4) :: bkK 6 (oI L 6) (bG 6 L)
/-- the book's graph, for a depth; who lives -/
def kAS (s : Nat → Int32) (F : Nat → Nat → Int32) (n d : Nat) : Nat → Nat → Int32 := p_AS (F 3) (F 4) (F 5) n (s 3) (s 5) (s 4) d (s 6)
def kLB (s : Nat → Int32) (F : Nat → Nat → Int32) (n : Nat) : Nat → Int32 := p_LB (F 3) (F 4) n (s 3) (s 5)
/-- costs, as Rows finds them over some chart -/
def kCo (s : Nat → Int32) (F : Nat → Nat → Int32) (n h0 d : Nat) (p z : Int32) (mv c : Nat → Int32) : Prop := ∃ al c0, CHt (kAS s F n d) (kLB s F n) h0 n mv al ∧ c = p_lkc mv al (F 6) (F 2) p z n (2 ^ n) c0 (2 ^ n - h0)
def kRes (c : Nat → Int32) (h0 : Nat) : Int32 := if c h0 < 1000000 then c h0 else -4
def q_chp (s : Nat → Int32) (F : Nat → Nat → Int32) (n h0 d : Nat) (p r : Int32) : Prop := (p_in (s 0) p = 0 → r = -1) ∧ (¬ p_in (s 0) p = 0 → ∃ mv c, kCo s F n h0 d p 1 mv c ∧ r = kRes c h0)
def c_X5_cheap : sCtr := ((yX5_cheap, cX5_cheap, 2, (some .int)), (6, 1, 6, 144), false,
  wrfp,
  fun vs L => ∃ (x0 x1 x3 x4 x5 : Nat) (y7 y8 y9 a b : Int32) (M : Nat → Nat → Int32) (s : Nat → Int32) (F : Nat → Nat → Int32) (p : Int32) (n h0 d : Nat), vs = [.ref 0, .int p] ∧ L = wr5 x0 x1 x3 x4 x5 y7 y8 y9 a b M s F ∧ bOK s F n h0 ∧ s 2 = nI d ∧ d ≤ 8,
  fun vs L r L' => ∃ (v : Int32), r = some (.int v) ∧ q_chp (oI L 6) (bG 6 L) (oI L 6 1).toNatClampNeg (oI L 6 5).toNatClampNeg (oI L 6 2).toNatClampNeg (vI vs 1) v ∧ ∃ a b M, L' = wrL L a b M)
theorem sta_X5_cheap : s_Sta c_X5_cheap := ⟨⟨by decide +kernel, by decide +kernel, by decide +kernel⟩, List.mem_of_getElem? (i := 645) (by decide +kernel), List.mem_of_getElem? (i := 64) (by decide +kernel), ⟨List.mem_of_getElem? (i := 643) (by decide +kernel), List.mem_of_getElem? (i := 644) (by decide +kernel), Or.inl ⟨_, rfl, rfl⟩⟩⟩

def k_X5_cheap : List sBk := [
  (0, false, [true, true], [o0 0 (.aload_n 0), oN 1 (.getfield 49) [5, 6, 304], o0 4 (.iload_n 1), oC 5 (.invokevirtual 131) [510] c_X0_hasOne, oN 8 (.ifCond .ne 5) [1], oK 11 (.iconst (-1)) (.int (-1)), o0 12 .ireturn]),
  (13, false, [true, true], [o0 13 (.aload_n 0), oN 14 (.getfield 28) [5, 2, 300], o0 17 (.aload_n 0), oN 18 (.getfield 49) [5, 6, 304], o0 21 (.aload_n 0), oN 22 (.getfield 49) [5, 6, 304], oN 25 (.getfield 85) [0, 2, 123], oC 28 (.invokevirtual 169) [600] c_X2_chart, o0 31 (.aload_n 0), oN 32 (.getfield 28) [5, 2, 300], o0 35 (.aload_n 0), oN 36 (.getfield 49) [5, 6, 304], o0 39 (.iload_n 1), oK 40 (.iconst 1) (.int 1), oC 41 (.invokevirtual 173) [622] c_X2_leastCost, o0 44 .ireturn])]
set_option maxRecDepth 100000 in
theorem ck_X5_cheap : s_ck RX5 cX5_cheap 2 6 144 k_X5_cheap = true := by decide +kernel

set_option maxRecDepth 100000 in
set_option maxHeartbeats 4000000 in
theorem ok_X5_cheap : s_Ok c_X5_cheap := by
  refine s_ok_of k_X5_cheap (by decide +kernel) sta_X5_cheap ck_X5_cheap (And.intro ok_X0_hasOne (And.intro ok_X2_chart (And.intro ok_X2_leastCost trivial))) ?_
  rintro vs L ⟨x0, x1, x3, x4, x5, y7, y8, y9, a, b, M, s, F, p, n, h0, d, rfl, rfl, hb, hd, hd8⟩
  refine ⟨rfl, fun G hG => ?_⟩
  obtain ⟨hn1, hn, hs5, hh0, hnd, hon, hfo, hwa⟩ := id hb
  have h28 := p_2le n hn
  have e1 : (s 1).toNatClampNeg = n := by rw [hn1, nI_clamp (by omega)]
  have e5 : (s 5).toNatClampNeg = h0 := by rw [hs5, nI_clamp (by omega)]
  have ed : (s 2).toNatClampNeg = d := by rw [hd, nI_clamp (by omega)]
  have fin' : ∀ (v a' b' : Int32) (M' : Nat → Nat → Int32), q_chp s F n h0 d p v → s_PP (some .int) false c_X5_cheap.2.2.2.2.2 [.ref 0, .int p] (wr5 x0 x1 x3 x4 x5 y7 y8 y9 a b M s F) (some (.int v)) (wr5 x0 x1 x3 x4 x5 y7 y8 y9 a' b' M' s F) := by
    intro v a' b' M' hv
    refine ⟨rfl, ⟨v, rfl, ?_, a', b', M', rfl⟩, fun h => by cases h⟩
    rw [← e1, ← e5, ← ed] at hv
    exact hv
  refine hG 0 _ _ _ (And.intro ⟨_, _, _, rfl, rfl⟩ ?_)
  intro r hr
  obtain ⟨o, ho⟩ : ∃ o, o = p_in (s 0) p := ⟨_, rfl⟩
  obtain rfl : r = some (.int o) := by rw [ho]; exact hr
  refine And.intro (fun h => ?_) (fun h => ?_)
  · have h : o = 0 := h
    rw [ho] at h
    exact fin' (-1) a b M ⟨fun _ => rfl, fun q => absurd h q⟩
  have h : ¬ o = 0 := h
  rw [ho] at h
  refine And.intro ⟨a, b, M, s, F, s 2, n, h0, d, rfl, rfl, hb, hd, hd8⟩ ?_
  rintro r L' ⟨rfl, M1, hL, hC⟩
  obtain ⟨S, hS⟩ : ∃ S, S = (1 : Int32) <<< (s 1 &&& 31) := ⟨_, rfl⟩
  have hSn : S = nI (2 ^ n) := by rw [hS, hn1, p_2n n (by omega)]
  obtain rfl : L' = rwW (s 5) S M1 s F := by rw [hS]; exact hL
  replace hC : CHt (p_AS (F 3) (F 4) (F 5) (s 1).toNatClampNeg (s 3) (s 5) (s 4) (s 2).toNatClampNeg (s 6)) (p_LB (F 3) (F 4) (s 1).toNatClampNeg (s 3) (s 5)) (s 5).toNatClampNeg (s 1).toNatClampNeg (M1 1) (M1 2) := hC
  rw [e1, e5, ed] at hC
  refine And.intro ⟨s 5, S, M1, s, F, p, 1, n, h0, rfl, rfl, hb, hs5, hSn⟩ ?_
  rintro r L' ⟨c, hc, hr, hL⟩
  replace hc : c = p_lkc (M1 1) (M1 2) (F 6) (F 2) p 1 (s 1).toNatClampNeg S.toNatClampNeg (M1 3) (S.toNatClampNeg - (s 5).toNatClampNeg) := hc
  replace hr : r = some (.int (if c (s 5).toNatClampNeg < 1000000 then c (s 5).toNatClampNeg else -4)) := hr
  have eS : S.toNatClampNeg = 2 ^ n := by rw [hSn, nI_clamp (by omega)]
  rw [e1, e5, eS] at hc
  rw [e5] at hr
  subst hr
  obtain rfl : L' = rwW (s 5) S (va_up M1 3 c) s F := hL
  exact fin' _ (s 5) S (va_up M1 3 c) ⟨fun q => absurd q h, fun _ => ⟨M1 1, c, ⟨M1 2, M1 3, hC, hc⟩, rfl⟩⟩

/-! ===== WishClerk: all, row, deep ===== -/
def q_all (s : Nat → Int32) (F : Nat → Nat → Int32) (n h0 d : Nat) (v : Int32) : Prop := ∃ mv al, CHt (kAS s F n d) (kLB s F n) h0 n mv al ∧ v = p_ea mv al h0 (2 ^ n - h0)
def c_X5_all : sCtr := ((yX5_all, cX5_all, 1, (some .int)), (6, 0, 6, 144), false,
  wrfp,
  fun vs L => ∃ (x0 x1 x3 x4 x5 : Nat) (y7 y8 y9 a b : Int32) (M : Nat → Nat → Int32) (s : Nat → Int32) (F : Nat → Nat → Int32) (n h0 d : Nat), vs = [.ref 0] ∧ L = wr5 x0 x1 x3 x4 x5 y7 y8 y9 a b M s F ∧ bOK s F n h0 ∧ s 2 = nI d ∧ d ≤ 8,
  fun _ L r L' => ∃ (v : Int32), r = some (.int v) ∧ q_all (oI L 6) (bG 6 L) (oI L 6 1).toNatClampNeg (oI L 6 5).toNatClampNeg (oI L 6 2).toNatClampNeg v ∧ ∃ a b M, L' = wrL L a b M)
theorem sta_X5_all : s_Sta c_X5_all := ⟨⟨by decide +kernel, by decide +kernel, by decide +kernel⟩, List.mem_of_getElem? (i := 669) (by decide +kernel), List.mem_of_getElem? (i := 64) (by decide +kernel), ⟨List.mem_of_getElem? (i := 667) (by decide +kernel), List.mem_of_getElem? (i := 668) (by decide +kernel), Or.inl ⟨_, rfl, rfl⟩⟩⟩

def k_X5_all : List sBk := [
  (0, false, [true], [o0 0 (.aload_n 0), oN 1 (.getfield 28) [5, 2, 300], o0 4 (.aload_n 0), oN 5 (.getfield 49) [5, 6, 304], o0 8 (.aload_n 0), oN 9 (.getfield 49) [5, 6, 304], oN 12 (.getfield 85) [0, 2, 123], oC 15 (.invokevirtual 169) [600] c_X2_chart, o0 18 (.aload_n 0), oN 19 (.getfield 28) [5, 2, 300], oC 22 (.invokevirtual 191) [670] c_X2_everAlive, o0 25 .ireturn])]
set_option maxRecDepth 100000 in
theorem ck_X5_all : s_ck RX5 cX5_all 1 6 144 k_X5_all = true := by decide +kernel

set_option maxRecDepth 100000 in
set_option maxHeartbeats 4000000 in
theorem ok_X5_all : s_Ok c_X5_all := by
  refine s_ok_of k_X5_all (by decide +kernel) sta_X5_all ck_X5_all (And.intro ok_X2_chart (And.intro ok_X2_everAlive trivial)) ?_
  rintro vs L ⟨x0, x1, x3, x4, x5, y7, y8, y9, a, b, M, s, F, n, h0, d, rfl, rfl, hb, hd, hd8⟩
  refine ⟨rfl, fun G hG => ?_⟩
  obtain ⟨hn1, hn, hs5, hh0, hnd, hon, hfo, hwa⟩ := id hb
  have h28 := p_2le n hn
  have e1 : (s 1).toNatClampNeg = n := by rw [hn1, nI_clamp (by omega)]
  have e5 : (s 5).toNatClampNeg = h0 := by rw [hs5, nI_clamp (by omega)]
  have ed : (s 2).toNatClampNeg = d := by rw [hd, nI_clamp (by omega)]
  have fin' : ∀ (v a' b' : Int32) (M' : Nat → Nat → Int32), q_all s F n h0 d v → s_PP (some .int) false c_X5_all.2.2.2.2.2 [.ref 0] (wr5 x0 x1 x3 x4 x5 y7 y8 y9 a b M s F) (some (.int v)) (wr5 x0 x1 x3 x4 x5 y7 y8 y9 a' b' M' s F) := by
    intro v a' b' M' hv
    refine ⟨rfl, ⟨v, rfl, ?_, a', b', M', rfl⟩, fun h => by cases h⟩
    rw [← e1, ← e5, ← ed] at hv
    exact hv
  refine hG 0 _ _ _ (And.intro ⟨a, b, M, s, F, s 2, n, h0, d, rfl, rfl, hb, hd, hd8⟩ ?_)
  rintro r L' ⟨rfl, M1, hL, hC⟩
  obtain ⟨S, hS⟩ : ∃ S, S = (1 : Int32) <<< (s 1 &&& 31) := ⟨_, rfl⟩
  have hSn : S = nI (2 ^ n) := by rw [hS, hn1, p_2n n (by omega)]
  obtain rfl : L' = rwW (s 5) S M1 s F := by rw [hS]; exact hL
  replace hC : CHt (p_AS (F 3) (F 4) (F 5) (s 1).toNatClampNeg (s 3) (s 5) (s 4) (s 2).toNatClampNeg (s 6)) (p_LB (F 3) (F 4) (s 1).toNatClampNeg (s 3) (s 5)) (s 5).toNatClampNeg (s 1).toNatClampNeg (M1 1) (M1 2) := hC
  rw [e1, e5, ed] at hC
  have eS : S.toNatClampNeg = 2 ^ n := by rw [hSn, nI_clamp (by omega)]
  refine And.intro ⟨s 5, S, M1, h0, 2 ^ n, rfl, rfl, hs5, hSn, by omega, h28⟩ ?_
  intro r hr
  replace hr : r = some (.int (p_ea (M1 1) (M1 2) (s 5).toNatClampNeg (S.toNatClampNeg - (s 5).toNatClampNeg))) := hr
  rw [e5, eS] at hr
  subst hr
  exact fin' _ (s 5) S M1 ⟨M1 1, M1 2, hC, rfl⟩

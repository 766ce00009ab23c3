/-! ===== WishClerkModel: the greatest common divisor ===== -/
def p_gcd (a b : Int64) : Int64 := Int64.ofInt (Int.gcd a.toInt b.toInt)
theorem p_rem {a b : Int64} (ha : 0 ≤ a.toInt) (hb : 0 < b.toInt) : (a - a / b * b).toInt = a.toInt % b.toInt := by
  have a2 := Int64.toInt_lt a
  have b2 := Int64.toInt_lt b
  have d0 : 0 ≤ a.toInt / b.toInt := Int.ediv_nonneg ha (by omega)
  have d1 : a.toInt / b.toInt ≤ a.toInt := Int.ediv_le_self _ ha
  have d2 : a.toInt / b.toInt * b.toInt ≤ a.toInt := Int.ediv_mul_le _ (by omega)
  have d3 : 0 ≤ a.toInt / b.toInt * b.toInt := Int.mul_nonneg d0 (by omega)
  have e1 : (a / b).toInt = a.toInt / b.toInt := by
    rw [Int64.toInt_div, Int.tdiv_eq_ediv_of_nonneg ha, Int.bmod_eq_of_le (by omega) (by omega)]
  have e2 : (a / b * b).toInt = a.toInt / b.toInt * b.toInt := by
    rw [Int64.toInt_mul, e1, Int.bmod_eq_of_le (by omega) (by omega)]
  rw [Int64.toInt_sub, e2, Int.bmod_eq_of_le (by omega) (by omega), Int.emod_def, Int.mul_comm b.toInt]
theorem p_gcdr {a b : Int} (ha : 0 ≤ a) (hb : 0 ≤ b) : Int.gcd b (a % b) = Int.gcd a b := by
  obtain ⟨x, rfl⟩ := Int.eq_ofNat_of_zero_le ha
  obtain ⟨y, rfl⟩ := Int.eq_ofNat_of_zero_le hb
  show Nat.gcd y (((x : Int) % (y : Int)).natAbs) = Nat.gcd x y
  rw [show (x : Int) % (y : Int) = ((x % y : Nat) : Int) from rfl, Int.natAbs_natCast, Nat.gcd_comm, ← Nat.gcd_rec, Nat.gcd_comm]
def c_X6_common : sCtr := ((yX6_common, cX6_common, 10, (some .long)), (0, 2, 0, 0), true,
  fun _ _ => [],
  fun vs _ => ∃ a b : Int64, vs = [.long a, .long b] ∧ 0 ≤ a.toInt ∧ 0 ≤ b.toInt,
  fun vs _ r _ => r = some (.long (p_gcd (vJ vs 0) (vJ vs 1))))
theorem sta_X6_common : s_Sta c_X6_common := ⟨⟨by decide +kernel, by decide +kernel, by decide +kernel⟩, List.mem_of_getElem? (i := 1207) (by decide +kernel), List.mem_of_getElem? (i := 70) (by decide +kernel), List.mem_of_getElem? (i := 1206) (by decide +kernel)⟩

def k_X6_common : List sBk := [
  (0, false, [true, false, true, false, false, false, false, false, false, false], [o0 0 (.lload_n 0), o0 1 (.lstore 4), o0 3 (.lload_n 2), o0 4 (.lstore 6), oN 6 .nop [1]]),
  (6, true, [false, false, false, false, true, false, true, false, false, false], [o0 6 (.lload 6), oK 8 (.lconst 0) (.long 0), o0 9 .lcmp, oN 10 (.ifCond .eq 21) [2], o0 13 (.lload 4), o0 15 (.lload 6), o0 17 .lrem, o0 18 (.lstore 8), o0 20 (.lload 6), o0 22 (.lstore 4), o0 24 (.lload 8), o0 26 (.lstore 6), oN 28 (.goto (-22)) [1]]),
  (31, false, [false, false, false, false, true, false, false, false, false, false], [o0 31 (.lload 4), o0 33 .lreturn])]
set_option maxRecDepth 100000 in
theorem ck_X6_common : s_ck RX6 cX6_common 10 0 0 k_X6_common = true := by decide +kernel

set_option maxRecDepth 100000 in
set_option maxHeartbeats 1000000 in
theorem ok_X6_common : s_Ok c_X6_common := by
  refine s_ok_of k_X6_common (by decide +kernel) sta_X6_common ck_X6_common trivial ?_
  rintro vs L ⟨a0, b0, rfl, ha0, hb0⟩
  refine ⟨rfl, fun G hG => ?_⟩
  have loop : ∀ (m : Nat) (a b : Int64), 0 ≤ a.toInt → 0 ≤ b.toInt → b.toInt < m → Int.gcd a.toInt b.toInt = Int.gcd a0.toInt b0.toInt → G 1 [none, none, none, none, some (.long a), none, some (.long b), none, none, none] [] L := by
    intro m
    induction m with
    | zero => intro a b _ hb hm _; omega
    | succ m ih =>
      intro a b ha hb hm hq
      refine hG 1 _ _ _ (And.intro (fun h => ?_) (fun h => ?_))
      · have h : b = 0 := (lg_cmp_eq _ _).mp h
        refine ⟨rfl, ?_, fun _ => rfl⟩
        show some (Value.long a) = some (Value.long (p_gcd a0 b0))
        rw [p_gcd, ← hq, h, Int64.toInt_zero, Int.gcd_zero_right, Int.natAbs_of_nonneg ha, Int64.ofInt_toInt]
      · have h : ¬ b = 0 := fun q => h ((lg_cmp_eq _ _).mpr q)
        have hb1 : 0 < b.toInt := by
          rcases Int.lt_or_eq_of_le hb with q | q
          · exact q
          · exact absurd (Int64.toInt_inj.mp (q.symm.trans Int64.toInt_zero.symm)) h
        have er := p_rem ha hb1
        refine And.intro h ?_
        refine ih b _ hb ?_ ?_ ?_
        · rw [er]; exact Int.emod_nonneg _ (by omega)
        · rw [er]
          have := Int.emod_lt_of_pos a.toInt hb1
          omega
        · rw [er, ← hq, p_gcdr ha hb]
  exact hG 0 _ _ _ (loop (b0.toInt.toNat + 1) a0 b0 ha0 hb0 (by omega) rfl)

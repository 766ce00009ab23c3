/-! ===== class and model: odds ===== -/
def wtN (v m : Nat) : Nat → Nat
  | 0 => 1
  | k + 1 => wtN v m k * (if m.testBit k = true then v else 10 - v)
theorem wtN_le {v : Nat} (hv : v ≤ 10) (m : Nat) : ∀ k, wtN v m k ≤ 10 ^ k
  | 0 => Nat.le_refl _
  | k + 1 => by
    rw [wtN, Nat.pow_succ]
    exact Nat.mul_le_mul (wtN_le hv m k) (by split <;> omega)
theorem wtN_cg {v m m' : Nat} : ∀ k, (∀ i, i < k → m.testBit i = m'.testBit i) → wtN v m k = wtN v m' k
  | 0, _ => rfl
  | k + 1, h => by rw [wtN, wtN, wtN_cg k (fun i hi => h i (by omega)), h k (by omega)]
def smN (f : Nat → Nat) : Nat → Nat
  | 0 => 0
  | k + 1 => smN f k + f k
theorem smN_cg {f f' : Nat → Nat} : ∀ k, (∀ i, i < k → f i = f' i) → smN f k = smN f' k
  | 0, _ => rfl
  | k + 1, h => by rw [smN, smN, smN_cg k (fun i hi => h i (by omega)), h k (by omega)]
theorem smN_add (f : Nat → Nat) (a : Nat) : ∀ b, smN f (a + b) = smN f a + smN (fun i => f (a + i)) b
  | 0 => rfl
  | b + 1 => by rw [← Nat.add_assoc, smN, smN, smN_add f a b, Nat.add_assoc]
theorem smN_mul (f : Nat → Nat) (c : Nat) : ∀ k, smN (fun i => f i * c) k = smN f k * c
  | 0 => by rw [smN, smN, Nat.zero_mul]
  | k + 1 => by rw [smN, smN, smN_mul f c k, Nat.add_mul]
theorem wt_sum {v : Nat} (hv : v ≤ 10) : ∀ N, smN (fun m => wtN v m N) (2 ^ N) = 10 ^ N
  | 0 => rfl
  | N + 1 => by
    have h2 : 2 ^ (N + 1) = 2 ^ N + 2 ^ N := by rw [Nat.pow_succ]; omega
    have e1 : smN (fun m => wtN v m (N + 1)) (2 ^ N) = smN (fun m => wtN v m N) (2 ^ N) * (10 - v) := by
      rw [← smN_mul]
      exact smN_cg _ (fun i hi => by rw [wtN, if_neg (by rw [Nat.testBit_lt_two_pow hi]; decide)])
    have e2 : smN (fun i => wtN v (2 ^ N + i) (N + 1)) (2 ^ N) = smN (fun m => wtN v m N) (2 ^ N) * v := by
      rw [← smN_mul]
      refine smN_cg _ (fun i hi => ?_)
      have hb : (2 ^ N + i).testBit N = true := by rw [Nat.testBit_two_pow_add_eq, Nat.testBit_lt_two_pow hi]; rfl
      rw [wtN, if_pos hb, wtN_cg (m' := i) N (fun j hj => Nat.testBit_two_pow_add_gt hj i)]
    rw [h2, smN_add, e1, e2, wt_sum hv N, ← Nat.mul_add, show 10 - v + v = 10 by omega, Nat.pow_succ]
def l6N (n : Nat) : Int64 := Int64.ofNat n
theorem l6_add (a b : Nat) : l6N a + l6N b = l6N (a + b) := (Int64.ofNat_add a b).symm
theorem l6_mul (a b : Nat) : l6N a * l6N b = l6N (a * b) := (Int64.ofNat_mul a b).symm
theorem l6_toInt {n : Nat} (h : n < 2 ^ 63) : (l6N n).toInt = n := Int64.toInt_ofNat_of_lt h
theorem l6_inj {a b : Nat} (ha : a < 2 ^ 63) (hb : b < 2 ^ 63) : l6N a = l6N b ↔ a = b := by
  constructor
  · intro h
    have := congrArg Int64.toInt h
    rw [l6_toInt ha, l6_toInt hb] at this
    omega
  · intro h; rw [h]
theorem nI_64 {a : Nat} (h : a < 2 ^ 31) : (nI a).toInt64 = l6N a := by
  apply Int64.toInt_inj.mp
  rw [Int32.toInt_toInt64, nI_toInt h, l6_toInt (by omega)]
theorem wt_l6 {v m : Nat} (hv : v ≤ 10) (hm : m < 256) : ∀ k, k ≤ 8 → p_wt (nI v) (nI m) k = l6N (wtN v m k)
  | 0, _ => rfl
  | k + 1, hk => by
    rw [p_wt, wtN, wt_l6 hv hm k (by omega), hb_nI m hm k (by omega), show (10 : Int32) = nI 10 from rfl, p_sub_nI hv (by decide), nI_64 (by omega), nI_64 (by omega), l6_mul, l6_mul]
    by_cases c : m.testBit k = true
    · rw [if_pos c, if_neg d10, if_pos c]
    · rw [if_neg c, if_pos rfl, if_neg c]
/-! the plan asked, the clerk asleep now and then -/
theorem lb_0 {on nd : Nat → Int32} {n h0 : Nat} {l0 : Int32} (hn : n ≤ 8) (hnd : ∀ w, w < n → ltn n (nd w)) (hh : h0 < 2 ^ n) (hl : lt8 l0) : p_lb on nd n l0 (nI h0) (nI h0) = l0 := by
  have h28 := p_2le n hn
  have e : dN h0 h0 = 0 := by
    apply Nat.eq_of_testBit_eq
    intro i
    rw [Nat.zero_testBit]
    cases hb : (dN h0 h0).testBit i with
    | true => exact absurd ((dN_bit (by omega) i).mp hb).1 ((dN_bit (by omega) i).mp hb).2
    | false => rfl
  have e2 : p_fw nd n (nI 0) = nI 0 := by
    have : ∀ k, p_it nd n 0 (nI 0) k = nI 0 := by
      intro k
      induction k with
      | zero => rfl
      | succ k ih => rw [p_it, ih, p_st, ga_0 nd n hn, Int32.zero_and, Int32.or_zero]
    exact this 8
  rw [p_lb, dN_nI (by omega) (by omega), e, e2, ga_0 on n hn, Int32.or_zero]
theorem ap_loop {P n : Nat} {s st : Nat → Int32} {F : Nat → Nat → Int32} (h : BR P n s F st) (v g : Int32) {N : Nat} (hN : st 29 = nI N) (hN6 : N ≤ 6) : ∀ k, k ≤ N → ∃ H, H < 2 ^ n ∧ p_ap s F g k = (nI H, p_lb (fun i => st (2 + i)) (fun i => st (10 + i)) n (st 0) (st 26) (nI H)) ∧ (p_mo (fun i => st (2 + i)) (fun i => st (10 + i)) (fun i => st (18 + i)) (fun i => st (30 + i)) n (st 0) (st 26) (st 27) (st 1) (st 28).toNatClampNeg v g k).1 = nI H ∧ ∀ i, (tn st 26).testBit i = true → H.testBit i = true := by
  have hn := h.1.2.2
  have h28 := p_2le n hn
  obtain ⟨e5, H0, hH0, eH⟩ := h.2.1.2.2.2.1
  have tH : tn st 26 = H0 := by rw [tn, eH, nI_clamp (by omega)]
  obtain ⟨p1, N', p2, p3, p4⟩ := h.2.2.1
  have hNN : N' = N := by rw [hN] at p3; exact ((nI_eq (by omega) (by omega)).mp p3).symm
  subst hNN
  intro k
  induction k with
  | zero =>
    intro _
    refine ⟨H0, hH0, ?_, eH, fun i hi => by rw [tH] at hi; exact hi⟩
    show (s 5, s 3) = _
    rw [e5, h.2.1.2.1.1, eH, lb_0 hn (BRnd h) hH0 h.2.1.2.1.2]
  | succ k ih =>
    intro hk
    obtain ⟨H, hH, i1, i2, i3⟩ := ih (by omega)
    obtain ⟨q1, j, hj, q2⟩ := p4 k (by omega)
    have hap : p_ap s F g (k + 1) = p_aB s F g k (p_ap s F g k) := rfl
    rw [hap, p_mo, i1, p_aB, p_aS, i2, p_moh]
    dsimp only
    have hpw : F 8 k = nI j := q1.trans q2
    have hre := reB_eq h (nI j) (nI H) (p_lb (fun i => st (2 + i)) (fun i => st (10 + i)) n (st 0) (st 26) (nI H))
    unfold p_reB at hre
    rw [hpw, q2, nI_clamp (by omega), hre, BR6 h j hj, BR7 h j hj, hb_nI H (by omega) j (by omega)]
    have same : ∃ H', H' < 2 ^ n ∧ (nI H, p_lb (fun i => st (2 + i)) (fun i => st (10 + i)) n (st 0) (st 26) (nI H)) = (nI H', p_lb (fun i => st (2 + i)) (fun i => st (10 + i)) n (st 0) (st 26) (nI H')) ∧ nI H = nI H' ∧ ∀ i, (tn st 26).testBit i = true → H'.testBit i = true := ⟨H, hH, rfl, rfl, i3⟩
    have more : ¬ H.testBit j = true → ∃ H', H' < 2 ^ n ∧ (nI H ||| p_mfo st n j, p_lb (fun i => st (2 + i)) (fun i => st (10 + i)) n (st 0) (st 26) (nI H) ||| p_mwa st n j) = (nI H', p_lb (fun i => st (2 + i)) (fun i => st (10 + i)) n (st 0) (st 26) (nI H')) ∧ nI H ||| p_fw (fun i => st (10 + i)) n ((1 : Int32) <<< (nI j &&& 31)) = nI H' ∧ ∀ i, (tn st 26).testBit i = true → H'.testBit i = true := by
      intro c
      have hf := foN_lt hn (BRnd h) hj
      have e6 : p_mfo st n j = nI (foN (fun i => st (10 + i)) n j) := fo_nI hn (BRnd h) hj
      refine ⟨H ||| foN (fun i => st (10 + i)) n j, Nat.or_lt_two_pow hH hf, ?_, ?_, fun i hi => ?_⟩
      · rw [p_mwa, e6, lt8_orI, eH, p_lb_step hn (BRnd h) (BRon h) hH hH0 hj (fun q => c (i3 j (by rw [tH]; exact q)))]
      · rw [fo_nI hn (BRnd h) hj, lt8_orI]
      · rw [Nat.testBit_or, i3 i hi]; rfl
    by_cases c : H.testBit j = true
    · rw [if_pos c, if_neg d10, if_neg d10]
      exact same
    · rw [if_neg c, if_pos rfl, if_pos rfl]
      by_cases c2 : p_hb g (nI k) = 0
      · rw [if_pos c2, if_pos c2]
        by_cases c3 : p_re (fun i => st (2 + i)) (fun i => st (10 + i)) (fun i => st (18 + i)) n (st 27) (st 1) (nI j) (nI H) (p_lb (fun i => st (2 + i)) (fun i => st (10 + i)) n (st 0) (st 26) (nI H)) (st 28).toNatClampNeg = 0
        · rw [if_pos c3, if_pos c3]
          exact more c
        · rw [if_neg c3, if_neg c3]
          exact same
      · rw [if_neg c2, if_neg c2]
        exact more c
theorem mo_w {on nd cl pl : Nat → Int32} {n : Nat} {l0 h0 li ba : Int32} {d : Nat} {v g : Int32} : ∀ k, (p_mo on nd cl pl n l0 h0 li ba d v g k).2 = p_wt v g k
  | 0 => rfl
  | k + 1 => by
    rw [p_mo, p_wt, p_mof, mo_w k]
    by_cases c : p_hb g (nI k) = 0
    · rw [if_pos c, if_pos c]
    · rw [if_neg c, if_neg c]
theorem od_loop {wt : Nat → Int64} {al : Nat → Int32} {p : Int32} {w : Nat → Nat} {K : Nat} (hw : ∀ i, i < K → wt i = l6N (w i) ∧ w i ≤ 1000000) : ∀ k, k ≤ K → k ≤ 64 → ∃ a, a ≤ smN w k ∧ (p_od wt al p k).1 = l6N a ∧ (p_od wt al p k).2 = l6N (smN w k)
  | 0, _, _ => ⟨0, Nat.le_refl 0, rfl, rfl⟩
  | k + 1, hk, h64 => by
    obtain ⟨a, ha, e1, e2⟩ := od_loop hw k (by omega) (by omega)
    obtain ⟨e3, h3⟩ := hw k (by omega)
    rw [p_od, p_oS, e1, e2, e3]
    have e4 : l6N (smN w k) + l6N (w k) = l6N (smN w (k + 1)) := l6_add _ _
    dsimp only
    rw [e4, l6_add]
    split
    · split
      · exact ⟨a, by rw [smN]; omega, rfl, rfl⟩
      · exact ⟨a + w k, by rw [smN]; omega, rfl, rfl⟩
    · exact ⟨a, by rw [smN]; omega, rfl, rfl⟩
theorem od_eq {wt : Nat → Int64} {al : Nat → Int32} {p : Int32} {w : Nat → Nat} {K : Nat} (hw : ∀ i, i < K → wt i = l6N (w i) ∧ w i ≤ 1000000) {T : Nat → Int64} (hT0 : T 0 = 0) (hT : ∀ k, k < K → T (k + 1) = T k + (if p_hb (al k) p = 0 then 0 else wt k)) : ∀ k, k ≤ K → (p_od wt al p k).1 = T k
  | 0, _ => hT0.symm
  | k + 1, hk => by
    obtain ⟨e3, h3⟩ := hw k (by omega)
    rw [p_od, p_oS, od_eq hw hT0 hT k (by omega), hT k (by omega)]
    dsimp only
    by_cases c : p_hb (al k) p = 0
    · rw [if_pos c, if_pos c, Int64.add_zero, ite_self]
    · rw [if_neg c, if_neg c]
      by_cases c2 : 0 < wt k
      · rw [if_pos c2]
      · have : wt k = 0 := by
          rw [e3] at c2 ⊢
          have : ¬ 0 < w k := fun q => c2 (by
            rw [Int64.lt_iff_toInt_lt, l6_toInt (by omega)]
            show (0 : Int) < _
            omega)
          rw [show w k = 0 by omega]; rfl
        rw [if_neg c2, this, Int64.add_zero]
/-! the greatest number that divides both -/
def gN : Nat → Nat → Nat → Nat
  | 0, a, _ => a
  | k + 1, a, b => if b = 0 then a else gN k b (a % b)
theorem gN_gcd : ∀ j a b, b < 2 ^ j → ∀ f, 2 * j + 1 ≤ f → gN f a b = Nat.gcd a b
  | 0, a, b, h, f, hf => by
    obtain ⟨f', rfl⟩ : ∃ f', f = f' + 1 := ⟨f - 1, by omega⟩
    have : b = 0 := by simpa using h
    rw [gN, if_pos this, this, Nat.gcd_zero_right]
  | j + 1, a, b, h, f, hf => by
    obtain ⟨f', rfl⟩ : ∃ f', f = f' + 1 + 1 := ⟨f - 2, by omega⟩
    rw [gN]
    by_cases c : b = 0
    · rw [if_pos c, c, Nat.gcd_zero_right]
    rw [if_neg c, gN]
    have e1 : Nat.gcd a b = Nat.gcd b (a % b) := by rw [Nat.gcd_comm, Nat.gcd_rec, Nat.gcd_comm]
    by_cases c2 : a % b = 0
    · rw [if_pos c2, e1, c2, Nat.gcd_zero_right]
    rw [if_neg c2, e1]
    have hr : a % b < b := Nat.mod_lt _ (by omega)
    have e2 : Nat.gcd b (a % b) = Nat.gcd (a % b) (b % (a % b)) := by rw [Nat.gcd_comm, Nat.gcd_rec, Nat.gcd_comm]
    rw [e2]
    refine gN_gcd j _ _ ?_ f' (by omega)
    have h2 : 2 ^ (j + 1) = 2 ^ j + 2 ^ j := by rw [Nat.pow_succ]; omega
    have hr2 : b % (a % b) < a % b := Nat.mod_lt _ (by omega)
    by_cases c3 : a % b ≤ 2 ^ j
    · omega
    · have : b % (a % b) = b - a % b := by
        rw [Nat.mod_eq_sub_mod (by omega), Nat.mod_eq_of_lt (by omega)]
      omega
theorem gd_gN {M : Nat} (hM : M < 2 ^ 62) : ∀ k a b, a < M → b < M → p_gd k (l6N a) (l6N b) = l6N (gN k a b)
  | 0, a, b, _, _ => rfl
  | k + 1, a, b, ha, hb => by
    have hb0 : l6N b = 0 ↔ b = 0 := l6_inj (b := 0) (by omega) (by omega)
    rw [p_gd, gN]
    by_cases c : b = 0
    · rw [if_pos (hb0.mpr c), if_pos c]
    · rw [if_neg (fun q => c (hb0.mp q)), if_neg c]
      have hmod : l6N a - l6N a / l6N b * l6N b = l6N (a % b) := by
        apply Int64.toInt_inj.mp
        have hd : (l6N a / l6N b).toInt = (a / b : Nat) := by
          rw [Int64.toInt_div, l6_toInt (by omega), l6_toInt (by omega)]
          have : (a : Int).tdiv (b : Int) = ((a / b : Nat) : Int) := by rw [Int.ofNat_tdiv]
          have hqa := Nat.div_le_self a b
          rw [this]
          generalize a / b = q at hqa ⊢
          rw [Int.bmod_eq_of_le (by omega) (by omega)]
        have hle := Nat.div_mul_le_self a b
        have hdm := Nat.div_add_mod a b
        have hmul : (l6N a / l6N b * l6N b).toInt = ((a / b * b : Nat) : Int) := by
          rw [Int64.toInt_mul, hd, l6_toInt (by omega), Int.bmod_eq_of_le]
          · rw [Int.natCast_mul]
          · have : (0 : Int) ≤ ((a / b : Nat) : Int) * (b : Int) := by rw [← Int.natCast_mul]; omega
            omega
          · rw [← Int.natCast_mul]; omega
        rw [Int64.toInt_sub, hmul, l6_toInt (by omega), l6_toInt (by have := Nat.mod_lt a (show b > 0 by omega); omega), Int.bmod_eq_of_le]
        · have : a % b = a - a / b * b := by rw [Nat.mul_comm] at hdm; omega
          omega
        · omega
        · omega
      rw [hmod]
      exact gd_gN hM k b (a % b) hb (by have := Nat.mod_lt a (show b > 0 by omega); omega)
theorem gcd_l6 {a b : Nat} (ha : a < 2 ^ 62) (hb : b < 2 ^ 62) : p_gcd (l6N a) (l6N b) = l6N (Nat.gcd a b) := by
  rw [p_gcd, l6_toInt (by omega), l6_toInt (by omega)]
  rfl
theorem m10_l6 : ∀ k, p_m10 k = l6N (10 ^ k)
  | 0 => rfl
  | k + 1 => by rw [p_m10, m10_l6 k, show (10 : Int64) = l6N 10 from rfl, l6_mul, Nat.pow_succ]
theorem p10_le : ∀ N, N ≤ 6 → 10 ^ N ≤ 1000000 ∧ 0 < 10 ^ N ∧ 2 ^ N ≤ 64 := by decide +kernel
theorem pu_odds {P n : Nat} {s st : Nat → Int32} {F : Nat → Nat → Int32} (h : BR P n s F st) (v p z : Int32) : r_odds s F v p z = r_modds st (nI P) n v p z := by
  have hn := h.1.2.2
  have h28 := p_2le n hn
  obtain ⟨p1, N, p2, p3, p4⟩ := h.2.2.1
  obtain ⟨t1, t2, t3⟩ := p10_le N p2
  have hNc : (s 15).toNatClampNeg = N := by rw [p1, p3, nI_clamp (by omega)]
  have hNm : (st 29).toNatClampNeg = N := by rw [p3, nI_clamp (by omega)]
  rw [r_odds, r_modds, h.1.1.1]
  by_cases c : v < 0 ∨ (10 : Int32) < v
  · rw [if_pos c]
    by_cases c3 : v < 0
    · rw [if_pos c3]
    · rw [if_neg c3, if_pos (c.resolve_left c3)]
  have cv1 : ¬ v < 0 := fun q => c (Or.inl q)
  have cv2 : ¬ (10 : Int32) < v := fun q => c (Or.inr q)
  rw [if_neg c, if_neg cv1, if_neg cv2]
  obtain ⟨V, hV0, eV⟩ := nI_of cv1
  have hV : V ≤ 10 := by rw [eV, show (10 : Int32) = nI 10 from rfl, nI_ltI (by omega) hV0] at cv2; omega
  by_cases c2 : p_in (nI P) p = 0
  · rw [if_pos c2, if_pos c2]
  rw [if_neg c2, if_neg c2]
  by_cases c3 : z < 0 ∨ (1 : Int32) < z
  · rw [if_pos c3]
    by_cases c4 : z < 0
    · rw [if_pos c4]
    · rw [if_neg c4, if_pos (c3.resolve_left c4)]
  rw [if_neg c3, if_neg (fun q => c3 (Or.inl q)), if_neg (fun q => c3 (Or.inr q))]
  have hw : ∀ i, i < 2 ^ N → p_oW s v i = l6N (wtN V i N) ∧ wtN V i N ≤ 1000000 := fun i hi => by
    refine ⟨?_, Nat.le_trans (wtN_le hV i N) t1⟩
    show p_wt v (nI i) (s 15).toNatClampNeg = _
    rw [hNc, eV]
    exact wt_l6 hV (by omega) N (by omega)
  obtain ⟨a, ha, e1, e2⟩ := od_loop (al := p_oA s F) (p := p) hw (2 ^ N) (Nat.le_refl _) t3
  rw [wt_sum hV N] at ha e2
  have hq : p_oq s F v p = p_od (p_oW s v) (p_oA s F) p (2 ^ N) := by rw [p_oq, hNc]
  have hT : (p_od (p_oW s v) (p_oA s F) p (2 ^ N)).1 = p_moT st n v p := by
    have key := od_eq (al := p_oA s F) (p := p) hw (T := p_mot (fun i => st (2 + i)) (fun i => st (10 + i)) (fun i => st (18 + i)) (fun i => st (30 + i)) n (st 0) (st 26) (st 27) (st 1) (st 28).toNatClampNeg v p N) rfl (fun k hk => by
      rw [p_mot, mo_w]
      obtain ⟨H, hH, i1, i2, _⟩ := ap_loop h v (nI k) p3 p2 N (Nat.le_refl N)
      have hal : p_oA s F k = p_lb (fun i => st (2 + i)) (fun i => st (10 + i)) n (st 0) (st 26) (nI H) := by
        show (p_ap s F (nI k) (s 15).toNatClampNeg).2 = _
        rw [hNc, i1]
      have hwk : p_oW s v k = p_wt v (nI k) N := by
        show p_wt v (nI k) (s 15).toNatClampNeg = _
        rw [hNc]
      rw [i2, hal, hwk]) (2 ^ N) (Nat.le_refl _)
    rw [key, p_moT, hNm]
  have hg : p_gd 100 (l6N (10 ^ N)) (l6N a) = l6N (Nat.gcd (10 ^ N) a) := by
    rw [gd_gN (M := 1000001) (by decide) 100 (10 ^ N) a (by omega) (by omega), gN_gcd 20 (10 ^ N) a (by omega) 100 (by decide)]
  have hgm : p_gcd (l6N (10 ^ N)) (l6N a) = l6N (Nat.gcd (10 ^ N) a) := gcd_l6 (by omega) (by omega)
  have hpos : 0 < Nat.gcd (10 ^ N) a := Nat.gcd_pos_of_pos_left a t2
  have hle : Nat.gcd (10 ^ N) a ≤ 10 ^ N := Nat.gcd_le_left a t2
  have hW : p_moW st = l6N (10 ^ N) := by rw [p_moW, hNm, m10_l6]
  rw [hq, ← hT, hW, e1, e2, hg, hgm, if_neg (fun q => by
    have := (l6_inj (b := 0) (by omega) (by omega)).mp q
    omega)]

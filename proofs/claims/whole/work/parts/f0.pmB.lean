/-! ===== class and model: fewest ===== -/
theorem it_0 (nd : Nat → Int32) {n : Nat} (hn : n ≤ 8) : ∀ k, p_it nd n 0 (nI 0) k = nI 0
  | 0 => rfl
  | k + 1 => by
    rw [p_it, it_0 nd hn k, p_st, ga_0 nd n hn]
    decide
theorem LB_h0 {g : Nat → Int32} {n h0 : Nat} (hn : n ≤ 8) (hh : h0 < 2 ^ n) (e : g 26 = nI h0) : gLB g n h0 = g 0 := by
  have h28 := p_2le n hn
  have z : dN h0 h0 = 0 := sub_dN (by omega) (fun i hi => hi)
  rw [gLB, p_LB, p_lb, e, dN_nI (by omega) (by omega), z, p_fw, it_0 _ hn 8, ga_0 _ n hn]
  exact Int32.or_zero
theorem any_no {mk lb : Nat → Int32} {p : Int32} : ∀ m, (∀ k, k < m → mk k = 0 ∨ p_hb (lb k) p = 0) → p_any mk lb p m = 0
  | 0, _ => rfl
  | m + 1, h => by
    have ih := any_no (mk := mk) (lb := lb) (p := p) m (fun k hk => h k (by omega))
    rw [p_any, ih]
    by_cases c : mk m = 0
    · rw [if_pos c]
    · rw [if_neg c, if_pos ((h m (by omega)).resolve_left c)]
/-- what a set of struck wishes leaves -/
theorem few_c {P n d h0 l k : Nat} {s g : Nat → Int32} {F : Nat → Nat → Int32} {p : Int32} {pr : Nat → Int32} (h : BR P n s F g) (hh : h0 < 2 ^ n) (hl : l < 2 ^ n) (hk : k < 2 ^ n) (hp : ∀ w, w < n → ∃ q : Nat, q ≤ 9 ∧ pr w = nI q) : p_cO (gAS g n d (nI l ||| nI k)) pr (gLB g n) h0 n p = -4 ↔ p_any (p_mk (aSt (gAS g n d (nI l)) (nI k)) h0 n (2 ^ n)) (gLB g n) p (2 ^ n) = 0 := by
  have hn := h.1.2.2
  have h28 := p_2le n hn
  rw [cO_any (gAS_up h) h28 hh hp, p_mk_congr (AS := gAS g n d (nI l ||| nI k)) (AS' := aSt (gAS g n d (nI l)) (nI k)) (fun a w hw => AS_strike (by omega) (by omega) a (by omega))]
theorem few_ex {P n d h0 l : Nat} {s g : Nat → Int32} {F : Nat → Nat → Int32} {p : Int32} (h : BR P n s F g) (hh : h0 < 2 ^ n) (e : g 26 = nI h0) (hl : l < 2 ^ n) (hp : p_hb (g 0) p = 0) : ∃ k, k < 2 ^ n ∧ nI k &&& nI l = 0 ∧ p_any (p_mk (aSt (gAS g n d (nI l)) (nI k)) h0 n (2 ^ n)) (gLB g n) p (2 ^ n) = 0 := by
  have hn := h.1.2.2
  have h28 := p_2le n hn
  have hp2 : 0 < 2 ^ n := Nat.pow_pos (by decide)
  have hkl : dN (2 ^ n - 1) l < 2 ^ n := dN_lt (by omega)
  have hb : ∀ i, (dN (2 ^ n - 1) l).testBit i = true ↔ i < n ∧ ¬ l.testBit i = true := fun i => by
    rw [dN_bit (by omega), Nat.testBit_two_pow_sub_one]
    simp
  refine ⟨dN (2 ^ n - 1) l, hkl, ?_, ?_⟩
  · rw [and_nI]
    have : dN (2 ^ n - 1) l &&& l = 0 := by
      apply Nat.eq_of_testBit_eq
      intro i
      rw [Nat.zero_testBit, Nat.testBit_and]
      cases c : l.testBit i with
      | false => rw [Bool.and_false]
      | true =>
        rw [Bool.and_true]
        cases c2 : (dN (2 ^ n - 1) l).testBit i with
        | false => rfl
        | true => exact absurd c ((hb i).mp c2).2
    rw [this]
    rfl
  · have hno : ∀ a w, w < n → aSt (gAS g n d (nI l)) (nI (dN (2 ^ n - 1) l)) a w = -4 := fun a w hw => by
      unfold aSt
      rw [hb_nI _ (by omega) w (by omega)]
      by_cases c : l.testBit w = true
      · rw [if_neg (fun q => ((hb w).mp q).2 c), if_pos rfl, gAS, p_AS, p_as, p_re, hb_nI l (by omega) w (by omega), if_pos c, if_neg d10, if_neg d10]
        split <;> rfl
      · rw [if_pos ((hb w).mpr ⟨hw, c⟩), if_neg d10]
    refine any_no (2 ^ n) (fun k hk => ?_)
    rcases p_mk_01 (aSt (gAS g n d (nI l)) (nI (dN (2 ^ n - 1) l))) h0 n (2 ^ n) k with q | q
    · exact Or.inl q
    · have ek := p_mk_ind (aSt_up (gAS_up h) _) h28 (fun j => j = h0) rfl (fun a w b _ hw _ hab hbN => by
        rw [hno a w hw] at hab
        exact absurd hab.symm (nI_n4 (by omega))) (2 ^ n) (Nat.le_refl _) k q
      rw [ek, LB_h0 hn hh e]
      exact Or.inr hp
theorem pu_few {P n : Nat} {s ms : Nat → Int32} {F A : Nat → Nat → Int32} {p z v : Int32} (h : BR P n s F (A 1)) (hp : Bq n (F 2) (A 4)) (hm2 : ms 2 = nI P) (hm : ms 3 = nI n) (hv : q_few (p_AS (F 3) (F 4) (F 5) (s 1).toNatClampNeg (s 3) (s 5) (s 4) (s 2).toNatClampNeg (s 6)) (p_LB (F 3) (F 4) (s 1).toNatClampNeg (s 3) (s 5)) (F 6) (s 0) (s 3) (s 6) (s 1).toNatClampNeg (s 5).toNatClampNeg p z v) : v = r_mfe ms A p z := by
  have hn := h.1.2.2
  have h28 := p_2le n hn
  obtain ⟨h0, d, l, e1, e2, e3, e4, e5, e6⟩ := md_e h
  have z5 : (s 5).toNatClampNeg = h0 := by rw [h.2.1.2.2.2.1.1, e2, nI_clamp (by omega)]
  have z2 : (s 2).toNatClampNeg = d := by rw [h.2.1.1.1, e4, nI_clamp (by omega)]
  have zm : (A 1 26).toNatClampNeg = h0 := by rw [e2, nI_clamp (by omega)]
  have zd : (A 1 28).toNatClampNeg = d := by rw [e4, nI_clamp (by omega)]
  have zn : (ms 3).toNatClampNeg = n := by rw [hm, nI_clamp (by omega)]
  have el : s 6 = nI l := by rw [h.2.1.2.2.2.2.1, e6]
  rw [BRn h, z5, z2, cAS_eq h, cLB_eq h, q_few, h.1.1.1, h.2.1.2.1.1, el] at hv
  rw [r_mfe, hm2]
  by_cases c : p_in (nI P) p = 0
  · rw [if_pos c]; exact hv.1 (Or.inl c)
  rw [if_neg c]
  by_cases cz : z < 0 ∨ 1 < z
  · rw [if_pos cz]; exact hv.1 (Or.inr cz)
  rw [if_neg cz]
  have hv2 := hv.2 (fun q => q.elim c cz)
  by_cases c2 : p_hb (A 1 0) p = 0
  rotate_left
  · rw [if_neg c2]; exact hv2.1 c2
  rw [if_pos c2]
  obtain ⟨mv, al, hC, rfl⟩ := hv2.2 c2
  have hC : CHt (gAS (A 1) n d (nI l)) (gLB (A 1) n) h0 n mv al := by
    rw [e6] at hC
    exact hC
  obtain ⟨cc, hcc⟩ : ∃ cc : Nat → Int32, cc = fun k => mdCO ms A p (A 1 28) (A 1 27 ||| nI k) := ⟨_, rfl⟩
  have hck : ∀ k, k < 2 ^ n → (cc k = -4 ↔ p_any (p_mk (aSt (gAS (A 1) n d (nI l)) (nI k)) h0 n (2 ^ n)) (gLB (A 1) n) p (2 ^ n) = 0) := fun k hk => by
    have q := few_c (d := d) (p := p) h e1 e5 hk (fun w hw => (hp w hw).2)
    rw [← q, hcc]
    show mdCO ms A p (A 1 28) (A 1 27 ||| nI k) = -4 ↔ _
    rw [mdCO, mdAS, mdLB, zm, zd, zn, e6]
    exact Iff.rfl
  rw [← hcc, zn, e6]
  obtain ⟨k0, k1, k2, k3⟩ := few_ex (d := d) h e1 e2 e5 c2
  have hfe := fe_char (c := cc) (li := nI l) (good := fun k => nI k &&& nI l = 0 ∧ cc k = -4) (b := bN) (N := 2 ^ n) (fun k _ => Iff.rfl) (fun k hk => ⟨bN_8 k (by omega), bo_bN k (by omega)⟩) (2 ^ n) (Nat.le_refl _)
  rcases hfe with ⟨no, _⟩ | ⟨j, hj, ej⟩
  · exact absurd ⟨k2, (hck k0 k1).mpr k3⟩ (no k0 k1)
  have hjn : bN j ≤ n := by
    obtain ⟨f1, f2⟩ := bN_full n hn
    have hs : sub8 j (2 ^ n - 1) := fun i hi => by
      rw [Nat.testBit_two_pow_sub_one]
      exact decide_eq_true (bit_lt hj.1 hi)
    have hj1 := hj.1
    rcases bN_sub j (by omega) _ f2 (sub_dN (by omega) hs) with q | q
    · rw [q]; omega
    · omega
  have hls := lsO_char (T := p_lsT mv al (F 6) (nI l) p n h0 (2 ^ n)) (n := n) (fun zz k hz hk => by
    have e : p_ldr mv al (F 6) (nI k) p n h0 (2 ^ n) = 0 ↔ cc k = -4 := by
      rw [hck k hk, ldr_sem (bOK_of h e1 e2) (gAS_up h) (gAS_ed h) hC (by omega)]
    have e' : p_bc (nI k) = nI zz ↔ bN k = zz := by
      have := bN_8 k (by omega)
      rw [bc_bo k (by omega), bo_bN k (by omega)]
      exact nI_eq (by omega) (by omega)
    rw [p_lsT]
    show _ ↔ (nI k &&& nI l = 0 ∧ cc k = -4) ∧ bN k = zz
    rw [← e, ← e']
    by_cases q1 : nI k &&& nI l = 0
    · rw [if_pos q1]
      by_cases q2 : p_bc (nI k) = nI zz
      · rw [if_pos q2]
        by_cases q3 : p_ldr mv al (F 6) (nI k) p n h0 (2 ^ n) = 0
        · rw [if_pos q3]; exact ⟨fun _ => ⟨⟨q1, q3⟩, q2⟩, fun _ => rfl⟩
        · rw [if_neg q3]; exact ⟨fun q => absurd q (by decide), fun q => absurd q.1.2 q3⟩
      · rw [if_neg q2]; exact ⟨fun q => absurd q (by decide), fun q => absurd q.2 q2⟩
    · rw [if_neg q1]; exact ⟨fun q => absurd q (by decide), fun q => absurd q.1.1 q1⟩) h28 hj hjn
  have hj1 := hj.1
  rw [hls, ej, p_ss, if_neg (by rw [← nI_0, nI_ltI (by omega) (by omega)]; omega), bc_bo j (by omega), bo_bN j (by omega)]
  by_cases cz1 : z = 0
  · rw [if_pos cz1, if_neg (by rw [cz1]; decide)]
  · rw [if_neg cz1, if_pos ?_]
    have h1 : ¬ z < 0 := fun q => cz (Or.inl q)
    have h2 : ¬ 1 < z := fun q => cz (Or.inr q)
    rw [Int32.lt_iff_toInt_lt] at h1 h2
    have z0 : (0 : Int32).toInt = 0 := rfl
    have z1 : (1 : Int32).toInt = 1 := rfl
    rw [z0] at h1
    rw [z1] at h2
    apply Int32.toInt_inj.mp
    rw [z1]
    have : z.toInt ≠ 0 := fun q => cz1 (Int32.toInt_inj.mp (by rw [q]; rfl))
    omega

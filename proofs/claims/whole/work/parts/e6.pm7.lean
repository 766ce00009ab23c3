/-! ===== class and model: by a seed; what fits ===== -/
theorem m15 : ∀ i, i < 32 → (32767#32).getLsbD i = decide (i < 15) := by decide +kernel
theorem ush_eq (x : Int32) : p_ush x 16 &&& 32767 = (x >>> ((16 : Int32) &&& 31)) &&& 32767 := by
  apply Int32.toBitVec_inj.1
  have e1 : (p_ush x 16 &&& 32767).toBitVec = (x.toBitVec >>> 16) &&& 32767#32 := rfl
  have e2 : ((x >>> ((16 : Int32) &&& 31)) &&& 32767).toBitVec = (x.toBitVec.sshiftRight 16) &&& 32767#32 := rfl
  rw [e1, e2]
  apply BitVec.eq_of_getLsbD_eq
  intro i hi
  rw [BitVec.getLsbD_and, BitVec.getLsbD_and, m15 i hi, BitVec.getLsbD_ushiftRight, BitVec.getLsbD_sshiftRight]
  by_cases c : i < 15
  · have h1 : 16 + i < 32 := by omega
    have h2 : ¬ 32 ≤ i := by omega
    simp [h1, h2]
  · simp [c]
theorem ww_eq (x y : Int32) : p_ww x y = p_mwr y x := by rw [p_ww, p_mwr, ush_eq]
theorem wild_loop {P n : Nat} {s st : Nat → Int32} {F : Nat → Nat → Int32} (h : BR P n s F st) (h0 : 0 < n) (x : Int32) : ∀ k, ∃ a b c d, p_wq s F x k = (d, a, b, c) ∧ p_mw (fun i => st (2 + i)) (fun i => st (10 + i)) (fun i => st (18 + i)) (nI n) n (st 27) (st 1) (st 28).toNatClampNeg (st 26) (st 0) x k = (a, b, c, d) := by
  intro k
  induction k with
  | zero => exact ⟨s 5, s 3, 0, x, rfl, by rw [p_mw, h.2.1.2.2.2.1.1, h.2.1.2.1.1]⟩
  | succ k ih =>
    obtain ⟨a, b, c, d, e1, e2⟩ := ih
    have hq : p_wq s F x (k + 1) = p_wS (F 3) (F 4) (F 5) (F 6) (F 7) (s 1).toNatClampNeg (s 6) (s 4) (s 2).toNatClampNeg (s 1) (p_wq s F x k) := rfl
    rw [hq, p_mw, e1, e2, p_wS, p_mwS]
    dsimp only
    have hw : p_ww (p_nx d) (s 1) = p_mwr (nI n) (d * 1103515245 + 12345) := by rw [ww_eq, h.1.2.1]; rfl
    have hre := reB_eq h (p_mwr (nI n) (d * 1103515245 + 12345)) a b
    unfold p_reB at hre
    obtain ⟨j, hj, ej⟩ := p_ww_in (p_nx d) h0 h.1.2.2
    have hwj : p_mwr (nI n) (d * 1103515245 + 12345) = nI j := by rw [← hw, h.1.2.1]; exact ej
    have hn := h.1.2.2
    rw [hw, hre, hwj, nI_clamp (by omega), BR6 h j hj, BR7 h j hj, BRn h, ro_tk (BR6 h) n (Nat.le_refl n)]
    by_cases c1 : p_hb a (nI j) = 0
    · rw [if_pos c1, if_pos c1]
      by_cases c2 : p_re (fun i => st (2 + i)) (fun i => st (10 + i)) (fun i => st (18 + i)) n (st 27) (st 1) (nI j) a b (st 28).toNatClampNeg = 0
      · rw [if_pos c2, if_pos c2]
        exact ⟨_, _, _, _, rfl, rfl⟩
      · rw [if_neg c2, if_neg c2]
        exact ⟨_, _, _, _, rfl, rfl⟩
    · rw [if_neg c1, if_neg c1]
      exact ⟨_, _, _, _, rfl, rfl⟩
theorem pu_wild {P n : Nat} {s st : Nat → Int32} {F : Nat → Nat → Int32} (h : BR P n s F st) (x k z : Int32) : r_wild s F x k z = r_mwild st (nI n) x k z := by
  have hn := h.1.2.2
  rw [r_wild, r_mwild]
  by_cases c1 : k < 1
  · rw [if_pos c1, if_pos c1]
  rw [if_neg c1, if_neg c1]
  by_cases c2 : (60 : Int32) < k
  · rw [if_pos c2, if_pos c2]
  rw [if_neg c2, if_neg c2]
  by_cases c : z < 0 ∨ (1 : Int32) < z
  · rw [if_pos c]
    by_cases c3 : z < 0
    · rw [if_pos c3]
    · rw [if_neg c3, if_pos (c.resolve_left c3)]
  rw [if_neg c, if_neg (fun q => c (Or.inl q)), if_neg (fun q => c (Or.inr q)), h.1.2.1]
  by_cases c4 : nI n = 0
  · rw [if_pos c4, c4, if_neg (by decide)]
  · have h0 : 0 < n := by
      rcases Nat.eq_zero_or_pos n with q | q
      · exact absurd (by rw [q]; rfl) c4
      · exact q
    rw [if_neg c4, if_pos (show (0 : Int32) < nI n from nI_lt (a := 0) h0 (by omega))]
    obtain ⟨a, b, c, d, e1, e2⟩ := wild_loop h h0 x k.toNatClampNeg
    have e3 : p_mwq st (nI n) x k = (a, b, c, d) := by rw [p_mwq, nI_clamp (by omega)]; exact e2
    rw [e1, e3]
/-! fits -/
theorem hb_sh : ∀ A, A < 256 → ∀ j, j < 8 → (nI A >>> (nI j &&& 31)) &&& 1 = p_hb (nI A) (nI j) := by decide +kernel
theorem dN_or (x y A : Nat) : dN (x ||| y) A = dN x A ||| dN y A := by
  unfold dN
  rw [Nat.and_or_distrib_right]
theorem or_0 {a b : Nat} : a ||| b = 0 ↔ a = 0 ∧ b = 0 := by
  constructor
  · intro h
    have h1 : a ≤ a ||| b := Nat.left_le_or
    have h2 : b ≤ a ||| b := Nat.right_le_or
    omega
  · rintro ⟨rfl, rfl⟩; rfl
theorem bit_0 : ∀ A, A < 256 → ∀ j, j < 8 → (dN (2 ^ j) A = 0 ↔ p_hb (nI A) (nI j) = 1) ∧ (2 ^ j &&& A = 0 ↔ p_hb (nI A) (nI j) = 0) := by decide +kernel
theorem so_lt {so : Nat → Int32} {sa z : Int32} : ∀ k, (∀ i, i < k → ∃ j : Nat, j < 8 ∧ so i = nI j) → lt8 (p_so so sa z k)
  | 0, _ => lt8_0
  | k + 1, h => by
    have ih := so_lt (so := so) (sa := sa) (z := z) k (fun i hi => h i (by omega))
    rw [p_so]
    split
    · obtain ⟨j, hj, e⟩ := h k (by omega)
      rw [e]
      exact lt8_or ih (lt8_bit hj)
    · exact ih
theorem hb_z1 (x i : Int32) : p_hb x i = 0 ∨ p_hb x i = 1 := by
  unfold p_hb
  split
  · exact Or.inl rfl
  · exact Or.inr rfl
theorem fit_iff {so st : Nat → Int32} {sa : Int32} {A : Nat} (hA : A < 256) : ∀ k, (∀ i, i < k → so i = st (37 + 2 * i) ∧ (∃ j : Nat, j < 8 ∧ st (37 + 2 * i) = nI j) ∧ st (38 + 2 * i) = p_hb sa (nI i)) → ((p_so so sa 1 k &&& (nI A ^^^ (-1)) = 0 ∧ p_so so sa 0 k &&& nI A = 0) ↔ ¬ p_mso st (nI A) k = 0)
  | 0, _ => by
    rw [p_so, p_so, p_mso]
    exact ⟨fun _ => d10, fun _ => ⟨Int32.zero_and, Int32.zero_and⟩⟩
  | k + 1, h => by
    have ih := fit_iff (so := so) (st := st) (sa := sa) hA k (fun i hi => h i (by omega))
    obtain ⟨h1, ⟨j, hj, h2⟩, h3⟩ := h k (by omega)
    have hso : ∀ i, i < k → ∃ j : Nat, j < 8 ∧ so i = nI j := fun i hi => by
      obtain ⟨a, ⟨b, hb, c⟩, _⟩ := h i (by omega)
      exact ⟨b, hb, a.trans c⟩
    obtain ⟨x1, hx1, e1⟩ := so_lt (so := so) (sa := sa) (z := 1) k hso
    obtain ⟨x0, hx0, e0⟩ := so_lt (so := so) (sa := sa) (z := 0) k hso
    have hp2 := p2_lt8 hj
    have l31 : ∀ {a b : Nat}, a < 256 → a &&& b < 2 ^ 31 := fun ha => Nat.lt_of_le_of_lt Nat.and_le_left (by omega)
    have ld : ∀ {a b : Nat}, a < 256 → dN a b < 2 ^ 31 := fun ha => l31 ha
    rw [p_so, p_so, p_mso, e1, e0, h1, h2, h3, p_2n j (by omega), lt8_orI, lt8_orI, hb_sh A hA j hj]
    rw [e1, e0, dN_nI hx1 hA, and_nI, nI_0' (ld hx1), nI_0' (l31 hx0)] at ih
    obtain ⟨t1, t2⟩ := bit_0 A hA j hj
    rcases hb_z1 sa (nI k) with c | c
    · rw [c, if_neg (by decide), if_pos rfl, dN_nI hx1 hA, and_nI, nI_0' (ld hx1), nI_0' (l31 (or_lt8 hx0 hp2)), Nat.and_or_distrib_right, or_0, t2]
      by_cases c2 : p_mso st (nI A) k = 0
      · rw [if_pos c2]
        refine ⟨fun q => absurd c2 (ih.mp ⟨q.1, q.2.1⟩), fun q => absurd rfl q⟩
      · rw [if_neg c2]
        have i2 := ih.mpr c2
        by_cases c3 : p_hb (nI A) (nI j) = 0
        · rw [if_pos c3]; exact ⟨fun _ => d10, fun _ => ⟨i2.1, i2.2, c3⟩⟩
        · rw [if_neg c3]; exact ⟨fun q => absurd q.2.2 c3, fun q => absurd rfl q⟩
    · rw [c, if_pos rfl, if_neg (by decide), dN_nI (or_lt8 hx1 hp2) hA, and_nI, nI_0' (ld (or_lt8 hx1 hp2)), nI_0' (l31 hx0), dN_or, or_0, t1]
      by_cases c2 : p_mso st (nI A) k = 0
      · rw [if_pos c2]
        refine ⟨fun q => absurd c2 (ih.mp ⟨q.1.1, q.2⟩), fun q => absurd rfl q⟩
      · rw [if_neg c2]
        have i2 := ih.mpr c2
        by_cases c3 : p_hb (nI A) (nI j) = 1
        · rw [if_pos c3]; exact ⟨fun _ => d10, fun _ => ⟨⟨i2.1, c3⟩, i2.2⟩⟩
        · rw [if_neg c3]; exact ⟨fun q => absurd q.1.2 c3, fun q => absurd rfl q⟩
theorem fits_loop {P n : Nat} {s st : Nat → Int32} {F : Nat → Nat → Int32} (h : BR P n s F st) : ∀ k, k ≤ 2 ^ n → p_fs (F 7) n (s 3) (p_so (F 9) (s 17) 1 (s 18).toNatClampNeg) (p_so (F 9) (s 17) 0 (s 18).toNatClampNeg) k = p_mfs st n k ∧ ∃ c : Nat, c ≤ k ∧ (p_mfs st n k).1 = nI c ∧ (c = 0 → (p_mfs st n k).2.1 = -4) ∧ (0 < c → ¬ (p_mfs st n k).2.1 < 0) := by
  have hn := h.1.2.2
  have h28 := p_2le n hn
  obtain ⟨z1, z0, S, z2, z3, z4⟩ := h.2.2.2.1
  have hS : (s 18).toNatClampNeg = S := by rw [z1, z3, nI_clamp (by omega)]
  intro k
  induction k with
  | zero => intro _; exact ⟨rfl, 0, Nat.le_refl 0, rfl, fun _ => rfl, fun q => absurd q (by decide)⟩
  | succ k ih =>
    intro hk
    obtain ⟨i1, c, i2, i3, i4, i5⟩ := ih (by omega)
    rw [p_fs, p_mfs, i1, p_fS, p_mfS, ga_wa h (by omega), h.2.1.2.1.1, hS]
    have hal : lt8 (st 0 ||| p_ga (fun i => st (2 + i)) n (p_fw (fun i => st (10 + i)) n (nI k))) := lt8_or h.2.1.2.1.2 (p_ga_lt8 (BRon h) _)
    obtain ⟨A, hA, eA⟩ := hal
    have hiff := fit_iff (so := F 9) (st := st) (sa := s 17) hA S z4
    have hmis : p_mis st n (nI k) = p_mso st (nI A) S := by rw [p_mis, eA, z3, nI_clamp (by omega)]
    rw [eA, hmis]
    obtain ⟨Q, hQ⟩ : ∃ Q, Q = p_mfs st n k := ⟨_, rfl⟩
    rw [← hQ] at i3 i4 i5 ⊢
    obtain ⟨q1, q2, q3, q4⟩ := Q
    by_cases cc : p_mso st (nI A) S = 0
    · rw [if_pos cc, if_neg (fun q => hiff.mp q cc)]
      exact ⟨rfl, c, by omega, i3, i4, i5⟩
    · rw [if_neg cc, if_pos (hiff.mpr cc)]
      dsimp only at i3 i4 i5 ⊢
      have hc0 : (q1 = 0) ↔ c = 0 := by rw [i3]; exact nI_0' (by omega)
      have hlt : (q2 < 0) ↔ c = 0 := by
        constructor
        · intro q
          rcases Nat.eq_zero_or_pos c with r | r
          · exact r
          · exact absurd q (i5 r)
        · intro q; rw [i4 q]; decide
      refine ⟨?_, c + 1, by omega, by rw [i3, nI_1], fun q => by omega, fun _ => ?_⟩
      · by_cases c3 : c = 0
        · rw [if_pos (hlt.mpr c3), if_pos (hc0.mpr c3)]
        · rw [if_neg (fun q => c3 (hlt.mp q)), if_neg (fun q => c3 (hc0.mp q))]
      · by_cases c3 : q1 = 0
        · rw [if_pos c3]; exact nI_pos (by omega)
        · rw [if_neg c3]; exact i5 (Nat.pos_of_ne_zero (fun q => c3 (hc0.mpr q)))
theorem pu_fits {P n : Nat} {s st : Nat → Int32} {F : Nat → Nat → Int32} (h : BR P n s F st) (z : Int32) : r_fits s F z = r_mfits st n z := by
  have hn := h.1.2.2
  obtain ⟨i1, c, i2, i3, i4, i5⟩ := fits_loop h (2 ^ n) (Nat.le_refl _)
  have hq : p_fq s F = p_mfs st n (2 ^ n) := by rw [p_fq, BRn h]; exact i1
  rw [r_fits, r_mfits, hq, h.1.2.1]
  by_cases c1 : z < 0 ∨ (3 : Int32) < z
  · rw [if_pos c1]
    by_cases c3 : z < 0
    · rw [if_pos c3]
    · rw [if_neg c3, if_pos (c1.resolve_left c3)]
  rw [if_neg c1, if_neg (fun q => c1 (Or.inl q)), if_neg (fun q => c1 (Or.inr q))]
  by_cases c2 : z = 0
  · rw [if_pos c2, if_pos c2]
  rw [if_neg c2, if_neg c2]
  by_cases c3 : (p_mfs st n (2 ^ n)).1 = 0
  · rw [if_pos c3, if_pos c3]
    have h28 := p_2le n hn
    exact i4 (by rw [i3] at c3; exact (nI_0' (by omega)).mp c3)
  · rw [if_neg c3, if_neg c3]

/-! ===== class and model: images, sheets ===== -/
theorem BR_F {P n : Nat} {s g : Nat → Int32} {F F' : Nat → Nat → Int32} (h : BR P n s F g) (h8 : ∀ i, i < 6 → F' 8 i = F 8 i) (hF : ∀ k, k ≠ 8 → ∀ i, i < 8 → F' k i = F k i) : BR P n s F' g := by
  obtain ⟨ha, hv, ⟨p1, N, p2, p3, p4⟩, ⟨z1, z0, S, z2, z3, z4⟩, hw⟩ := h
  refine ⟨ha, hv, ⟨p1, N, p2, p3, fun i hi => ?_⟩, ⟨z1, z0, S, z2, z3, fun i hi => ?_⟩, fun i hi => ?_⟩
  · rw [h8 i (by omega)]; exact p4 i hi
  · rw [hF 9 (by decide) i (by omega)]; exact z4 i hi
  · have hn := ha.2.2
    rw [hF 3 (by decide) i (by omega), hF 4 (by decide) i (by omega), hF 5 (by decide) i (by omega), hF 6 (by decide) i (by omega), hF 7 (by decide) i (by omega)]
    exact hw i hi
theorem BR_g {P n : Nat} {s g g' : Nat → Int32} {F : Nat → Nat → Int32} (h : BR P n s F g) (hg : ∀ j, j < 53 → g' j = g j) : BR P n s F g' := by
  obtain ⟨ha, ⟨v1, v2, v3, v4, v5⟩, hp, hz, hw⟩ := h
  refine ⟨ha, ⟨?_, ?_, ?_, ?_, ?_⟩, Bp_g (s' := s) hp rfl (fun j h1 h2 => hg j (by omega)), Bz_g (s' := s) hz rfl rfl (fun j h1 h2 => hg j (by omega)), Bw_g ha.2.2 hw (fun j h1 h2 => hg j (by omega))⟩
  · rw [hg 28 (by omega)]; exact v1
  · rw [hg 0 (by omega)]; exact v2
  · rw [hg 1 (by omega)]; exact v3
  · rw [hg 26 (by omega)]; exact v4
  · rw [hg 27 (by omega)]; exact v5
theorem cpB_8 (F G : Nat → Nat → Int32) {i : Nat} (hi : i < 6) : p_cpB F G 8 i = G 8 i := by
  rw [p_cpB, if_pos rfl, va_cpy, if_pos ⟨Nat.zero_le _, by omega⟩, Nat.sub_zero, Nat.zero_add]
theorem cpB_k (F G : Nat → Nat → Int32) {k i : Nat} (hk : k ≠ 8) (hi : i < 8) : p_cpB F G k i = G k i := by
  rw [p_cpB, if_neg hk, va_cpy, if_pos ⟨Nat.zero_le _, by omega⟩, Nat.sub_zero, Nat.zero_add]
theorem BR_cp {P n : Nat} {s g : Nat → Int32} {F G : Nat → Nat → Int32} (h : BR P n s F g) : BR P n s (p_cpB G F) g := BR_F h (fun i hi => cpB_8 G F hi) (fun k hk i hi => cpB_k G F hk hi)
/-- an image tells what the model's copy tells -/
def IR (P n : Nat) (ke : Nat → Int32) (k : Nat) (sk : Nat → Int32) (Fk : Nat → Nat → Int32) (st ye pr : Nat → Int32) : Prop := ¬ ke k = 0 → BR P n sk Fk (fun j => st (53 * (k + 1) + j)) ∧ ∀ i, i < n → Fk 1 i = ye i ∧ Fk 2 i = pr i
theorem kr_1 : ∀ K, K < 4 → (((nI K >>> ((0 : Int32) &&& 31)) &&& 1 = if p_hb (nI K) 0 = 0 then 0 else 1) ∧ ((nI K >>> ((1 : Int32) &&& 31)) &&& 1 = if p_hb (nI K) 1 = 0 then 0 else 1)) ∧ ((nI K ||| ((1 : Int32) <<< ((0 : Int32) &&& 31)) = nI (K ||| 1) ∧ p_hb (nI (K ||| 1)) 0 = 1 ∧ p_hb (nI (K ||| 1)) 1 = p_hb (nI K) 1 ∧ K ||| 1 < 4) ∧ (nI K ||| ((1 : Int32) <<< ((1 : Int32) &&& 31)) = nI (K ||| 2) ∧ p_hb (nI (K ||| 2)) 1 = 1 ∧ p_hb (nI (K ||| 2)) 0 = p_hb (nI K) 0 ∧ K ||| 2 < 4)) := by decide +kernel
theorem lt2 {k : Int32} (h1 : ¬ k < 0) (h2 : ¬ (1 : Int32) < k) : k = 0 ∨ k = 1 := by
  obtain ⟨j, hj, e⟩ := nI_of h1
  rw [e, show (1 : Int32) = nI 1 from rfl, nI_ltI (by omega) hj] at h2
  rcases (show j = 0 ∨ j = 1 by omega) with q | q
  · exact Or.inl (by rw [e, q]; rfl)
  · exact Or.inr (by rw [e, q]; rfl)
theorem nlt2 {k : Int32} (h : k < 0 ∨ (1 : Int32) < k) : ¬ k < 0 → ¬ k < 2 := by
  intro h1 h2
  rcases h with h | h
  · exact h1 h
  · obtain ⟨j, hj, e⟩ := nI_of h1
    rw [e, show (1 : Int32) = nI 1 from rfl, nI_ltI (by omega) hj] at h
    rw [e, show (2 : Int32) = nI 2 from rfl, nI_ltI hj (by omega)] at h2
    omega
theorem pu_keep {P n : Nat} {s s0 s1 st ke ye pr : Nat → Int32} {F F0 F1 : Nat → Nat → Int32} {y7 : Int32} (h : BR P n s F st) (hy : ∀ i, i < n → F 1 i = ye i ∧ F 2 i = pr i) (hk : KR y7 ke) (h0 : IR P n ke 0 s0 F0 st ye pr) (h1 : IR P n ke 1 s1 F1 st ye pr) (k : Int32) :
    r_keep y7 k = r_mkeep ke k ∧ KR (q_kept y7 k) (q_mkeepK ke k) ∧ BR P n s F (q_mkeep st k) ∧ IR P n (q_mkeepK ke k) 0 (q_keepS k 0 s s0) (q_keepF k 0 F F0) (q_mkeep st k) ye pr ∧ IR P n (q_mkeepK ke k) 1 (q_keepS k 1 s s1) (q_keepF k 1 F F1) (q_mkeep st k) ye pr := by
  by_cases c : k < 0 ∨ (1 : Int32) < k
  · have e1 : r_mkeep ke k = -1 := by rw [r_mkeep, if_pos c]
    have e2 : q_mkeepK ke k = ke := funext fun j => by rw [q_mkeepK, if_pos c]
    have e3 : q_mkeep st k = st := funext fun j => by rw [q_mkeep, if_pos c]
    have e4 : r_keep y7 k = -1 := by
      rw [r_keep]
      by_cases c1 : k < 0
      · rw [if_pos c1]
      · rw [if_neg c1, if_neg (nlt2 c c1)]
    have e5 : q_kept y7 k = y7 := by
      rw [q_kept]
      by_cases c1 : k < 0
      · rw [if_pos c1]
      · rw [if_neg c1, if_neg (nlt2 c c1)]
    have n0 : ¬ k = 0 := fun q => by rw [q] at c; exact absurd c (by decide)
    have n1 : ¬ k = 1 := fun q => by rw [q] at c; exact absurd c (by decide)
    have e6 : q_keepS k 0 s s0 = s0 := funext fun j => by rw [q_keepS, if_neg n0]
    have e7 : q_keepS k 1 s s1 = s1 := funext fun j => by rw [q_keepS, if_neg n1]
    have e8 : q_keepF k 0 F F0 = F0 := funext fun j => by rw [q_keepF, if_neg n0]
    have e9 : q_keepF k 1 F F1 = F1 := funext fun j => by rw [q_keepF, if_neg n1]
    rw [e1, e2, e3, e4, e5, e6, e7, e8, e9]
    exact ⟨rfl, hk, h, h0, h1⟩
  · have c1 : ¬ k < 0 := fun q => c (Or.inl q)
    have c2 : ¬ (1 : Int32) < k := fun q => c (Or.inr q)
    obtain ⟨K, hK, eK, k0, k1⟩ := hk
    obtain ⟨⟨t1, t2⟩, ⟨u1, u2, u3, u4⟩, ⟨v1, v2, v3, v4⟩⟩ := kr_1 K hK
    rcases lt2 c1 c2 with rfl | rfl
    · have e2 : q_mkeepK ke 0 = upd ke 0 1 := funext fun j => by rw [q_mkeepK, if_neg c]; rfl
      have e3 : q_mkeep st 0 = q_cpk st 53 0 53 := funext fun j => by rw [q_mkeep, if_neg c]; rfl
      have e6 : q_keepS 0 0 s s0 = s := funext fun j => by rw [q_keepS, if_pos rfl]
      have e7 : q_keepS 0 1 s s1 = s1 := funext fun j => by rw [q_keepS, if_neg (by decide)]
      have e8 : q_keepF 0 0 F F0 = p_cpB F0 F := funext fun j => by rw [q_keepF, if_pos rfl]
      have e9 : q_keepF 0 1 F F1 = F1 := funext fun j => by rw [q_keepF, if_neg (by decide)]
      rw [e2, e3, e6, e7, e8, e9]
      refine ⟨?_, ⟨K ||| 1, u4, ?_, ?_, ?_⟩, BR_g h (fun j hj => by rw [q_cpk, if_neg (by omega)]), fun _ => ⟨?_, fun i hi => ?_⟩, fun q => ?_⟩
      · rw [r_keep, r_mkeep, if_neg c, if_neg c1, if_pos (by decide), show (0 : Int32).toNatClampNeg = 0 from rfl, k0, eK]; exact t1
      · rw [q_kept, if_neg c1, if_pos (by decide), eK]; exact u1
      · rw [upd_eq, q_kept, if_neg c1, if_pos (by decide), eK, u1, u2]
      · rw [upd_ne (by decide), q_kept, if_neg c1, if_pos (by decide), k1, eK, u1, u3]
      · exact BR_cp (BR_g h (fun j hj => by
          show q_cpk st 53 0 53 (53 * (0 + 1) + j) = st j
          rw [q_cpk, if_pos (by omega), show 0 + (53 * (0 + 1) + j - 53) = j by omega]))
      · have hn := h.1.2.2
        rw [cpB_k _ _ (by decide) (by omega), cpB_k _ _ (by decide) (by omega)]
        exact hy i hi
      · rw [upd_ne (by decide)] at q
        obtain ⟨b1, b2⟩ := h1 q
        exact ⟨BR_g b1 (fun j hj => by
          show q_cpk st 53 0 53 (53 * (1 + 1) + j) = _
          rw [q_cpk, if_neg (by omega)]), b2⟩
    · have e2 : q_mkeepK ke 1 = upd ke 1 1 := funext fun j => by rw [q_mkeepK, if_neg c]; rfl
      have e3 : q_mkeep st 1 = q_cpk st 106 0 53 := funext fun j => by rw [q_mkeep, if_neg c]; rfl
      have e6 : q_keepS 1 0 s s0 = s0 := funext fun j => by rw [q_keepS, if_neg (by decide)]
      have e7 : q_keepS 1 1 s s1 = s := funext fun j => by rw [q_keepS, if_pos rfl]
      have e8 : q_keepF 1 0 F F0 = F0 := funext fun j => by rw [q_keepF, if_neg (by decide)]
      have e9 : q_keepF 1 1 F F1 = p_cpB F1 F := funext fun j => by rw [q_keepF, if_pos rfl]
      rw [e2, e3, e6, e7, e8, e9]
      refine ⟨?_, ⟨K ||| 2, v4, ?_, ?_, ?_⟩, BR_g h (fun j hj => by rw [q_cpk, if_neg (by omega)]), fun q => ?_, fun _ => ⟨?_, fun i hi => ?_⟩⟩
      · rw [r_keep, r_mkeep, if_neg c, if_neg c1, if_pos (by decide), show (1 : Int32).toNatClampNeg = 1 from rfl, k1, eK]; exact t2
      · rw [q_kept, if_neg c1, if_pos (by decide), eK]; exact v1
      · rw [upd_ne (by decide), q_kept, if_neg c1, if_pos (by decide), k0, eK, v1, v3]
      · rw [upd_eq, q_kept, if_neg c1, if_pos (by decide), eK, v1, v2]
      · rw [upd_ne (by decide)] at q
        obtain ⟨b1, b2⟩ := h0 q
        exact ⟨BR_g b1 (fun j hj => by
          show q_cpk st 106 0 53 (53 * (0 + 1) + j) = _
          rw [q_cpk, if_neg (by omega)]), b2⟩
      · exact BR_cp (BR_g h (fun j hj => by
          show q_cpk st 106 0 53 (53 * (1 + 1) + j) = st j
          rw [q_cpk, if_pos (by omega), show 0 + (53 * (1 + 1) + j - 106) = j by omega]))
      · have hn := h.1.2.2
        rw [cpB_k _ _ (by decide) (by omega), cpB_k _ _ (by decide) (by omega)]
        exact hy i hi
theorem pu_back {P n : Nat} {s s0 s1 st ke ye pr : Nat → Int32} {F F0 F1 : Nat → Nat → Int32} {y7 : Int32} (h : BR P n s F st) (hy : ∀ i, i < n → F 1 i = ye i ∧ F 2 i = pr i) (hk : KR y7 ke) (h0 : IR P n ke 0 s0 F0 st ye pr) (h1 : IR P n ke 1 s1 F1 st ye pr) (k : Int32) :
    r_back y7 k s0 s1 = r_mback st ke k ∧ BR P n (q_backS y7 k s s0 s1) (q_backF y7 k F F0 F1) (q_mback st ke k) ∧ (∀ i, i < n → q_backF y7 k F F0 F1 1 i = ye i ∧ q_backF y7 k F F0 F1 2 i = pr i) ∧ ∀ j, 53 ≤ j → q_mback st ke k j = st j := by
  by_cases c : k < 0 ∨ (1 : Int32) < k
  · have e3 : q_mback st ke k = st := funext fun j => by rw [q_mback, if_pos c]
    have e4 : r_back y7 k s0 s1 = -1 := by
      rw [r_back]
      by_cases c1 : k < 0
      · rw [if_pos c1]
      · rw [if_neg c1, if_neg (nlt2 c c1)]
    have e5 : q_backS y7 k s s0 s1 = s := funext fun j => by
      rw [q_backS]
      by_cases c1 : k < 0
      · rw [if_pos c1]
      · rw [if_neg c1, if_neg (nlt2 c c1)]
    have e6 : q_backF y7 k F F0 F1 = F := funext fun j => by
      rw [q_backF]
      by_cases c1 : k < 0
      · rw [if_pos c1]
      · rw [if_neg c1, if_neg (nlt2 c c1)]
    rw [e3, e4, e5, e6, r_mback, if_pos c]
    exact ⟨rfl, h, hy, fun _ _ => rfl⟩
  · have c1 : ¬ k < 0 := fun q => c (Or.inl q)
    have c2 : ¬ (1 : Int32) < k := fun q => c (Or.inr q)
    obtain ⟨K, hK, eK, k0, k1⟩ := hk
    have hn := h.1.2.2
    rcases lt2 c1 c2 with rfl | rfl
    · have z0 : (0 : Int32).toNatClampNeg = 0 := rfl
      have d0 : (0 : Int32) < 2 := by decide
      rw [r_back, r_mback, if_neg c, if_neg c1, if_pos d0, z0]
      by_cases c3 : p_hb y7 0 = 0
      · have e3 : q_mback st ke 0 = st := funext fun j => by rw [q_mback, if_neg c, z0, k0, if_pos c3]
        have e5 : q_backS y7 0 s s0 s1 = s := funext fun j => by rw [q_backS, if_neg c1, if_pos d0, if_pos c3]
        have e6 : q_backF y7 0 F F0 F1 = F := funext fun j => by rw [q_backF, if_neg c1, if_pos d0, if_pos c3]
        rw [e3, e5, e6, k0, if_pos c3, if_pos c3]
        exact ⟨rfl, h, hy, fun _ _ => rfl⟩
      · have e3 : q_mback st ke 0 = q_cpk st 0 53 53 := funext fun j => by rw [q_mback, if_neg c, z0, k0, if_neg c3]
        have e5 : q_backS y7 0 s s0 s1 = s0 := funext fun j => by rw [q_backS, if_neg c1, if_pos d0, if_neg c3, if_pos rfl]
        have e6 : q_backF y7 0 F F0 F1 = p_cpB F F0 := funext fun j => by rw [q_backF, if_neg c1, if_pos d0, if_neg c3, if_pos rfl]
        obtain ⟨b1, b2⟩ := h0 (by rw [k0]; exact c3)
        rw [e3, e5, e6, k0, if_neg c3, if_neg c3, if_pos rfl]
        refine ⟨b1.2.1.2.2.2.1.1, BR_cp (BR_g b1 (fun j hj => ?_)), fun i hi => ?_, fun j hj => by rw [q_cpk, if_neg (by omega)]⟩
        · show q_cpk st 0 53 53 j = st (53 * (0 + 1) + j)
          rw [q_cpk, if_pos (by omega), show 53 + (j - 0) = 53 * (0 + 1) + j by omega]
        · rw [cpB_k _ _ (by decide) (by omega), cpB_k _ _ (by decide) (by omega)]
          exact b2 i hi
    · have z0 : (1 : Int32).toNatClampNeg = 1 := rfl
      have d0 : (1 : Int32) < 2 := by decide
      have d1 : ¬ (1 : Int32) = 0 := by decide
      rw [r_back, r_mback, if_neg c, if_neg c1, if_pos d0, z0]
      by_cases c3 : p_hb y7 1 = 0
      · have e3 : q_mback st ke 1 = st := funext fun j => by rw [q_mback, if_neg c, z0, k1, if_pos c3]
        have e5 : q_backS y7 1 s s0 s1 = s := funext fun j => by rw [q_backS, if_neg c1, if_pos d0, if_pos c3]
        have e6 : q_backF y7 1 F F0 F1 = F := funext fun j => by rw [q_backF, if_neg c1, if_pos d0, if_pos c3]
        rw [e3, e5, e6, k1, if_pos c3, if_pos c3]
        exact ⟨rfl, h, hy, fun _ _ => rfl⟩
      · have e3 : q_mback st ke 1 = q_cpk st 0 106 53 := funext fun j => by rw [q_mback, if_neg c, z0, k1, if_neg c3]
        have e5 : q_backS y7 1 s s0 s1 = s1 := funext fun j => by rw [q_backS, if_neg c1, if_pos d0, if_neg c3, if_neg d1]
        have e6 : q_backF y7 1 F F0 F1 = p_cpB F F1 := funext fun j => by rw [q_backF, if_neg c1, if_pos d0, if_neg c3, if_neg d1]
        obtain ⟨b1, b2⟩ := h1 (by rw [k1]; exact c3)
        rw [e3, e5, e6, k1, if_neg c3, if_neg c3, if_neg d1]
        refine ⟨b1.2.1.2.2.2.1.1, BR_cp (BR_g b1 (fun j hj => ?_)), fun i hi => ?_, fun j hj => by rw [q_cpk, if_neg (by omega)]⟩
        · show q_cpk st 0 106 53 j = st (53 * (1 + 1) + j)
          rw [q_cpk, if_pos (by omega), show 106 + (j - 0) = 53 * (1 + 1) + j by omega]
        · rw [cpB_k _ _ (by decide) (by omega), cpB_k _ _ (by decide) (by omega)]
          exact b2 i hi
/-! ===== sheets ===== -/
def SR (ln sz : Nat → Int32) (cf : Nat → Nat → Int32) (la si ce : Nat → Int32) : Prop := ∀ j, j < 4 → ((ln j = -1 ∧ la j = -4) ∨ ∃ l : Nat, l < 3 ∧ ln j = nI l ∧ la j = nI l) ∧ ∃ N : Nat, N ≤ 40 ∧ sz j = nI N ∧ si j = nI N ∧ ∀ i, i < N → cf j i = ce (40 * j + i)
theorem rng {k : Int32} {m : Nat} (hm : m < 1000) : (k < 0 ∨ nI m < k) ∨ ∃ j, j ≤ m ∧ k = nI j ∧ k.toNatClampNeg = j ∧ ¬ k < 0 ∧ ¬ nI m < k ∧ k < nI (m + 1) := by
  by_cases c : k < 0
  · exact Or.inl (Or.inl c)
  obtain ⟨j, hj, e⟩ := nI_of c
  by_cases c2 : nI m < k
  · exact Or.inl (Or.inr c2)
  · have c3 := c2
    rw [e, nI_ltI (by omega) hj] at c3
    exact Or.inr ⟨j, by omega, e, by rw [e, nI_clamp hj], c, c2, by rw [e, nI_ltI hj (by omega)]; omega⟩
theorem rng_n {k : Int32} {m : Nat} (hm : m < 1000) (h : k < 0 ∨ nI m < k) : ¬ k < 0 → ¬ k < nI (m + 1) := by
  intro c h2
  rcases h with h | h
  · exact c h
  · obtain ⟨j, hj, e⟩ := nI_of c
    rw [e, nI_ltI (by omega) hj] at h
    rw [e, nI_ltI hj (by omega)] at h2
    omega
theorem isS_sh (k l n : Int32) : r_sheet k l n = r_msheet k l n := by
  rw [r_sheet, r_msheet, p_isS]
  rcases rng (k := k) (m := 3) (by decide) with c | ⟨j, hj, e, ec, h1, h2, h3⟩
  · have c' : k < 0 ∨ (3 : Int32) < k := c
    rw [if_pos c', if_pos rfl]
    by_cases q : k < 0
    · rw [if_pos q]
    · rw [if_neg q, if_neg (show ¬ k < (4 : Int32) from rng_n (m := 3) (by decide) c q)]
  · have h2 : ¬ (3 : Int32) < k := h2
    have h3 : k < (4 : Int32) := h3
    rw [if_neg h1, if_pos h3, if_neg (show ¬ (k < 0 ∨ (3 : Int32) < k) from fun q => q.elim h1 h2)]
    rcases rng (k := l) (m := 2) (by decide) with c | ⟨j2, hj2, e2, ec2, g1, g2, g3⟩
    · have c' : l < 0 ∨ (2 : Int32) < l := c
      rw [if_pos c', if_pos rfl]
      by_cases q : l < 0
      · rw [if_pos q]
      · rw [if_neg q, if_neg (show ¬ l < (3 : Int32) from rng_n (m := 2) (by decide) c q)]
    · have g2 : ¬ (2 : Int32) < l := g2
      have g3 : l < (3 : Int32) := g3
      rw [if_neg g1, if_pos g3, if_neg (show ¬ (l < 0 ∨ (2 : Int32) < l) from fun q => q.elim g1 g2), if_neg d10]
theorem sh_1 {k l n : Int32} (h : r_sheet k l n = 1) : ∃ j b m : Nat, j < 4 ∧ b < 3 ∧ m ≤ 40 ∧ k = nI j ∧ l = nI b ∧ n = nI m := by
  rw [r_sheet] at h
  by_cases c1 : k < 0
  · rw [if_pos c1] at h; exact absurd h (by decide)
  rw [if_neg c1] at h
  by_cases c2 : k < 4
  rotate_left
  · rw [if_neg c2] at h; exact absurd h (by decide)
  rw [if_pos c2] at h
  by_cases c3 : l < 0
  · rw [if_pos c3] at h; exact absurd h (by decide)
  rw [if_neg c3] at h
  by_cases c4 : l < 3
  rotate_left
  · rw [if_neg c4] at h; exact absurd h (by decide)
  rw [if_pos c4] at h
  by_cases c5 : (40 : Int32) < n
  · rw [if_pos c5] at h; exact absurd h (by decide)
  rw [if_neg c5] at h
  by_cases c6 : n < 0
  · rw [if_pos c6] at h; exact absurd h (by decide)
  obtain ⟨j, hj, e⟩ := nI_of c1
  obtain ⟨b, hb, e2⟩ := nI_of c3
  obtain ⟨m, hm, e3⟩ := nI_of c6
  rw [e, show (4 : Int32) = nI 4 from rfl, nI_ltI hj (by omega)] at c2
  rw [e2, show (3 : Int32) = nI 3 from rfl, nI_ltI hb (by omega)] at c4
  rw [e3, show (40 : Int32) = nI 40 from rfl, nI_ltI (by omega) hm] at c5
  exact ⟨j, b, m, c2, c4, by omega, e, e2, e3⟩
theorem pu_sheet {ln sz : Nat → Int32} {cf A : Nat → Nat → Int32} (h : SR ln sz cf (A 14) (A 15) (A 16)) (k l n : Int32) : r_sheet k l n = r_msheet k l n ∧ SR (q_shL k l n ln) (q_shZ k l n sz) (q_shF k l n cf) (q_msh A k l n 14) (q_msh A k l n 15) (q_msh A k l n 16) ∧ ∀ i, i < 14 → q_msh A k l n i = A i := by
  have hr := isS_sh k l n
  refine ⟨hr, ?_⟩
  by_cases c : r_sheet k l n = 1
  · have c' : r_msheet k l n = 1 := hr.symm.trans c
    obtain ⟨j, b, m, hj, hb, hm, e1, e2, e3⟩ := sh_1 c
    have kc : k.toNatClampNeg = j := by rw [e1, nI_clamp (by omega)]
    have nc : n.toNatClampNeg = m := by rw [e3, nI_clamp (by omega)]
    have q1 : q_shL k l n ln = upd ln j l := funext fun i => by rw [q_shL, if_pos c, kc]
    have q2 : q_shZ k l n sz = upd sz j n := funext fun i => by rw [q_shZ, if_pos c, kc]
    have q3 : q_shF k l n cf = va_up cf j (p_fi (fun _ => 0) (cf j) m) := funext fun i => by rw [q_shF, if_pos c, kc, nc]
    have q4 : q_msh A k l n = va_up (va_up (va_up A 14 (upd (A 14) j l)) 15 (upd (A 15) j n)) 16 (q_zk (A 16) (40 * j) 40) := funext fun i => by rw [q_msh, if_pos c', kc]
    have q5 : q_msh A k l n 14 = upd (A 14) j l := by rw [q4]; rfl
    have q6 : q_msh A k l n 15 = upd (A 15) j n := by rw [q4]; rfl
    have q7 : q_msh A k l n 16 = q_zk (A 16) (40 * j) 40 := by rw [q4]; rfl
    rw [q1, q2, q3, q5, q6, q7]
    refine ⟨fun i hi => ?_, fun i hi => ?_⟩
    · by_cases q : i = j
      · subst q
        rw [upd_eq, upd_eq, upd_eq, upd_eq]
        refine ⟨Or.inr ⟨b, hb, e2, e2⟩, m, hm, e3, e3, fun x hx => ?_⟩
        rw [va_up, if_pos rfl, p_fi, if_pos hx, q_zk, if_pos (by omega)]
      · rw [upd_ne q, upd_ne q, upd_ne q, upd_ne q]
        obtain ⟨a1, N, a2, a3, a4, a5⟩ := h i hi
        refine ⟨a1, N, a2, a3, a4, fun x hx => ?_⟩
        rw [va_up, if_neg q, q_zk, if_neg (by omega)]
        exact a5 x hx
    · rw [q4, va_up, if_neg (by omega), va_up, if_neg (by omega), va_up, if_neg (by omega)]
  · have c' : ¬ r_msheet k l n = 1 := fun q => c (hr.trans q)
    have q1 : q_shL k l n ln = ln := funext fun i => by rw [q_shL, if_neg c]
    have q2 : q_shZ k l n sz = sz := funext fun i => by rw [q_shZ, if_neg c]
    have q3 : q_shF k l n cf = cf := funext fun i => by rw [q_shF, if_neg c]
    have q4 : q_msh A k l n = A := funext fun i => by rw [q_msh, if_neg c']
    rw [q1, q2, q3, q4]
    exact ⟨h, fun _ _ => rfl⟩

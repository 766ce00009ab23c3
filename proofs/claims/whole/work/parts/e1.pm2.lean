/-! ===== class and model: asks, needs, clash, plans, cut, see, forget ===== -/
theorem fo_it {nd : Nat → Int32} {n k : Nat} (hn : n ≤ 8) (h : ∀ w, w < n → ltn n (nd w)) (hk : k < n) : p_fo nd n k = p_fw nd n ((1 : Int32) <<< (nI k &&& 31)) := by
  have h28 := p_2le n hn
  have hk2 : 2 ^ k < 2 ^ n := Nat.pow_lt_pow_right (by decide) hk
  have e := it_nI (nd := nd) (nd' := tn nd) (n := n) (g := 2 ^ k) hn (fun w hw => (tn_e hn (h w hw)).1) (fun w hw => by have := (tn_e hn (h w hw)).2; omega) (by omega)
  rw [p_fo, p_fw, p_2n k (by omega), e n, e 8, itN_stab (fun w hw => (tn_e hn (h w hw)).2) hk2 8 hn]
theorem Bw_wof {n : Nat} {s g : Nat → Int32} {F : Nat → Nat → Int32} (hs : s 1 = nI n) (hn : n ≤ 8) (h : ∀ i, i < n → (F 3 i = g (2 + i) ∧ lt8 (g (2 + i))) ∧ (F 4 i = g (10 + i) ∧ ltn n (g (10 + i))) ∧ (F 5 i = g (18 + i) ∧ ltn n (g (18 + i)))) : Bw n (p_wof s F) g := by
  have hc : (s 1).toNatClampNeg = n := by rw [hs, nI_clamp (by omega)]
  have h4 : ∀ i, i < n → F 4 i = g (10 + i) := fun i hi => (h i hi).2.1.1
  have h3 : ∀ i, i < n → F 3 i = g (2 + i) := fun i hi => (h i hi).1.1
  have hl : ∀ i, i < n → ltn n (F 4 i) := fun i hi => by rw [h4 i hi]; exact (h i hi).2.1.2
  intro i hi
  obtain ⟨w1, w2, w3⟩ := h i hi
  have e6 : p_wof s F 6 i = p_fo (F 4) n i := by
    show p_fi (p_fo (F 4) (s 1).toNatClampNeg) (F 6) (s 1).toNatClampNeg i = _
    rw [hc, p_fi, if_pos hi]
  have e7 : p_wof s F 7 i = p_wa (F 3) (F 4) n i := by
    show p_fi (p_wa (F 3) (F 4) (s 1).toNatClampNeg) (F 7) (s 1).toNatClampNeg i = _
    rw [hc, p_fi, if_pos hi]
  have f6 : p_fo (F 4) n i = p_mfo g n i := by rw [fo_it hn hl hi]; exact fw_cg h4 _
  refine ⟨w1, w2, w3, e6.trans f6, e7.trans ?_⟩
  rw [p_wa, f6, ga_cg h3]
  rfl
theorem wof_BR {P n : Nat} {s g g' : Nat → Int32} {F F' : Nat → Nat → Int32} (h : BR P n s F g) (h8 : F' 8 = F 8) (h9 : F' 9 = F 9) (he : ∀ j, j < 2 ∨ 26 ≤ j → g' j = g j) (h3 : ∀ i, i < n → (F' 3 i = g' (2 + i) ∧ lt8 (g' (2 + i))) ∧ (F' 4 i = g' (10 + i) ∧ ltn n (g' (10 + i))) ∧ (F' 5 i = g' (18 + i) ∧ ltn n (g' (18 + i)))) : BR P n s (p_wof s F') g' := by
  obtain ⟨⟨a1, a2⟩, ⟨v1, v2, v3, v4, v5⟩, hp, hz, hw⟩ := h
  refine ⟨⟨a1, a2⟩, ⟨?_, ?_, ?_, ?_, ?_⟩, ?_, ?_, Bw_wof a2.1 a2.2 h3⟩
  · rw [he 28 (by omega)]; exact v1
  · rw [he 0 (by omega)]; exact v2
  · rw [he 1 (by omega)]; exact v3
  · rw [he 26 (by omega)]; exact v4
  · rw [he 27 (by omega)]; exact v5
  · have := Bp_g (s' := s) (g' := g') hp rfl (fun j h1 h2 => he j (by omega))
    obtain ⟨p1, N, p2, p3, p4⟩ := this
    refine ⟨p1, N, p2, p3, fun i hi => ?_⟩
    show F' 8 i = _ ∧ _
    rw [h8]; exact p4 i hi
  · have := Bz_g (s' := s) (g' := g') hz rfl rfl (fun j h1 h2 => he j (by omega))
    obtain ⟨p1, p0, N, p2, p3, p4⟩ := this
    refine ⟨p1, p0, N, p2, p3, fun i hi => ?_⟩
    show F' 9 i = _ ∧ _
    rw [h9]; exact p4 i hi
theorem Bw_3 {n : Nat} {F : Nat → Nat → Int32} {g : Nat → Int32} (h : Bw n F g) : ∀ i, i < n → (F 3 i = g (2 + i) ∧ lt8 (g (2 + i))) ∧ (F 4 i = g (10 + i) ∧ ltn n (g (10 + i))) ∧ (F 5 i = g (18 + i) ∧ ltn n (g (18 + i))) := fun i hi => ⟨(h i hi).1, (h i hi).2.1, (h i hi).2.2.1⟩
theorem pu_asks {P n : Nat} {s g : Nat → Int32} {F : Nat → Nat → Int32} (h : BR P n s F g) (w p z : Int32) : r_asks s F w p = r_masks g (nI n) (nI P) w p ∧ BR P n s (q_asks s F w p z) (q_masks g (nI n) (nI P) w p z) := by
  have e1 := h.1.2.1
  have e0 := h.1.1.1
  have hn := h.1.2.2
  rw [r_asks, r_masks, e1, e0]
  by_cases c : p_in (nI n) w = 0
  · refine ⟨by rw [if_pos c, if_pos c], ?_⟩
    have q1 : q_asks s F w p z = F := funext fun i => by rw [q_asks, e1, if_pos c]
    have q2 : q_masks g (nI n) (nI P) w p z = g := funext fun i => by rw [q_masks, if_pos c]
    rw [q1, q2]; exact h
  obtain ⟨j, hj, e, ec⟩ := in_n hn c
  by_cases c2 : p_in (nI P) p = 0
  · refine ⟨by rw [if_neg c, if_neg c, if_pos c2, if_pos c2], ?_⟩
    have q1 : q_asks s F w p z = F := funext fun i => by rw [q_asks, e1, e0, if_neg c, if_pos c2]
    have q2 : q_masks g (nI n) (nI P) w p z = g := funext fun i => by rw [q_masks, if_neg c, if_pos c2]
    rw [q1, q2]; exact h
  obtain ⟨k, hk, ek, _⟩ := in_n h.1.1.2 c2
  have hw3 := Bw_3 h.2.2.2.2
  have h3 := (hw3 j hj).1
  refine ⟨by rw [if_neg c, if_neg c, if_neg c2, if_neg c2, ec, h3.1], ?_⟩
  have q1 : q_asks s F w p z = p_wof s (va_up F 3 (upd (F 3) j (p_wb (g (2 + j)) p z))) := funext fun i => by rw [q_asks, e1, e0, if_neg c, if_neg c2, ec, h3.1]
  have q2 : q_masks g (nI n) (nI P) w p z = upd g (2 + j) (p_wb (g (2 + j)) p z) := funext fun i => by rw [q_masks, if_neg c, if_neg c2, q_mrow, ec]
  rw [q1, q2]
  refine wof_BR h rfl rfl (fun i hi => upd_ne (by omega)) (fun i hi => ?_)
  show (upd (F 3) j (p_wb (g (2 + j)) p z) i = _ ∧ _) ∧ (F 4 i = _ ∧ _) ∧ (F 5 i = _ ∧ _)
  rw [upd_ne (f := g) (i := 2 + j) (j := 10 + i) (by omega), upd_ne (f := g) (i := 2 + j) (j := 18 + i) (by omega)]
  refine ⟨?_, (hw3 i hi).2⟩
  by_cases q : i = j
  · rw [q, upd_eq, upd_eq]
    refine ⟨rfl, ?_⟩
    rw [ek]
    exact wb_lt8 h3.2 (by have := h.1.1.2; omega) z
  · rw [upd_ne q, upd_ne (by omega)]
    exact (hw3 i hi).1
theorem two_n {n : Nat} {w v : Int32} (hn : n ≤ 8) (h : ¬ p_two (nI n) w v = 0) : ∃ j k, j < n ∧ k < n ∧ j ≠ k ∧ w = nI j ∧ v = nI k ∧ w.toNatClampNeg = j ∧ v.toNatClampNeg = k := by
  unfold p_two at h
  by_cases c : p_in (nI n) w = 0
  · rw [if_pos c] at h; exact absurd rfl h
  rw [if_neg c] at h
  by_cases c2 : p_in (nI n) v = 0
  · rw [if_pos c2] at h; exact absurd rfl h
  rw [if_neg c2] at h
  by_cases c3 : w = v
  · rw [if_pos c3] at h; exact absurd rfl h
  obtain ⟨j, hj, e, ec⟩ := in_n hn c
  obtain ⟨k, hk, e2, ec2⟩ := in_n hn c2
  exact ⟨j, k, hj, hk, fun q => c3 (by rw [e, e2, q]), e, e2, ec, ec2⟩
theorem pu_needs {P n : Nat} {s g : Nat → Int32} {F : Nat → Nat → Int32} (h : BR P n s F g) (w v z : Int32) : r_needs s F w v = r_mneeds g (nI n) w v ∧ BR P n s (q_needs s F w v z) (q_mneeds g (nI n) w v z) := by
  have e1 := h.1.2.1
  have hn := h.1.2.2
  rw [r_needs, r_mneeds, e1]
  by_cases c : p_two (nI n) w v = 0
  · refine ⟨by rw [if_pos c, if_pos c], ?_⟩
    have q1 : q_needs s F w v z = F := funext fun i => by rw [q_needs, e1, if_pos c]
    have q2 : q_mneeds g (nI n) w v z = g := funext fun i => by rw [q_mneeds, if_pos c]
    rw [q1, q2]; exact h
  obtain ⟨j, k, hj, hk, hjk, ew, ev, ewc, evc⟩ := two_n hn c
  have hw3 := Bw_3 h.2.2.2.2
  have h4 := (hw3 j hj).2.1
  refine ⟨by rw [if_neg c, if_neg c, ewc, h4.1], ?_⟩
  have q1 : q_needs s F w v z = p_wof s (va_up F 4 (upd (F 4) j (p_wb (g (10 + j)) v z))) := funext fun i => by rw [q_needs, e1, if_neg c, ewc, h4.1]
  have q2 : q_mneeds g (nI n) w v z = upd g (10 + j) (p_wb (g (10 + j)) v z) := funext fun i => by rw [q_mneeds, if_neg c, q_mrow, ewc]
  rw [q1, q2]
  refine wof_BR h rfl rfl (fun i hi => upd_ne (by omega)) (fun i hi => ?_)
  show (F 3 i = _ ∧ _) ∧ (upd (F 4) j (p_wb (g (10 + j)) v z) i = _ ∧ _) ∧ (F 5 i = _ ∧ _)
  rw [upd_ne (f := g) (i := 10 + j) (j := 2 + i) (by omega), upd_ne (f := g) (i := 10 + j) (j := 18 + i) (by omega)]
  refine ⟨(hw3 i hi).1, ?_, (hw3 i hi).2.2⟩
  by_cases q : i = j
  · rw [q, upd_eq, upd_eq]
    refine ⟨rfl, ?_⟩
    rw [ev]
    exact wb_ltn' hn h4.2 hk z
  · rw [upd_ne q, upd_ne (by omega)]
    exact (hw3 i hi).2.1
theorem pu_clash {P n : Nat} {s g : Nat → Int32} {F : Nat → Nat → Int32} (h : BR P n s F g) (w v z : Int32) : r_clash s F w v = r_mcl g (nI n) w v ∧ BR P n s (q_clash s F w v z) (q_mcl g (nI n) w v z) := by
  have e1 := h.1.2.1
  have hn := h.1.2.2
  rw [r_clash, r_mcl, e1]
  by_cases c : p_two (nI n) w v = 0
  · refine ⟨by rw [if_pos c, if_pos c], ?_⟩
    have q1 : q_clash s F w v z = F := funext fun i => by rw [q_clash, e1, if_pos c]
    have q2 : q_mcl g (nI n) w v z = g := funext fun i => by rw [q_mcl, if_pos c]
    rw [q1, q2]; exact h
  obtain ⟨j, k, hj, hk, hjk, ew, ev, ewc, evc⟩ := two_n hn c
  have hw3 := Bw_3 h.2.2.2.2
  have h5 := (hw3 j hj).2.2
  have h5k := (hw3 k hk).2.2
  refine ⟨by rw [if_neg c, if_neg c, ewc, h5.1], ?_⟩
  have q1 : q_clash s F w v z = va_up F 5 (upd (upd (F 5) j (p_wb (g (18 + j)) v z)) k (p_wb (g (18 + k)) w z)) := funext fun i => by rw [q_clash, e1, if_neg c, p_cl1, p_cl1, ewc, evc, upd_ne (fun q => hjk q.symm), h5.1, h5k.1]
  have q2 : q_mcl g (nI n) w v z = upd (upd g (18 + k) (p_wb (g (18 + k)) w z)) (18 + j) (p_wb (g (18 + j)) v z) := funext fun i => by rw [q_mcl, if_neg c, q_mrow, q_mrow, ewc, evc, upd_ne (f := g) (i := 18 + k) (j := 18 + j) (by omega)]
  rw [q1, q2]
  obtain ⟨⟨a1, a2⟩, ⟨v1, v2, v3, v4, v5⟩, hp, hz, hw⟩ := h
  have he : ∀ i, i < 18 ∨ 26 ≤ i → upd (upd g (18 + k) (p_wb (g (18 + k)) w z)) (18 + j) (p_wb (g (18 + j)) v z) i = g i := fun i hi => by rw [upd_ne (by omega), upd_ne (by omega)]
  refine ⟨⟨a1, a2⟩, ⟨?_, ?_, ?_, ?_, ?_⟩, Bp_g (s' := s) hp rfl (fun i h1 h2 => he i (by omega)), Bz_g (s' := s) hz rfl rfl (fun i h1 h2 => he i (by omega)), fun i hi => ?_⟩
  · rw [he 28 (by omega)]; exact v1
  · rw [he 0 (by omega)]; exact v2
  · rw [he 1 (by omega)]; exact v3
  · rw [he 26 (by omega)]; exact v4
  · rw [he 27 (by omega)]; exact v5
  · obtain ⟨w1, w2, w3, w4, w5⟩ := hw i hi
    have b1 : ∀ i, i < n → g (10 + i) = upd (upd g (18 + k) (p_wb (g (18 + k)) w z)) (18 + j) (p_wb (g (18 + j)) v z) (10 + i) := fun i hi => (he (10 + i) (by omega)).symm
    have b2 : ∀ i, i < n → g (2 + i) = upd (upd g (18 + k) (p_wb (g (18 + k)) w z)) (18 + j) (p_wb (g (18 + j)) v z) (2 + i) := fun i hi => (he (2 + i) (by omega)).symm
    rw [he (2 + i) (by omega), he (10 + i) (by omega), ← fo_cg b1, ← wa_cg b1 b2]
    refine ⟨w1, w2, ?_, w4, w5⟩
    show upd (upd (F 5) j (p_wb (g (18 + j)) v z)) k (p_wb (g (18 + k)) w z) i = _ ∧ _
    by_cases q : i = j
    · rw [q, upd_eq (upd g (18 + k) _), upd_ne (f := upd (F 5) j _) hjk, upd_eq]
      exact ⟨rfl, by rw [ev]; exact wb_ltn' hn h5.2 hk z⟩
    · rw [upd_ne (f := upd g (18 + k) _) (i := 18 + j) (j := 18 + i) (by omega)]
      by_cases q2 : i = k
      · rw [q2, upd_eq, upd_eq]
        exact ⟨rfl, by rw [ew]; exact wb_ltn' hn h5k.2 hj z⟩
      · rw [upd_ne (i := k) q2, upd_ne q, upd_ne (by omega)]
        exact w3
theorem pu_plans {P n : Nat} {s g : Nat → Int32} {F : Nat → Nat → Int32} (h : BR P n s F g) (w : Int32) : r_plans s w = r_mplans g (nI n) w ∧ BR P n (q_plans s w) (q_plansF s F w) (q_mplans g (nI n) w) := by
  have e1 := h.1.2.1
  have hn := h.1.2.2
  obtain ⟨⟨a1, a2⟩, ⟨v1, v2, v3, v4, v5⟩, ⟨p1, N, p2, p3, p4⟩, hz, hw⟩ := id h
  have e6 : s 15 < 6 ↔ ¬ g 29 = 6 := by rw [p1]; exact ge_eq (m := 6) p3 p2 (by decide)
  rw [r_plans, r_mplans, e1]
  by_cases c : p_in (nI n) w = 0
  · refine ⟨by rw [if_pos c, if_pos c], ?_⟩
    have q1 : q_plans s w = s := funext fun i => by rw [q_plans, e1, if_pos c]
    have q2 : q_plansF s F w = F := funext fun i => by rw [q_plansF, e1, if_pos c]
    have q3 : q_mplans g (nI n) w = g := funext fun i => by rw [q_mplans, if_pos c]
    rw [q1, q2, q3]; exact h
  obtain ⟨j, hj, e, ec⟩ := in_n hn c
  by_cases c2 : g 29 = 6
  · have c3 : ¬ s 15 < 6 := fun q => e6.mp q c2
    refine ⟨by rw [if_neg c, if_neg c, if_pos c2, if_neg c3], ?_⟩
    have q1 : q_plans s w = s := funext fun i => by rw [q_plans, e1, if_neg c, if_neg c3]
    have q2 : q_plansF s F w = F := funext fun i => by rw [q_plansF, e1, if_neg c, if_neg c3]
    have q3 : q_mplans g (nI n) w = g := funext fun i => by rw [q_mplans, if_neg c, if_pos c2]
    rw [q1, q2, q3]; exact h
  have c3 : s 15 < 6 := e6.mpr c2
  have hN6 : N < 6 := by rw [p1, p3, show (6 : Int32) = nI 6 from rfl, nI_ltI (by omega) (by omega)] at c3; exact c3
  refine ⟨by rw [if_neg c, if_neg c, if_neg c2, if_pos c3, p1], ?_⟩
  have hNc : (s 15).toNatClampNeg = N := by rw [p1, p3, nI_clamp (by omega)]
  have q1 : q_plans s w = upd s 15 (nI (N + 1)) := funext fun i => by rw [q_plans, e1, if_neg c, if_pos c3, p1, p3, nI_1]
  have q2 : q_plansF s F w = va_up F 8 (upd (F 8) N w) := funext fun i => by rw [q_plansF, e1, if_neg c, if_pos c3, hNc]
  have q3 : q_mplans g (nI n) w = upd (upd g (30 + N) w) 29 (nI (N + 1)) := funext fun i => by rw [q_mplans, if_neg c, if_neg c2, p3, nI_clamp (by omega), nI_1]
  rw [q1, q2, q3]
  have he : ∀ i, i < 29 ∨ 36 ≤ i → upd (upd g (30 + N) w) 29 (nI (N + 1)) i = g i := fun i hi => by rw [upd_ne (by omega), upd_ne (by omega)]
  refine ⟨⟨⟨by rw [upd_ne (by decide)]; exact a1.1, a1.2⟩, by rw [upd_ne (by decide)]; exact a2.1, a2.2⟩, ⟨?_, ?_, ?_, ?_, ?_⟩, ⟨by rw [upd_eq, upd_eq], N + 1, by omega, by rw [upd_eq], fun i hi => ?_⟩, ?_, ?_⟩
  · rw [he 28 (by omega), upd_ne (by decide)]; exact v1
  · rw [he 0 (by omega), upd_ne (by decide)]; exact v2
  · rw [he 1 (by omega), upd_ne (by decide)]; exact v3
  · rw [he 26 (by omega), upd_ne (by decide)]; exact v4
  · rw [he 27 (by omega), upd_ne (by decide)]; exact v5
  · show upd (F 8) N w i = _ ∧ _
    rw [upd_ne (i := 29) (by omega)]
    by_cases q : i = N
    · rw [q, upd_eq, upd_eq]
      exact ⟨rfl, j, hj, e⟩
    · rw [upd_ne q, upd_ne (by omega)]
      exact p4 i (by omega)
  · exact Bz_g (s' := upd s 15 (nI (N + 1))) hz (upd_ne (by decide)) (upd_ne (by decide)) (fun i h1 h2 => he i (by omega))
  · exact Bw_g a2.2 hw (fun i h1 h2 => he i (by omega))
theorem pu_cut {P n : Nat} {s g : Nat → Int32} {F : Nat → Nat → Int32} (h : BR P n s F g) (i : Int32) : r_cut 15 (s 15) s i = r_cutv (g 29) (g 29) i ∧ BR P n (q_cut 15 (s 15) s i) F (q_mcut 29 (g 29) g i) := by
  obtain ⟨⟨a1, a2⟩, ⟨v1, v2, v3, v4, v5⟩, ⟨p1, N, p2, p3, p4⟩, hz, hw⟩ := id h
  refine ⟨by rw [r_cut, r_cutv, p1], ?_⟩
  rw [p1]
  by_cases c : i < 0 ∨ g 29 < i
  · rw [qc_n c, mc_n c]; exact h
  · have c1 : ¬ i < 0 := fun q => c (Or.inl q)
    have c2 : ¬ g 29 < i := fun q => c (Or.inr q)
    rw [qc_y c1 c2, mc_y c1 c2]
    obtain ⟨j, hj, e⟩ := nI_of c1
    rw [e, p3, nI_ltI (by omega) hj] at c2
    have he : ∀ k, k ≠ 29 → upd g 29 i k = g k := fun k hk => upd_ne hk
    refine ⟨⟨⟨by rw [upd_ne (by decide)]; exact a1.1, a1.2⟩, by rw [upd_ne (by decide)]; exact a2.1, a2.2⟩, ⟨?_, ?_, ?_, ?_, ?_⟩, ⟨by rw [upd_eq, upd_eq], j, by omega, by rw [upd_eq]; exact e, fun k hk => ?_⟩, Bz_g (s' := upd s 15 i) hz (upd_ne (by decide)) (upd_ne (by decide)) (fun k h1 h2 => he k (by omega)), Bw_g a2.2 hw (fun k h1 h2 => he k (by omega))⟩
    · rw [he 28 (by omega), upd_ne (by decide)]; exact v1
    · rw [he 0 (by omega), upd_ne (by decide)]; exact v2
    · rw [he 1 (by omega), upd_ne (by decide)]; exact v3
    · rw [he 26 (by omega), upd_ne (by decide)]; exact v4
    · rw [he 27 (by omega), upd_ne (by decide)]; exact v5
    · rw [he (30 + k) (by omega)]
      exact p4 k (by omega)
theorem pu_forget {P n : Nat} {s g : Nat → Int32} {F : Nat → Nat → Int32} (h : BR P n s F g) (i : Int32) : r_cut 18 (s 18) s i = r_cutv (g 36) (g 36) i ∧ BR P n (q_cut 18 (s 18) s i) F (q_mcut 36 (g 36) g i) := by
  obtain ⟨⟨a1, a2⟩, ⟨v1, v2, v3, v4, v5⟩, hp, ⟨p1, p0, N, p2, p3, p4⟩, hw⟩ := id h
  refine ⟨by rw [r_cut, r_cutv, p1], ?_⟩
  rw [p1]
  by_cases c : i < 0 ∨ g 36 < i
  · rw [qc_n c, mc_n c]; exact h
  · have c1 : ¬ i < 0 := fun q => c (Or.inl q)
    have c2 : ¬ g 36 < i := fun q => c (Or.inr q)
    rw [qc_y c1 c2, mc_y c1 c2]
    obtain ⟨j, hj, e⟩ := nI_of c1
    rw [e, p3, nI_ltI (by omega) hj] at c2
    have he : ∀ k, k ≠ 36 → upd g 36 i k = g k := fun k hk => upd_ne hk
    refine ⟨⟨⟨by rw [upd_ne (by decide)]; exact a1.1, a1.2⟩, by rw [upd_ne (by decide)]; exact a2.1, a2.2⟩, ⟨?_, ?_, ?_, ?_, ?_⟩, Bp_g (s' := upd s 18 i) hp (upd_ne (by decide)) (fun k h1 h2 => he k (by omega)), ⟨by rw [upd_eq, upd_eq], by rw [upd_ne (by decide)]; exact p0, j, by omega, by rw [upd_eq]; exact e, fun k hk => ?_⟩, Bw_g a2.2 hw (fun k h1 h2 => he k (by omega))⟩
    · rw [he 28 (by omega), upd_ne (by decide)]; exact v1
    · rw [he 0 (by omega), upd_ne (by decide)]; exact v2
    · rw [he 1 (by omega), upd_ne (by decide)]; exact v3
    · rw [he 26 (by omega), upd_ne (by decide)]; exact v4
    · rw [he 27 (by omega), upd_ne (by decide)]; exact v5
    · rw [he (37 + 2 * k) (by omega), he (38 + 2 * k) (by omega), upd_ne (f := s) (i := 18) (j := 17) (by decide)]
      exact p4 k (by omega)
theorem wb_hb {a S i : Nat} (ha : a < 256) (hS : S < 8) (hi : i < 8) (z : Int32) : p_hb (p_wb (nI a) (nI S) z) (nI i) = if i = S then (if z = 0 then 0 else 1) else p_hb (nI a) (nI i) := by
  have h2 := p2_lt8 hS
  unfold p_wb
  rw [p_2n S (by omega)]
  by_cases c : z = 0
  · rw [if_pos c, if_pos c, dN_nI ha h2, hb_nI _ (dN_lt (m := 8) ha) i hi, hb_nI a ha i hi]
    by_cases q : i = S
    · rw [if_pos q, if_neg (fun r => by
        have := (dN_bit ha i).mp r
        exact this.2 (by rw [q]; exact Nat.testBit_two_pow_self))]
    · rw [if_neg q]
      by_cases r : a.testBit i = true
      · rw [if_pos r, if_pos ((dN_bit ha i).mpr ⟨r, fun t => q (by
          rw [Nat.testBit_two_pow] at t
          exact (of_decide_eq_true t).symm)⟩)]
      · rw [if_neg r, if_neg (fun t => r ((dN_bit ha i).mp t).1)]
  · rw [if_neg c, if_neg c, lt8_orI, hb_nI _ (or_lt8 ha h2) i hi, hb_nI a ha i hi, Nat.testBit_or, Nat.testBit_two_pow]
    by_cases q : i = S
    · rw [if_pos q, if_pos (by rw [q]; simp)]
    · have : decide (S = i) = false := decide_eq_false (fun t => q t.symm)
      rw [if_neg q, this, Bool.or_false]
theorem pu_see {P n : Nat} {s g : Nat → Int32} {F : Nat → Nat → Int32} (h : BR P n s F g) (p z : Int32) : r_see s p = r_msee g (nI P) p ∧ BR P n (q_see s p z) (q_seeF s F p) (q_msee g (nI P) p z) := by
  have e1 := h.1.1.1
  have hP := h.1.1.2
  obtain ⟨⟨a1, a2⟩, ⟨v1, v2, v3, v4, v5⟩, hp, ⟨p1, p0, S, p2, p3, p4⟩, hw⟩ := id h
  have e6 : s 18 < 8 ↔ ¬ g 36 = 8 := by rw [p1]; exact ge_eq (m := 8) p3 p2 (by decide)
  rw [r_see, r_msee, e1]
  by_cases c : p_in (nI P) p = 0
  · refine ⟨by rw [if_pos c, if_pos c], ?_⟩
    have q1 : q_see s p z = s := funext fun i => by rw [q_see, e1, if_pos c]
    have q2 : q_seeF s F p = F := funext fun i => by rw [q_seeF, e1, if_pos c]
    have q3 : q_msee g (nI P) p z = g := funext fun i => by rw [q_msee, if_pos c]
    rw [q1, q2, q3]; exact h
  obtain ⟨j, hj, e, ec⟩ := in_n hP c
  by_cases c2 : g 36 = 8
  · have c3 : ¬ s 18 < 8 := fun q => e6.mp q c2
    refine ⟨by rw [if_neg c, if_neg c, if_pos c2, if_neg c3], ?_⟩
    have q1 : q_see s p z = s := funext fun i => by rw [q_see, e1, if_neg c, if_neg c3]
    have q2 : q_seeF s F p = F := funext fun i => by rw [q_seeF, e1, if_neg c, if_neg c3]
    have q3 : q_msee g (nI P) p z = g := funext fun i => by rw [q_msee, if_neg c, if_pos c2]
    rw [q1, q2, q3]; exact h
  have c3 : s 18 < 8 := e6.mpr c2
  have hS8 : S < 8 := by rw [p1, p3, show (8 : Int32) = nI 8 from rfl, nI_ltI (by omega) (by omega)] at c3; exact c3
  refine ⟨by rw [if_neg c, if_neg c, if_neg c2, if_pos c3, p1], ?_⟩
  obtain ⟨a, ha, ea⟩ := p0
  have hSc : (s 18).toNatClampNeg = S := by rw [p1, p3, nI_clamp (by omega)]
  have q1 : q_see s p z = upd (upd s 17 (p_wb (nI a) (nI S) z)) 18 (nI (S + 1)) := funext fun i => by rw [q_see, e1, if_neg c, if_pos c3, p1, p3, nI_1, ea]
  have q2 : q_seeF s F p = va_up F 9 (upd (F 9) S p) := funext fun i => by rw [q_seeF, e1, if_neg c, if_pos c3, hSc]
  have q3 : q_msee g (nI P) p z = upd (upd (upd g (37 + 2 * S) p) (38 + 2 * S) (if z = 0 then 0 else 1)) 36 (nI (S + 1)) := funext fun i => by rw [q_msee, if_neg c, if_neg c2, p3, nI_clamp (by omega), nI_1]
  rw [q1, q2, q3]
  have he : ∀ i, i < 36 → upd (upd (upd g (37 + 2 * S) p) (38 + 2 * S) (if z = 0 then 0 else 1)) 36 (nI (S + 1)) i = g i := fun i hi => by rw [upd_ne (by omega), upd_ne (by omega), upd_ne (by omega)]
  refine ⟨⟨⟨by rw [upd_ne (by decide), upd_ne (by decide)]; exact a1.1, a1.2⟩, by rw [upd_ne (by decide), upd_ne (by decide)]; exact a2.1, a2.2⟩, ⟨?_, ?_, ?_, ?_, ?_⟩, ?_, ⟨by rw [upd_eq, upd_eq], ?_, S + 1, by omega, by rw [upd_eq], fun i hi => ?_⟩, ?_⟩
  · rw [he 28 (by omega), upd_ne (by decide), upd_ne (by decide)]; exact v1
  · rw [he 0 (by omega), upd_ne (by decide), upd_ne (by decide)]; exact v2
  · rw [he 1 (by omega), upd_ne (by decide), upd_ne (by decide)]; exact v3
  · rw [he 26 (by omega), upd_ne (by decide), upd_ne (by decide)]; exact v4
  · rw [he 27 (by omega), upd_ne (by decide), upd_ne (by decide)]; exact v5
  · exact Bp_g (s' := upd (upd s 17 (p_wb (nI a) (nI S) z)) 18 (nI (S + 1))) hp (by rw [upd_ne (by decide), upd_ne (by decide)]) (fun i h1 h2 => he i (by omega))
  · rw [upd_ne (by decide), upd_eq]; exact wb_lt8 ⟨a, ha, rfl⟩ hS8 z
  · show upd (F 9) S p i = _ ∧ _
    rw [upd_ne (f := upd (upd g (37 + 2 * S) p) (38 + 2 * S) _) (i := 36) (j := 37 + 2 * i) (by omega), upd_ne (f := upd (upd g (37 + 2 * S) p) (38 + 2 * S) _) (i := 36) (j := 38 + 2 * i) (by omega), upd_ne (f := upd s 17 _) (i := 18) (j := 17) (by decide), upd_eq s, wb_hb ha hS8 (by omega) z]
    by_cases q : i = S
    · rw [q, upd_eq, upd_ne (f := upd g (37 + 2 * S) p) (by omega), upd_eq g, upd_eq, if_pos rfl]
      exact ⟨rfl, ⟨j, by omega, e⟩, rfl⟩
    · rw [upd_ne q, upd_ne (f := upd g (37 + 2 * S) p) (by omega), upd_ne (f := g) (by omega), upd_ne (f := upd g (37 + 2 * S) p) (by omega), upd_ne (f := g) (by omega), if_neg q, ← ea]
      exact p4 i (by omega)
  · exact Bw_g a2.2 hw (fun i h1 h2 => he i (by omega))

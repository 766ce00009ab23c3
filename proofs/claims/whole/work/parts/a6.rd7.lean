/-! ===== Reader: the ones of a wish, what a wish needs ===== -/
def k_up (f : Nat → Int32) (w v : Int32) : Nat → Int32 := upd f w.toNatClampNeg (f w.toNatClampNeg ||| ((1 : Int32) <<< (v &&& 31)))
def k_os (ta : Nat → Int32) (ln w : Int32) : Nat → eT → (Nat → Int32) → Int32 × eT × (Nat → Int32)
  | 0, e, f => (0, k_bl e 2 (e_fi e), f)
  | k + 1, e, f => if (k_tn ta ln e 7 1).1 = 0 then (0, (k_tn ta ln e 7 1).2, f) else if e_ki (k_tn ta ln e 7 1).2 = 3 then (1, (k_tn ta ln e 7 1).2, f) else if p_hb (f w.toNatClampNeg) (e_va (k_tn ta ln e 7 1).2) = 0 then k_os ta ln w k (k_tn ta ln e 7 1).2 (k_up f w (e_va (k_tn ta ln e 7 1).2)) else (0, k_bl (k_tn ta ln e 7 1).2 4 (e_fi (k_tn ta ln e 7 1).2), f)
def c_X1_takeOnes : sCtr := ((yX1_takeOnes, cX1_takeOnes, 3, (some .boolean)), (2, 1, 3, 69), false,
  rdfp,
  fun vs L => ∃ (e : eT) (ln : Int32) (ta : Nat → Int32) (s : Nat → Int32) (F : Nat → Nat → Int32) (w : Int32) (t j : Nat), vs = [.ref 0, .int w] ∧ L = rdW e ln ta s F ∧ ln = nI t ∧ t ≤ 160 ∧ kI e t ∧ w = nI j ∧ j < 8,
  fun vs L r L' => ∃ X, X = k_os (bF L 2) (oI L 1 1) (vI vs 1) 9 (rE L) (bF L 6) ∧ r = some (.int X.1) ∧ L' = rdL L X.2.1 (oI L 3) (va_up (bG 3 L) 3 X.2.2))
theorem sta_X1_takeOnes : s_Sta c_X1_takeOnes := ⟨⟨by decide +kernel, by decide +kernel, by decide +kernel⟩, List.mem_of_getElem? (i := 444) (by decide +kernel), List.mem_of_getElem? (i := 66) (by decide +kernel), ⟨List.mem_of_getElem? (i := 443) (by decide +kernel), List.mem_of_getElem? (i := 9) (by decide +kernel), Or.inl ⟨_, rfl, rfl⟩⟩⟩

def k_X1_takeOnes : List sBk := [
  (0, false, [true, true, false], [oK 0 (.iconst 0) (.int 0), o0 1 (.istore_n 2), oN 2 .nop [1]]),
  (2, true, [true, true, true], [o0 2 (.iload_n 2), oK 3 (.bipush 8) (.int 8), oN 5 (.if_icmp .gt 78) [5], o0 8 (.aload_n 0), oK 9 (.bipush 7) (.int 7), oK 11 (.iconst 1) (.int 1), oC 12 (.invokevirtual 153) [437] c_X1_takeNumber, oN 15 (.ifCond .ne 5) [2], oK 18 (.iconst 0) (.int 0), o0 19 .ireturn]),
  (20, false, [true, true, true], [o0 20 (.aload_n 0), oN 21 (.getfield 51) [1, 4, 219], oK 24 (.iconst 3) (.int 3), oN 25 (.if_icmp .ne 5) [3], oK 28 (.iconst 1) (.int 1), o0 29 .ireturn]),
  (30, false, [true, true, true], [o0 30 (.aload_n 0), oN 31 (.getfield 12) [1, 0, 212], oN 34 (.getfield 168) [0, 9, 147], o0 37 (.iload_n 1), o0 38 .iaload, o0 39 (.aload_n 0), oN 40 (.getfield 84) [1, 7, 222], oC 43 (.invokestatic 171) [2, 0] c_X5_hasBit, oN 46 (.ifCond .eq 13) [4], o0 49 (.aload_n 0), oK 50 (.iconst 4) (.int 4), o0 51 (.aload_n 0), oN 52 (.getfield 77) [1, 5, 220], oC 55 (.invokevirtual 63) [357] c_X1_blame, o0 58 .ireturn]),
  (59, false, [true, true, true], [o0 59 (.aload_n 0), oN 60 (.getfield 12) [1, 0, 212], oN 63 (.getfield 168) [0, 9, 147], o0 66 (.iload_n 1), o0 67 .dup2, o0 68 .iaload, oK 69 (.iconst 1) (.int 1), o0 70 (.aload_n 0), oN 71 (.getfield 84) [1, 7, 222], o0 74 .ishl, o0 75 .ior, o0 76 .iastore, oK 77 (.iinc 2 1) (.int 1), oN 80 (.goto (-78)) [1]]),
  (83, false, [true, false, false], [o0 83 (.aload_n 0), oK 84 (.iconst 2) (.int 2), o0 85 (.aload_n 0), oN 86 (.getfield 77) [1, 5, 220], oC 89 (.invokevirtual 63) [357] c_X1_blame, o0 92 .ireturn])]
set_option maxRecDepth 100000 in
theorem ck_X1_takeOnes : s_ck RX1 cX1_takeOnes 3 3 69 k_X1_takeOnes = true := by decide +kernel

theorem okb_X1_takeOnes : s_okb k_X1_takeOnes := by
  show s_Ok c_X1_takeNumber ∧ s_Ok c_X5_hasBit ∧ s_Ok c_X1_blame ∧ s_Ok c_X1_blame ∧ True
  exact ⟨ok_X1_takeNumber, ok_X5_hasBit, ok_X1_blame, ok_X1_blame, trivial⟩
set_option maxRecDepth 100000 in
set_option maxHeartbeats 4000000 in
theorem ok_X1_takeOnes : s_Ok c_X1_takeOnes := by
  refine s_ok_of k_X1_takeOnes (by decide +kernel) sta_X1_takeOnes ck_X1_takeOnes okb_X1_takeOnes ?_
  rintro vs L ⟨e, ln, ta, s, F, w, t, j, rfl, rfl, hln, ht2, hI, hw, hj⟩
  refine ⟨rfl, fun G hG => ?_⟩
  obtain ⟨X, hX⟩ : ∃ X, X = k_os ta ln w 9 e (F 3) := ⟨_, rfl⟩
  have hin : vp_in w 8 := by rw [hw]; exact vp_in_nI hj (by omega)
  have fin : ∀ (v : Int32) (e2 : eT) (f : Nat → Int32), v = 0 ∨ v = 1 → X = (v, e2, f) → (v = 0 ∨ v = 1) ∧ s_PP (some .boolean) false c_X1_takeOnes.2.2.2.2.2 [.ref 0, .int w] (rdW e ln ta s F) (some (.int v)) (rdW e2 ln ta s (va_up F 3 f)) := by
    intro v e2 f h01 h
    refine ⟨h01, rfl, ⟨(v, e2, f), ?_, rfl, rfl⟩, fun h => by cases h⟩
    show (v, e2, f) = k_os (bF (rdW e ln ta s F) 2) (oI (rdW e ln ta s F) 1 1) w 9 (rE (rdW e ln ta s F)) (F 3)
    rw [rB_W, rO_W, rE_W, ← hX, h]
  have loop : ∀ (k i : Nat) (x : Int32) (e0 : eT) (f : Nat → Int32), i + k = 9 → x = nI i → kI e0 t → X = k_os ta ln w k e0 f → G 1 [some (.ref 0), some (.int w), some (.int x)] [] (rdW e0 ln ta s (va_up F 3 f)) := by
    intro k
    induction k with
    | zero =>
      intro i x e0 f hi hx hI0 hX
      refine hG 1 _ _ _ (And.intro (fun c => ?_) (fun c => ?_))
      · refine And.intro ⟨_, _, e0, 2, e_fi (e0), rfl, rfl⟩ ?_
        rintro r L' ⟨rfl, hL⟩
        obtain rfl : L' = [rdO 1003 1001 (k_bl (e0) 2 (e_fi (e0)))] := hL
        exact fin 0 (k_bl e0 2 (e_fi e0)) f (Or.inl rfl) hX
      · rw [hx, show (8 : Int32) = nI 8 from rfl, nI_ltI (by omega) (by omega)] at c; omega
    | succ k ih =>
      intro i x e0 f hi hx hI0 hX
      refine hG 1 _ _ _ (And.intro (fun c => ?_) (fun c => ?_))
      · rw [hx, show (8 : Int32) = nI 8 from rfl, nI_ltI (by omega) (by omega)] at c; omega
      rw [k_os] at hX
      obtain ⟨pp, hpp, hppt⟩ := id hI0
      refine And.intro ⟨_, e0, ln, ta, 7, 1, pp, t, rfl, rfl, hln, ht2, hpp, hppt⟩ ?_
      rintro r L' ⟨hr, hL⟩
      replace hr : r = some (.int (k_tn (bF (rd3 1003 (e0) ln ta) 2) (oI (rd3 1003 (e0) ln ta) 1 1) (rE (rd3 1003 (e0) ln ta)) 7 1).1) := hr
      replace hL : L' = rd3L (rd3 1003 (e0) ln ta) (k_tn (bF (rd3 1003 (e0) ln ta) 2) (oI (rd3 1003 (e0) ln ta) 1 1) (rE (rd3 1003 (e0) ln ta)) 7 1).2 := hL
      rw [rB_3, rO_3, rE_3] at hr
      rw [rB_3, rO_3, rE_3, rL_3] at hL
      obtain ⟨N1, hN1⟩ : ∃ N, N = k_tn ta ln (e0) 7 1 := ⟨_, rfl⟩
      rw [← hN1] at hr hL
      obtain ⟨v1, e1⟩ := N1
      dsimp only at hr hL
      subst hr hL
      rw [← hN1] at hX
      dsimp only at hX
      have hI1 : kI e1 t := by
        have k := kI_tn (ta := ta) ht2 hI0 7 1
        rw [← hln, ← hN1] at k
        exact k
      refine And.intro (fun q => ?_) (fun q => ?_)
      · have q : v1 = 0 := q
        rw [if_pos q] at hX
        exact fin 0 e1 f (Or.inl rfl) hX
      have q : ¬ v1 = 0 := q
      rw [if_neg q] at hX
      refine And.intro (fun q2 => ?_) (fun q2 => ?_)
      · have q2 : e_ki e1 = 3 := q2
        rw [if_pos q2] at hX
        exact fin 1 e1 f (Or.inr rfl) hX
      have q2 : ¬ e_ki e1 = 3 := q2
      rw [if_neg q2] at hX
      refine And.intro hin (And.intro ⟨_, _, rfl⟩ ?_)
      intro r hr
      obtain ⟨c2, hc2⟩ : ∃ c, c = p_hb (f w.toNatClampNeg) (e_va e1) := ⟨_, rfl⟩
      obtain rfl : r = some (.int c2) := by rw [hc2]; exact hr
      rw [← hc2] at hX
      refine And.intro (fun q3 => ?_) (fun q3 => ?_)
      · have q3 : c2 = 0 := q3
        rw [if_pos q3] at hX
        refine And.intro hin (And.intro hin ?_)
        exact ih (i + 1) _ e1 (k_up f w (e_va e1)) (by omega) (by rw [hx, nI_1]) hI1 hX
      · have q3 : ¬ c2 = 0 := q3
        rw [if_neg q3] at hX
        refine And.intro ⟨_, _, e1, 4, e_fi (e1), rfl, rfl⟩ ?_
        rintro r L' ⟨rfl, hL⟩
        obtain rfl : L' = [rdO 1003 1001 (k_bl (e1) 4 (e_fi (e1)))] := hL
        exact fin 0 (k_bl e1 4 (e_fi e1)) f (Or.inl rfl) hX
  have l := loop 9 0 0 e (F 3) (by omega) nI_0.symm hI hX
  rw [va_upI] at l
  exact hG 0 _ _ _ l
def k_ns (ta : Nat → Int32) (ln w : Int32) : Nat → eT → (Nat → Int32) → Int32 × eT × (Nat → Int32)
  | 0, e, f => (0, k_bl e 2 (e_fi e), f)
  | k + 1, e, f => if (k_tn ta ln e 7 1).1 = 0 then (0, (k_tn ta ln e 7 1).2, f) else if e_ki (k_tn ta ln e 7 1).2 = 3 then (1, v_wi (k_tn ta ln e 7 1).2 (e_wi (k_tn ta ln e 7 1).2 ||| f w.toNatClampNeg), f) else if e_va (k_tn ta ln e 7 1).2 = w ∨ ¬ p_hb (f w.toNatClampNeg) (e_va (k_tn ta ln e 7 1).2) = 0 then (0, k_bl (k_tn ta ln e 7 1).2 4 (e_fi (k_tn ta ln e 7 1).2), f) else k_ns ta ln w k (k_tn ta ln e 7 1).2 (k_up f w (e_va (k_tn ta ln e 7 1).2))
def k_nd (ta : Nat → Int32) (ln : Int32) (N : Int32 × eT) (f : Nat → Int32) : Int32 × eT × (Nat → Int32) := if N.1 = 0 then (0, N.2, f) else k_ns ta ln (e_va N.2) 9 (v_wi N.2 (k_or N.2)) f
def c_X1_takeNeeds : sCtr := ((yX1_takeNeeds, cX1_takeNeeds, 3, (some .boolean)), (2, 0, 3, 69), false,
  rdfp,
  fun vs L => ∃ (e : eT) (ln : Int32) (ta : Nat → Int32) (s : Nat → Int32) (F : Nat → Nat → Int32) (t : Nat), vs = [.ref 0] ∧ L = rdW e ln ta s F ∧ ln = nI t ∧ t ≤ 160 ∧ kI e t,
  fun _ L r L' => ∃ X, X = k_nd (bF L 2) (oI L 1 1) (k_tn (bF L 2) (oI L 1 1) (rE L) 7 0) (bF L 7) ∧ r = some (.int X.1) ∧ L' = rdL L X.2.1 (oI L 3) (va_up (bG 3 L) 4 X.2.2))
theorem sta_X1_takeNeeds : s_Sta c_X1_takeNeeds := ⟨⟨by decide +kernel, by decide +kernel, by decide +kernel⟩, List.mem_of_getElem? (i := 452) (by decide +kernel), List.mem_of_getElem? (i := 66) (by decide +kernel), ⟨List.mem_of_getElem? (i := 451) (by decide +kernel), List.mem_of_getElem? (i := 10) (by decide +kernel), Or.inl ⟨_, rfl, rfl⟩⟩⟩

def k_X1_takeNeeds : List sBk := [
  (0, false, [true, false, false], [o0 0 (.aload_n 0), oK 1 (.bipush 7) (.int 7), oK 3 (.iconst 0) (.int 0), oC 4 (.invokevirtual 153) [437] c_X1_takeNumber, oN 7 (.ifCond .ne 5) [1], oK 10 (.iconst 0) (.int 0), o0 11 .ireturn]),
  (12, false, [true, false, false], [o0 12 (.aload_n 0), oN 13 (.getfield 84) [1, 7, 222], o0 16 (.istore_n 1), o0 17 (.aload_n 0), o0 18 .dup, oN 19 (.getfield 39) [1, 10, 225], oK 22 (.iconst 1) (.int 1), o0 23 (.iload_n 1), o0 24 .ishl, o0 25 .ior, oN 26 (.putfield 39) [1, 10, 225], oK 29 (.iconst 0) (.int 0), o0 30 (.istore_n 2), oN 31 .nop [2]]),
  (31, true, [true, true, true], [o0 31 (.iload_n 2), oK 32 (.bipush 8) (.int 8), oN 34 (.if_icmp .gt 104) [7], o0 37 (.aload_n 0), oK 38 (.bipush 7) (.int 7), oK 40 (.iconst 1) (.int 1), oC 41 (.invokevirtual 153) [437] c_X1_takeNumber, oN 44 (.ifCond .ne 5) [3], oK 47 (.iconst 0) (.int 0), o0 48 .ireturn]),
  (49, false, [true, true, true], [o0 49 (.aload_n 0), oN 50 (.getfield 51) [1, 4, 219], oK 53 (.iconst 3) (.int 3), oN 54 (.if_icmp .ne 23) [4], o0 57 (.aload_n 0), o0 58 .dup, oN 59 (.getfield 39) [1, 10, 225], o0 62 (.aload_n 0), oN 63 (.getfield 12) [1, 0, 212], oN 66 (.getfield 174) [0, 10, 150], o0 69 (.iload_n 1), o0 70 .iaload, o0 71 .ior, oN 72 (.putfield 39) [1, 10, 225], oK 75 (.iconst 1) (.int 1), o0 76 .ireturn]),
  (77, false, [true, true, true], [o0 77 (.aload_n 0), oN 78 (.getfield 84) [1, 7, 222], o0 81 (.iload_n 1), oN 82 (.if_icmp .eq 22) [5], o0 85 (.aload_n 0), oN 86 (.getfield 12) [1, 0, 212], oN 89 (.getfield 174) [0, 10, 150], o0 92 (.iload_n 1), o0 93 .iaload, o0 94 (.aload_n 0), oN 95 (.getfield 84) [1, 7, 222], oC 98 (.invokestatic 171) [2, 0] c_X5_hasBit, oN 101 (.ifCond .eq 13) [6], oN 104 .nop [5]]),
  (104, true, [true, false, false], [o0 104 (.aload_n 0), oK 105 (.iconst 4) (.int 4), o0 106 (.aload_n 0), oN 107 (.getfield 77) [1, 5, 220], oC 110 (.invokevirtual 63) [357] c_X1_blame, o0 113 .ireturn]),
  (114, false, [true, true, true], [o0 114 (.aload_n 0), oN 115 (.getfield 12) [1, 0, 212], oN 118 (.getfield 174) [0, 10, 150], o0 121 (.iload_n 1), o0 122 .dup2, o0 123 .iaload, oK 124 (.iconst 1) (.int 1), o0 125 (.aload_n 0), oN 126 (.getfield 84) [1, 7, 222], o0 129 .ishl, o0 130 .ior, o0 131 .iastore, oK 132 (.iinc 2 1) (.int 1), oN 135 (.goto (-104)) [2]]),
  (138, false, [true, false, false], [o0 138 (.aload_n 0), oK 139 (.iconst 2) (.int 2), o0 140 (.aload_n 0), oN 141 (.getfield 77) [1, 5, 220], oC 144 (.invokevirtual 63) [357] c_X1_blame, o0 147 .ireturn])]
set_option maxRecDepth 100000 in
theorem ck_X1_takeNeeds : s_ck RX1 cX1_takeNeeds 3 3 69 k_X1_takeNeeds = true := by decide +kernel

theorem okb_X1_takeNeeds : s_okb k_X1_takeNeeds := by
  show s_Ok c_X1_takeNumber ∧ s_Ok c_X1_takeNumber ∧ s_Ok c_X5_hasBit ∧ s_Ok c_X1_blame ∧ s_Ok c_X1_blame ∧ True
  exact ⟨ok_X1_takeNumber, ok_X1_takeNumber, ok_X5_hasBit, ok_X1_blame, ok_X1_blame, trivial⟩
set_option maxRecDepth 100000 in
set_option maxHeartbeats 4000000 in
theorem ok_X1_takeNeeds : s_Ok c_X1_takeNeeds := by
  refine s_ok_of k_X1_takeNeeds (by decide +kernel) sta_X1_takeNeeds ck_X1_takeNeeds okb_X1_takeNeeds ?_
  rintro vs L ⟨e, ln, ta, s, F, t, rfl, rfl, hln, ht2, hI⟩
  refine ⟨rfl, fun G hG => ?_⟩
  obtain ⟨X, hX⟩ : ∃ X, X = k_nd ta ln (k_tn ta ln e 7 0) (F 4) := ⟨_, rfl⟩
  have fin : ∀ (v : Int32) (e2 : eT) (f : Nat → Int32), v = 0 ∨ v = 1 → X = (v, e2, f) → (v = 0 ∨ v = 1) ∧ s_PP (some .boolean) false c_X1_takeNeeds.2.2.2.2.2 [.ref 0] (rdW e ln ta s F) (some (.int v)) (rdW e2 ln ta s (va_up F 4 f)) := by
    intro v e2 f h01 h
    refine ⟨h01, rfl, ⟨(v, e2, f), ?_, rfl, rfl⟩, fun h => by cases h⟩
    show (v, e2, f) = k_nd (bF (rdW e ln ta s F) 2) (oI (rdW e ln ta s F) 1 1) (k_tn (bF (rdW e ln ta s F) 2) (oI (rdW e ln ta s F) 1 1) (rE (rdW e ln ta s F)) 7 0) (F 4)
    rw [rB_W, rO_W, rE_W, ← hX, h]
  refine hG 0 _ _ _ ?_
  obtain ⟨pp, hpp, hppt⟩ := id hI
  refine And.intro ⟨_, e, ln, ta, 7, 0, pp, t, rfl, rfl, hln, ht2, hpp, hppt⟩ ?_
  rintro r L' ⟨hr, hL⟩
  replace hr : r = some (.int (k_tn (bF (rd3 1003 (e) ln ta) 2) (oI (rd3 1003 (e) ln ta) 1 1) (rE (rd3 1003 (e) ln ta)) 7 0).1) := hr
  replace hL : L' = rd3L (rd3 1003 (e) ln ta) (k_tn (bF (rd3 1003 (e) ln ta) 2) (oI (rd3 1003 (e) ln ta) 1 1) (rE (rd3 1003 (e) ln ta)) 7 0).2 := hL
  rw [rB_3, rO_3, rE_3] at hr
  rw [rB_3, rO_3, rE_3, rL_3] at hL
  obtain ⟨N9, hN9⟩ : ∃ N, N = k_tn ta ln (e) 7 0 := ⟨_, rfl⟩
  rw [← hN9] at hr hL
  obtain ⟨v9, e9⟩ := N9
  dsimp only at hr hL
  subst hr hL
  rw [← hN9, k_nd] at hX
  dsimp only at hX
  have hI9 : kI e9 t := by
    have k := kI_tn (ta := ta) ht2 hI 7 0
    rw [← hln, ← hN9] at k
    exact k
  refine And.intro (fun q => ?_) (fun q => ?_)
  · have q : v9 = 0 := q
    rw [if_pos q] at hX
    exact fin 0 e9 (F 4) (Or.inl rfl) hX
  have q : ¬ v9 = 0 := q
  rw [if_neg q] at hX
  rw [hln] at hN9
  obtain ⟨_, j, hj, hje⟩ := k_tn_ok (m := 7) ht2 hI (by decide) hN9 q
  obtain ⟨w, hw⟩ : ∃ w, w = e_va e9 := ⟨_, rfl⟩
  have hin : vp_in w 8 := by rw [hw, hje]; exact vp_in_nI (by omega) (by omega)
  rw [← hw] at hX
  have loop : ∀ (k i : Nat) (x : Int32) (e0 : eT) (f : Nat → Int32), i + k = 9 → x = nI i → kI e0 t → X = k_ns ta ln w k e0 f → G 2 [some (.ref 0), some (.int w), some (.int x)] [] (rdW e0 ln ta s (va_up F 4 f)) := by
    intro k
    induction k with
    | zero =>
      intro i x e0 f hi hx hI0 hX
      refine hG 2 _ _ _ (And.intro (fun c => ?_) (fun c => ?_))
      · refine And.intro ⟨_, _, e0, 2, e_fi (e0), rfl, rfl⟩ ?_
        rintro r L' ⟨rfl, hL⟩
        obtain rfl : L' = [rdO 1003 1001 (k_bl (e0) 2 (e_fi (e0)))] := hL
        exact fin 0 (k_bl e0 2 (e_fi e0)) f (Or.inl rfl) hX
      · rw [hx, show (8 : Int32) = nI 8 from rfl, nI_ltI (by omega) (by omega)] at c; omega
    | succ k ih =>
      intro i x e0 f hi hx hI0 hX
      refine hG 2 _ _ _ (And.intro (fun c => ?_) (fun c => ?_))
      · rw [hx, show (8 : Int32) = nI 8 from rfl, nI_ltI (by omega) (by omega)] at c; omega
      rw [k_ns] at hX
      obtain ⟨pp, hpp, hppt⟩ := id hI0
      refine And.intro ⟨_, e0, ln, ta, 7, 1, pp, t, rfl, rfl, hln, ht2, hpp, hppt⟩ ?_
      rintro r L' ⟨hr, hL⟩
      replace hr : r = some (.int (k_tn (bF (rd3 1003 (e0) ln ta) 2) (oI (rd3 1003 (e0) ln ta) 1 1) (rE (rd3 1003 (e0) ln ta)) 7 1).1) := hr
      replace hL : L' = rd3L (rd3 1003 (e0) ln ta) (k_tn (bF (rd3 1003 (e0) ln ta) 2) (oI (rd3 1003 (e0) ln ta) 1 1) (rE (rd3 1003 (e0) ln ta)) 7 1).2 := hL
      rw [rB_3, rO_3, rE_3] at hr
      rw [rB_3, rO_3, rE_3, rL_3] at hL
      obtain ⟨N1, hN1⟩ : ∃ N, N = k_tn ta ln (e0) 7 1 := ⟨_, rfl⟩
      rw [← hN1] at hr hL
      obtain ⟨v1, e1⟩ := N1
      dsimp only at hr hL
      subst hr hL
      rw [← hN1] at hX
      dsimp only at hX
      have hI1 : kI e1 t := by
        have k := kI_tn (ta := ta) ht2 hI0 7 1
        rw [← hln, ← hN1] at k
        exact k
      refine And.intro (fun q => ?_) (fun q => ?_)
      · have q : v1 = 0 := q
        rw [if_pos q] at hX
        exact fin 0 e1 f (Or.inl rfl) hX
      have q : ¬ v1 = 0 := q
      rw [if_neg q] at hX
      refine And.intro (fun q2 => ?_) (fun q2 => ?_)
      · have q2 : e_ki e1 = 3 := q2
        rw [if_pos q2] at hX
        refine And.intro hin ?_
        exact fin 1 _ f (Or.inr rfl) hX
      have q2 : ¬ e_ki e1 = 3 := q2
      rw [if_neg q2] at hX
      have g5 : (e_va e1 = w ∨ ¬ p_hb (f w.toNatClampNeg) (e_va e1) = 0) → G 5 [some (.ref 0), none, none] [] (rdW e1 ln ta s (va_up F 4 f)) := by
        intro hbad
        rw [if_pos hbad] at hX
        refine hG 5 _ _ _ ?_
        refine And.intro ⟨_, _, e1, 4, e_fi (e1), rfl, rfl⟩ ?_
        rintro r L' ⟨rfl, hL⟩
        obtain rfl : L' = [rdO 1003 1001 (k_bl (e1) 4 (e_fi (e1)))] := hL
        exact fin 0 (k_bl e1 4 (e_fi e1)) f (Or.inl rfl) hX
      refine And.intro (fun q3 => ?_) (fun q3 => ?_)
      · exact g5 (Or.inl q3)
      have q3 : ¬ e_va e1 = w := q3
      refine And.intro hin (And.intro ⟨_, _, rfl⟩ ?_)
      intro r hr
      obtain ⟨c2, hc2⟩ : ∃ c, c = p_hb (f w.toNatClampNeg) (e_va e1) := ⟨_, rfl⟩
      obtain rfl : r = some (.int c2) := by rw [hc2]; exact hr
      refine And.intro (fun q4 => ?_) (fun q4 => ?_)
      rotate_left
      · have q4 : ¬ c2 = 0 := q4
        rw [hc2] at q4
        exact g5 (Or.inr q4)
      have q4 : c2 = 0 := q4
      rw [hc2] at q4
      rw [if_neg (by rintro (z | z); exact q3 z; exact z q4)] at hX
      refine And.intro hin (And.intro hin ?_)
      exact ih (i + 1) _ e1 (k_up f w (e_va e1)) (by omega) (by rw [hx, nI_1]) hI1 hX
  have l := loop 9 0 0 (v_wi e9 (k_or e9)) (F 4) (by omega) nI_0.symm hI9 hX
  rw [va_upI, hw] at l
  exact l

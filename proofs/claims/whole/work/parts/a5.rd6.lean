/-! ===== Reader: lines of plan, clash ===== -/
def k_pl2 (ta : Nat → Int32) (ln : Int32) (N : Int32 × eT) (pn : Int32) (f8 : Nat → Int32) : Int32 × eT × Int32 × (Nat → Int32) :=
  if N.1 = 0 then (0, N.2, pn, f8) else ((k_ts ta ln (v_wi N.2 (k_or N.2))).1, (k_ts ta ln (v_wi N.2 (k_or N.2))).2, pn + 1, upd f8 pn.toNatClampNeg (e_va N.2))
def k_pl (ta : Nat → Int32) (ln : Int32) (e : eT) (pn : Int32) (f8 : Nat → Int32) : Int32 × eT × Int32 × (Nat → Int32) :=
  if pn < 6 then k_pl2 ta ln (k_tn ta ln e 7 0) pn f8 else (0, k_bl e 5 (e_fi e), pn, f8)
def c_X1_takePlanned : sCtr := ((yX1_takePlanned, cX1_takePlanned, 1, (some .boolean)), (2, 0, 3, 69), false,
  rdfp,
  fun vs L => ∃ (e : eT) (ln : Int32) (ta : Nat → Int32) (s : Nat → Int32) (F : Nat → Nat → Int32) (t m : Nat), vs = [.ref 0] ∧ L = rdW e ln ta s F ∧ ln = nI t ∧ t ≤ 160 ∧ kI e t ∧ s 15 = nI m ∧ m ≤ 6,
  fun _ L r L' => ∃ X, X = k_pl (bF L 2) (oI L 1 1) (rE L) (oI L 3 15) (bF L 11) ∧ r = some (.int X.1) ∧ L' = rdL L X.2.1 (upd (oI L 3) 15 X.2.2.1) (va_up (bG 3 L) 8 X.2.2.2))
theorem sta_X1_takePlanned : s_Sta c_X1_takePlanned := ⟨⟨by decide +kernel, by decide +kernel, by decide +kernel⟩, List.mem_of_getElem? (i := 472) (by decide +kernel), List.mem_of_getElem? (i := 66) (by decide +kernel), ⟨List.mem_of_getElem? (i := 471) (by decide +kernel), List.mem_of_getElem? (i := 14) (by decide +kernel), Or.inl ⟨_, rfl, rfl⟩⟩⟩

def k_X1_takePlanned : List sBk := [
  (0, false, [true], [o0 0 (.aload_n 0), oN 1 (.getfield 12) [1, 0, 212], oN 4 (.getfield 185) [0, 15, 165], oK 7 (.bipush 6) (.int 6), oN 9 (.if_icmp .lt 13) [1], o0 12 (.aload_n 0), oK 13 (.iconst 5) (.int 5), o0 14 (.aload_n 0), oN 15 (.getfield 77) [1, 5, 220], oC 18 (.invokevirtual 63) [357] c_X1_blame, o0 21 .ireturn]),
  (22, false, [true], [o0 22 (.aload_n 0), oK 23 (.bipush 7) (.int 7), oK 25 (.iconst 0) (.int 0), oC 26 (.invokevirtual 153) [437] c_X1_takeNumber, oN 29 (.ifCond .ne 5) [2], oK 32 (.iconst 0) (.int 0), o0 33 .ireturn]),
  (34, false, [true], [o0 34 (.aload_n 0), oN 35 (.getfield 12) [1, 0, 212], oN 38 (.getfield 188) [0, 14, 162], o0 41 (.aload_n 0), oN 42 (.getfield 12) [1, 0, 212], oN 45 (.getfield 185) [0, 15, 165], o0 48 (.aload_n 0), oN 49 (.getfield 84) [1, 7, 222], o0 52 .iastore, o0 53 (.aload_n 0), oN 54 (.getfield 12) [1, 0, 212], o0 57 .dup, oN 58 (.getfield 185) [0, 15, 165], oK 61 (.iconst 1) (.int 1), o0 62 .iadd, oN 63 (.putfield 185) [0, 15, 165], o0 66 (.aload_n 0), o0 67 .dup, oN 68 (.getfield 39) [1, 10, 225], oK 71 (.iconst 1) (.int 1), o0 72 (.aload_n 0), oN 73 (.getfield 84) [1, 7, 222], o0 76 .ishl, o0 77 .ior, oN 78 (.putfield 39) [1, 10, 225], o0 81 (.aload_n 0), oC 82 (.invokevirtual 150) [428] c_X1_takeStop, o0 85 .ireturn])]
set_option maxRecDepth 100000 in
theorem ck_X1_takePlanned : s_ck RX1 cX1_takePlanned 1 3 69 k_X1_takePlanned = true := by decide +kernel

theorem okb_X1_takePlanned : s_okb k_X1_takePlanned := by
  show s_Ok c_X1_blame ∧ s_Ok c_X1_takeNumber ∧ s_Ok c_X1_takeStop ∧ True
  exact ⟨ok_X1_blame, ok_X1_takeNumber, ok_X1_takeStop, trivial⟩
set_option maxRecDepth 100000 in
set_option maxHeartbeats 4000000 in
theorem ok_X1_takePlanned : s_Ok c_X1_takePlanned := by
  refine s_ok_of k_X1_takePlanned (by decide +kernel) sta_X1_takePlanned ck_X1_takePlanned okb_X1_takePlanned ?_
  rintro vs L ⟨e, ln, ta, s, F, t, m, rfl, rfl, hln, ht2, hI, hm, hm6⟩
  refine ⟨rfl, fun G hG => ?_⟩
  obtain ⟨X, hX⟩ : ∃ X, X = k_pl ta ln e (s 15) (F 8) := ⟨_, rfl⟩
  have fin : ∀ (v d2 : Int32) (e2 : eT) (f : Nat → Int32), v = 0 ∨ v = 1 → X = (v, e2, d2, f) → (v = 0 ∨ v = 1) ∧ s_PP (some .boolean) false c_X1_takePlanned.2.2.2.2.2 [.ref 0] (rdW e ln ta s F) (some (.int v)) (rdW e2 ln ta (upd s 15 d2) (va_up F 8 f)) := by
    intro v d2 e2 f h01 h
    refine ⟨h01, rfl, ⟨(v, e2, d2, f), ?_, rfl, rfl⟩, fun h => by cases h⟩
    show (v, e2, d2, f) = k_pl (bF (rdW e ln ta s F) 2) (oI (rdW e ln ta s F) 1 1) (rE (rdW e ln ta s F)) (s 15) (F 8)
    rw [rB_W, rO_W, rE_W, ← hX, h]
  unfold k_pl at hX
  refine hG 0 _ _ _ (And.intro (fun c => ?_) (fun c => ?_))
  rotate_left
  · have c : ¬ s 15 < 6 := c
    rw [if_neg c] at hX
    refine And.intro ⟨_, _, e, 5, e_fi (e), rfl, rfl⟩ ?_
    rintro r L' ⟨rfl, hL⟩
    obtain rfl : L' = [rdO 1003 1001 (k_bl (e) 5 (e_fi (e)))] := hL
    exact fin 0 (s 15) (k_bl e 5 (e_fi e)) (F 8) (Or.inl rfl) hX
  have c : s 15 < 6 := c
  rw [if_pos c] at hX
  have hm5 : m < 6 := by rw [hm, show (6 : Int32) = nI 6 from rfl, nI_ltI (by omega) (by omega)] at c; exact c
  obtain ⟨pp, hpp, hppt⟩ := id hI
  refine And.intro ⟨_, e, ln, ta, 7, 0, pp, t, rfl, rfl, hln, ht2, hpp, hppt⟩ ?_
  rintro r L' ⟨hr, hL⟩
  replace hr : r = some (.int (k_tn (bF (rd3 1003 (e) ln ta) 2) (oI (rd3 1003 (e) ln ta) 1 1) (rE (rd3 1003 (e) ln ta)) 7 0).1) := hr
  replace hL : L' = rd3L (rd3 1003 (e) ln ta) (k_tn (bF (rd3 1003 (e) ln ta) 2) (oI (rd3 1003 (e) ln ta) 1 1) (rE (rd3 1003 (e) ln ta)) 7 0).2 := hL
  rw [rB_3, rO_3, rE_3] at hr
  rw [rB_3, rO_3, rE_3, rL_3] at hL
  obtain ⟨N1, hN1⟩ : ∃ N, N = k_tn ta ln (e) 7 0 := ⟨_, rfl⟩
  rw [← hN1] at hr hL
  obtain ⟨v1, e1⟩ := N1
  dsimp only at hr hL
  subst hr hL
  rw [← hN1, k_pl2] at hX
  dsimp only at hX
  have hI1 : kI e1 t := by
    have k := kI_tn (ta := ta) ht2 hI 7 0
    rw [← hln, ← hN1] at k
    exact k
  refine And.intro (fun q => ?_) (fun q => ?_)
  · have q : v1 = 0 := q
    rw [if_pos q] at hX
    exact fin 0 (s 15) e1 (F 8) (Or.inl rfl) hX
  have q : ¬ v1 = 0 := q
  rw [if_neg q] at hX
  refine And.intro (by show vp_in (s 15) 6; rw [hm]; exact vp_in_nI hm5 (by omega)) ?_
  have h01 := k_ts_01 ta ln (v_wi e1 (k_or e1))
  have hI3 : kI (v_wi e1 (k_or e1)) t := hI1
  obtain ⟨pp, hpp, hppt⟩ := id hI3
  refine And.intro ⟨_, v_wi e1 (k_or e1), ln, ta, pp, t, rfl, rfl, hln, ht2, hpp, hppt⟩ ?_
  rintro r L' ⟨hr, hL⟩
  replace hr : r = some (.int (k_ts (bF (rd3 1003 (v_wi e1 (k_or e1)) ln ta) 2) (oI (rd3 1003 (v_wi e1 (k_or e1)) ln ta) 1 1) (rE (rd3 1003 (v_wi e1 (k_or e1)) ln ta))).1) := hr
  replace hL : L' = rd3L (rd3 1003 (v_wi e1 (k_or e1)) ln ta) (k_ts (bF (rd3 1003 (v_wi e1 (k_or e1)) ln ta) 2) (oI (rd3 1003 (v_wi e1 (k_or e1)) ln ta) 1 1) (rE (rd3 1003 (v_wi e1 (k_or e1)) ln ta))).2 := hL
  rw [rB_3, rO_3, rE_3] at hr
  rw [rB_3, rO_3, rE_3, rL_3] at hL
  obtain ⟨N2, hN2⟩ : ∃ N, N = k_ts ta ln (v_wi e1 (k_or e1)) := ⟨_, rfl⟩
  rw [← hN2] at hr hL
  obtain ⟨v2, e2⟩ := N2
  dsimp only at hr hL
  subst hr hL
  rw [← hN2] at hX h01
  exact fin v2 _ e2 _ h01 hX
def k_or2 (e : eT) (w : Int32) : Int32 := e_wi e ||| (((1 : Int32) <<< (w &&& 31)) ||| ((1 : Int32) <<< (e_va e &&& 31)))
def k_c5 (f : Nat → Int32) (w v : Int32) : Nat → Int32 := upd (upd f w.toNatClampNeg (f w.toNatClampNeg ||| ((1 : Int32) <<< (v &&& 31)))) v.toNatClampNeg (upd f w.toNatClampNeg (f w.toNatClampNeg ||| ((1 : Int32) <<< (v &&& 31))) v.toNatClampNeg ||| ((1 : Int32) <<< (w &&& 31)))
def k_cl2 (ta : Nat → Int32) (ln w : Int32) (N : Int32 × eT) (f : Nat → Int32) : Int32 × eT × (Nat → Int32) :=
  if N.1 = 0 then (0, N.2, f)
  else if e_va N.2 = w ∨ ¬ p_hb (f w.toNatClampNeg) (e_va N.2) = 0 then (0, k_bl N.2 4 (e_fi N.2), f)
  else ((k_ts ta ln (v_wi N.2 (k_or2 N.2 w))).1, (k_ts ta ln (v_wi N.2 (k_or2 N.2 w))).2, k_c5 f w (e_va N.2))
def k_cl1 (ta : Nat → Int32) (ln : Int32) (N : Int32 × eT) (f : Nat → Int32) : Int32 × eT × (Nat → Int32) :=
  if N.1 = 0 then (0, N.2, f) else k_cl2 ta ln (e_va N.2) (k_tn ta ln N.2 7 0) f
def c_X1_takeClash : sCtr := ((yX1_takeClash, cX1_takeClash, 2, (some .boolean)), (2, 0, 3, 69), false,
  rdfp,
  fun vs L => ∃ (e : eT) (ln : Int32) (ta : Nat → Int32) (s : Nat → Int32) (F : Nat → Nat → Int32) (t : Nat), vs = [.ref 0] ∧ L = rdW e ln ta s F ∧ ln = nI t ∧ t ≤ 160 ∧ kI e t,
  fun _ L r L' => ∃ X, X = k_cl1 (bF L 2) (oI L 1 1) (k_tn (bF L 2) (oI L 1 1) (rE L) 7 0) (bF L 8) ∧ r = some (.int X.1) ∧ L' = rdL L X.2.1 (oI L 3) (va_up (bG 3 L) 5 X.2.2))
theorem sta_X1_takeClash : s_Sta c_X1_takeClash := ⟨⟨by decide +kernel, by decide +kernel, by decide +kernel⟩, List.mem_of_getElem? (i := 457) (by decide +kernel), List.mem_of_getElem? (i := 66) (by decide +kernel), ⟨List.mem_of_getElem? (i := 456) (by decide +kernel), List.mem_of_getElem? (i := 11) (by decide +kernel), Or.inl ⟨_, rfl, rfl⟩⟩⟩

def k_X1_takeClash : List sBk := [
  (0, false, [true, false], [o0 0 (.aload_n 0), oK 1 (.bipush 7) (.int 7), oK 3 (.iconst 0) (.int 0), oC 4 (.invokevirtual 153) [437] c_X1_takeNumber, oN 7 (.ifCond .ne 5) [1], oK 10 (.iconst 0) (.int 0), o0 11 .ireturn]),
  (12, false, [true, false], [o0 12 (.aload_n 0), oN 13 (.getfield 84) [1, 7, 222], o0 16 (.istore_n 1), o0 17 (.aload_n 0), oK 18 (.bipush 7) (.int 7), oK 20 (.iconst 0) (.int 0), oC 21 (.invokevirtual 153) [437] c_X1_takeNumber, oN 24 (.ifCond .ne 5) [2], oK 27 (.iconst 0) (.int 0), o0 28 .ireturn]),
  (29, false, [true, true], [o0 29 (.aload_n 0), oN 30 (.getfield 84) [1, 7, 222], o0 33 (.iload_n 1), oN 34 (.if_icmp .eq 22) [3], o0 37 (.aload_n 0), oN 38 (.getfield 12) [1, 0, 212], oN 41 (.getfield 177) [0, 11, 153], o0 44 (.iload_n 1), o0 45 .iaload, o0 46 (.aload_n 0), oN 47 (.getfield 84) [1, 7, 222], oC 50 (.invokestatic 171) [2, 0] c_X5_hasBit, oN 53 (.ifCond .eq 13) [4], oN 56 .nop [3]]),
  (56, true, [true, false], [o0 56 (.aload_n 0), oK 57 (.iconst 4) (.int 4), o0 58 (.aload_n 0), oN 59 (.getfield 77) [1, 5, 220], oC 62 (.invokevirtual 63) [357] c_X1_blame, o0 65 .ireturn]),
  (66, false, [true, true], [o0 66 (.aload_n 0), oN 67 (.getfield 12) [1, 0, 212], oN 70 (.getfield 177) [0, 11, 153], o0 73 (.iload_n 1), o0 74 .dup2, o0 75 .iaload, oK 76 (.iconst 1) (.int 1), o0 77 (.aload_n 0), oN 78 (.getfield 84) [1, 7, 222], o0 81 .ishl, o0 82 .ior, o0 83 .iastore, o0 84 (.aload_n 0), oN 85 (.getfield 12) [1, 0, 212], oN 88 (.getfield 177) [0, 11, 153], o0 91 (.aload_n 0), oN 92 (.getfield 84) [1, 7, 222], o0 95 .dup2, o0 96 .iaload, oK 97 (.iconst 1) (.int 1), o0 98 (.iload_n 1), o0 99 .ishl, o0 100 .ior, o0 101 .iastore, o0 102 (.aload_n 0), o0 103 .dup, oN 104 (.getfield 39) [1, 10, 225], oK 107 (.iconst 1) (.int 1), o0 108 (.iload_n 1), o0 109 .ishl, oK 110 (.iconst 1) (.int 1), o0 111 (.aload_n 0), oN 112 (.getfield 84) [1, 7, 222], o0 115 .ishl, o0 116 .ior, o0 117 .ior, oN 118 (.putfield 39) [1, 10, 225], o0 121 (.aload_n 0), oC 122 (.invokevirtual 150) [428] c_X1_takeStop, o0 125 .ireturn])]
set_option maxRecDepth 100000 in
theorem ck_X1_takeClash : s_ck RX1 cX1_takeClash 2 3 69 k_X1_takeClash = true := by decide +kernel

theorem okb_X1_takeClash : s_okb k_X1_takeClash := by
  show s_Ok c_X1_takeNumber ∧ s_Ok c_X1_takeNumber ∧ s_Ok c_X5_hasBit ∧ s_Ok c_X1_blame ∧ s_Ok c_X1_takeStop ∧ True
  exact ⟨ok_X1_takeNumber, ok_X1_takeNumber, ok_X5_hasBit, ok_X1_blame, ok_X1_takeStop, trivial⟩
set_option maxRecDepth 100000 in
set_option maxHeartbeats 4000000 in
theorem ok_X1_takeClash : s_Ok c_X1_takeClash := by
  refine s_ok_of k_X1_takeClash (by decide +kernel) sta_X1_takeClash ck_X1_takeClash okb_X1_takeClash ?_
  rintro vs L ⟨e, ln, ta, s, F, t, rfl, rfl, hln, ht2, hI⟩
  refine ⟨rfl, fun G hG => ?_⟩
  obtain ⟨X, hX⟩ : ∃ X, X = k_cl1 ta ln (k_tn ta ln e 7 0) (F 5) := ⟨_, rfl⟩
  have fin : ∀ (v : Int32) (e2 : eT) (f : Nat → Int32), v = 0 ∨ v = 1 → X = (v, e2, f) → (v = 0 ∨ v = 1) ∧ s_PP (some .boolean) false c_X1_takeClash.2.2.2.2.2 [.ref 0] (rdW e ln ta s F) (some (.int v)) (rdW e2 ln ta s (va_up F 5 f)) := by
    intro v e2 f h01 h
    refine ⟨h01, rfl, ⟨(v, e2, f), ?_, rfl, rfl⟩, fun h => by cases h⟩
    show (v, e2, f) = k_cl1 (bF (rdW e ln ta s F) 2) (oI (rdW e ln ta s F) 1 1) (k_tn (bF (rdW e ln ta s F) 2) (oI (rdW e ln ta s F) 1 1) (rE (rdW e ln ta s F)) 7 0) (F 5)
    rw [rB_W, rO_W, rE_W, ← hX, h]
  refine hG 0 _ _ _ ?_
  obtain ⟨pp, hpp, hppt⟩ := id hI
  refine And.intro ⟨_, e, ln, ta, 7, 0, pp, t, rfl, rfl, hln, ht2, hpp, hppt⟩ ?_
  rintro r L' ⟨hr, hL⟩
  replace hr : r = some (.int (k_tn (bF (rd3 1003 (e) ln ta) 2) (oI (rd3 1003 (e) ln ta) 1 1) (rE (rd3 1003 (e) ln ta)) 7 0).1) := hr
  replace hL : L' = rd3L (rd3 1003 (e) ln ta) (k_tn (bF (rd3 1003 (e) ln ta) 2) (oI (rd3 1003 (e) ln ta) 1 1) (rE (rd3 1003 (e) ln ta)) 7 0).2 := hL
  rw [rB_3, rO_3, rE_3] at hr
  rw [rB_3, rO_3, rE_3, rL_3] at hL
  obtain ⟨N1, hN1⟩ : ∃ N, N = k_tn ta ln (e) 7 0 := ⟨_, rfl⟩
  rw [← hN1] at hr hL
  obtain ⟨v1, e1⟩ := N1
  dsimp only at hr hL
  subst hr hL
  rw [← hN1, k_cl1] at hX
  dsimp only at hX
  have hI1 : kI e1 t := by
    have k := kI_tn (ta := ta) ht2 hI 7 0
    rw [← hln, ← hN1] at k
    exact k
  refine And.intro (fun q => ?_) (fun q => ?_)
  · have q : v1 = 0 := q
    rw [if_pos q] at hX
    exact fin 0 e1 (F 5) (Or.inl rfl) hX
  have q : ¬ v1 = 0 := q
  rw [if_neg q] at hX
  rw [hln] at hN1
  obtain ⟨_, w, hw, hwe⟩ := k_tn_ok (m := 7) ht2 hI (by decide) hN1 q
  obtain ⟨W, hW⟩ : ∃ W, W = e_va e1 := ⟨_, rfl⟩
  rw [← hW] at hX hwe
  have hin : ∀ x : Int32, (∃ j : Nat, j ≤ 7 ∧ x = nI j) → vp_in x 8 := fun x ⟨j, hj, hx⟩ => by rw [hx]; exact vp_in_nI (by omega) (by omega)
  have hinW : vp_in W 8 := hin W ⟨w, hw, hwe⟩
  obtain ⟨pp, hpp, hppt⟩ := id hI1
  refine And.intro ⟨_, e1, ln, ta, 7, 0, pp, t, rfl, rfl, hln, ht2, hpp, hppt⟩ ?_
  rintro r L' ⟨hr, hL⟩
  replace hr : r = some (.int (k_tn (bF (rd3 1003 (e1) ln ta) 2) (oI (rd3 1003 (e1) ln ta) 1 1) (rE (rd3 1003 (e1) ln ta)) 7 0).1) := hr
  replace hL : L' = rd3L (rd3 1003 (e1) ln ta) (k_tn (bF (rd3 1003 (e1) ln ta) 2) (oI (rd3 1003 (e1) ln ta) 1 1) (rE (rd3 1003 (e1) ln ta)) 7 0).2 := hL
  rw [rB_3, rO_3, rE_3] at hr
  rw [rB_3, rO_3, rE_3, rL_3] at hL
  obtain ⟨N2, hN2⟩ : ∃ N, N = k_tn ta ln (e1) 7 0 := ⟨_, rfl⟩
  rw [← hN2] at hr hL
  obtain ⟨v2, e2⟩ := N2
  dsimp only at hr hL
  subst hr hL
  rw [← hN2, k_cl2] at hX
  dsimp only at hX
  have hI2 : kI e2 t := by
    have k := kI_tn (ta := ta) ht2 hI1 7 0
    rw [← hln, ← hN2] at k
    exact k
  refine And.intro (fun q2 => ?_) (fun q2 => ?_)
  · have q2 : v2 = 0 := q2
    rw [if_pos q2] at hX
    exact fin 0 e2 (F 5) (Or.inl rfl) hX
  have q2 : ¬ v2 = 0 := q2
  rw [if_neg q2] at hX
  rw [hln] at hN2
  obtain ⟨_, y, hy, hye⟩ := k_tn_ok (m := 7) ht2 hI1 (by decide) hN2 q2
  have hinV : vp_in (e_va e2) 8 := hin _ ⟨y, hy, hye⟩
  have g3 : (e_va e2 = W ∨ ¬ p_hb (F 5 W.toNatClampNeg) (e_va e2) = 0) → G 3 [some (.ref 0), none] [] (rdW e2 ln ta s F) := by
    intro hbad
    rw [if_pos hbad] at hX
    refine hG 3 _ _ _ ?_
    refine And.intro ⟨_, _, e2, 4, e_fi (e2), rfl, rfl⟩ ?_
    rintro r L' ⟨rfl, hL⟩
    obtain rfl : L' = [rdO 1003 1001 (k_bl (e2) 4 (e_fi (e2)))] := hL
    exact fin 0 (k_bl e2 4 (e_fi e2)) (F 5) (Or.inl rfl) hX
  rw [hW] at hinW g3 hX
  refine And.intro (fun q3 => ?_) (fun q3 => ?_)
  · exact g3 (Or.inl q3)
  have q3 : ¬ e_va e2 = e_va e1 := q3
  refine And.intro hinW (And.intro ⟨_, _, rfl⟩ ?_)
  intro r hr
  obtain ⟨c, hc⟩ : ∃ c, c = p_hb (F 5 (e_va e1).toNatClampNeg) (e_va e2) := ⟨_, rfl⟩
  obtain rfl : r = some (.int c) := by rw [hc]; exact hr
  refine And.intro (fun q4 => ?_) (fun q4 => ?_)
  rotate_left
  · have q4 : ¬ c = 0 := q4
    rw [hc] at q4
    exact g3 (Or.inr q4)
  have q4 : c = 0 := q4
  rw [hc] at q4
  rw [if_neg (by rintro (z | z); exact q3 z; exact z q4)] at hX
  refine And.intro hinW (And.intro hinW (And.intro hinV (And.intro hinV ?_)))
  have h01 := k_ts_01 ta ln (v_wi e2 (k_or2 e2 (e_va e1)))
  have hI3 : kI (v_wi e2 (k_or2 e2 (e_va e1))) t := hI2
  obtain ⟨pp, hpp, hppt⟩ := id hI3
  refine And.intro ⟨_, v_wi e2 (k_or2 e2 (e_va e1)), ln, ta, pp, t, rfl, rfl, hln, ht2, hpp, hppt⟩ ?_
  rintro r L' ⟨hr, hL⟩
  replace hr : r = some (.int (k_ts (bF (rd3 1003 (v_wi e2 (k_or2 e2 (e_va e1))) ln ta) 2) (oI (rd3 1003 (v_wi e2 (k_or2 e2 (e_va e1))) ln ta) 1 1) (rE (rd3 1003 (v_wi e2 (k_or2 e2 (e_va e1))) ln ta))).1) := hr
  replace hL : L' = rd3L (rd3 1003 (v_wi e2 (k_or2 e2 (e_va e1))) ln ta) (k_ts (bF (rd3 1003 (v_wi e2 (k_or2 e2 (e_va e1))) ln ta) 2) (oI (rd3 1003 (v_wi e2 (k_or2 e2 (e_va e1))) ln ta) 1 1) (rE (rd3 1003 (v_wi e2 (k_or2 e2 (e_va e1))) ln ta))).2 := hL
  rw [rB_3, rO_3, rE_3] at hr
  rw [rB_3, rO_3, rE_3, rL_3] at hL
  obtain ⟨N3, hN3⟩ : ∃ N, N = k_ts ta ln (v_wi e2 (k_or2 e2 (e_va e1))) := ⟨_, rfl⟩
  rw [← hN3] at hr hL
  obtain ⟨v3, e3⟩ := N3
  dsimp only at hr hL
  subst hr hL
  rw [← hN3] at hX h01
  exact fin v3 e3 (k_c5 (F 5) (e_va e1) (e_va e2)) h01 hX

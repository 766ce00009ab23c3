/-! ===== Reader: lines of depth, list, plan ===== -/
def rdW (e : eT) (ln : Int32) (ta : Nat → Int32) (s : Nat → Int32) (F : Nat → Nat → Int32) : sH := rdO 3 1 e :: .inr (.inr (4, [.ref 2, .int ln])) :: .inl (1, 160, ta) :: bkK 3 s F
def rdfp (vs : sS) (L : sH) : List Nat := match vs with
  | .ref r :: _ => r :: s_rf L r 3 :: s_rf L (s_rf L r 3) 0 :: bkP L (s_rf L r 0)
  | _ => []
def rdL (L : sH) (e : eT) (s : Nat → Int32) (F : Nat → Nat → Int32) : sH := rdW e (oI L 1 1) (bF L 2) s F
theorem rE_W (e : eT) (ln : Int32) (ta s : Nat → Int32) (F : Nat → Nat → Int32) : rE (rdW e ln ta s F) = e := rfl
theorem rB_W (e : eT) (ln : Int32) (ta s : Nat → Int32) (F : Nat → Nat → Int32) : bF (rdW e ln ta s F) 2 = ta := rfl
theorem rO_W (e : eT) (ln : Int32) (ta s : Nat → Int32) (F : Nat → Nat → Int32) : oI (rdW e ln ta s F) 1 1 = ln := rfl
def v_dt (e : eT) : eT := (e.1, e.2.1, e.2.2.1, e.2.2.2.1, e.2.2.2.2.1, e.2.2.2.2.2.1, 1, e.2.2.2.2.2.2.2)
def v_wi (e : eT) (w : Int32) : eT := (e.1, e.2.1, e.2.2.1, e.2.2.2.1, e.2.2.2.2.1, e.2.2.2.2.2.1, e.2.2.2.2.2.2.1, e.2.2.2.2.2.2.2.1, w)
def k_de (ta : Nat → Int32) (ln : Int32) (e : eT) (d : Int32) : Int32 × eT × Int32 :=
  if e_dt e = 0 then (if (k_tn ta ln (v_dt e) 8 0).1 = 0 then (0, (k_tn ta ln (v_dt e) 8 0).2, d) else ((k_ts ta ln (k_tn ta ln (v_dt e) 8 0).2).1, (k_ts ta ln (k_tn ta ln (v_dt e) 8 0).2).2, e_va (k_tn ta ln (v_dt e) 8 0).2))
  else (0, k_bl e 4 (e_fi e), d)
theorem k_ts_01 (ta : Nat → Int32) (ln : Int32) (e : eT) : (k_ts ta ln e).1 = 0 ∨ (k_ts ta ln e).1 = 1 := by
  unfold k_ts
  split
  · exact Or.inl rfl
  split
  · exact Or.inr rfl
  · exact Or.inl rfl
def c_X1_takeDepth : sCtr := ((yX1_takeDepth, cX1_takeDepth, 1, (some .boolean)), (2, 0, 3, 69), false,
  rdfp,
  fun vs L => ∃ (e : eT) (ln : Int32) (ta : Nat → Int32) (s : Nat → Int32) (F : Nat → Nat → Int32) (t : Nat), vs = [.ref 0] ∧ L = rdW e ln ta s F ∧ ln = nI t ∧ t ≤ 160 ∧ kI e t,
  fun _ L r L' => ∃ X, X = k_de (bF L 2) (oI L 1 1) (rE L) (oI L 3 2) ∧ r = some (.int X.1) ∧ L' = rdL L X.2.1 (upd (oI L 3) 2 X.2.2) (bG 3 L))
theorem sta_X1_takeDepth : s_Sta c_X1_takeDepth := ⟨⟨by decide +kernel, by decide +kernel, by decide +kernel⟩, List.mem_of_getElem? (i := 467) (by decide +kernel), List.mem_of_getElem? (i := 66) (by decide +kernel), ⟨List.mem_of_getElem? (i := 466) (by decide +kernel), List.mem_of_getElem? (i := 13) (by decide +kernel), Or.inl ⟨_, rfl, rfl⟩⟩⟩

def k_X1_takeDepth : List sBk := [
  (0, false, [true], [o0 0 (.aload_n 0), oN 1 (.getfield 32) [1, 8, 223], oN 4 (.ifCond .eq 13) [1], o0 7 (.aload_n 0), oK 8 (.iconst 4) (.int 4), o0 9 (.aload_n 0), oN 10 (.getfield 77) [1, 5, 220], oC 13 (.invokevirtual 63) [357] c_X1_blame, o0 16 .ireturn]),
  (17, false, [true], [o0 17 (.aload_n 0), oK 18 (.iconst 1) (.int 1), oN 19 (.putfield 32) [1, 8, 223], o0 22 (.aload_n 0), oK 23 (.bipush 8) (.int 8), oK 25 (.iconst 0) (.int 0), oC 26 (.invokevirtual 153) [437] c_X1_takeNumber, oN 29 (.ifCond .ne 5) [2], oK 32 (.iconst 0) (.int 0), o0 33 .ireturn]),
  (34, false, [true], [o0 34 (.aload_n 0), oN 35 (.getfield 12) [1, 0, 212], o0 38 (.aload_n 0), oN 39 (.getfield 84) [1, 7, 222], oN 42 (.putfield 183) [0, 2, 124], o0 45 (.aload_n 0), oC 46 (.invokevirtual 150) [428] c_X1_takeStop, o0 49 .ireturn])]
set_option maxRecDepth 100000 in
theorem ck_X1_takeDepth : s_ck RX1 cX1_takeDepth 1 3 69 k_X1_takeDepth = true := by decide +kernel

theorem okb_X1_takeDepth : s_okb k_X1_takeDepth := by
  show s_Ok c_X1_blame ∧ s_Ok c_X1_takeNumber ∧ s_Ok c_X1_takeStop ∧ True
  exact ⟨ok_X1_blame, ok_X1_takeNumber, ok_X1_takeStop, trivial⟩
set_option maxRecDepth 100000 in
set_option maxHeartbeats 4000000 in
theorem ok_X1_takeDepth : s_Ok c_X1_takeDepth := by
  refine s_ok_of k_X1_takeDepth (by decide +kernel) sta_X1_takeDepth ck_X1_takeDepth okb_X1_takeDepth ?_
  rintro vs L ⟨e, ln, ta, s, F, t, rfl, rfl, hln, ht2, hI⟩
  refine ⟨rfl, fun G hG => ?_⟩
  obtain ⟨X, hX⟩ : ∃ X, X = k_de ta ln e (s 2) := ⟨_, rfl⟩
  have fin : ∀ (v d2 : Int32) (e2 : eT), v = 0 ∨ v = 1 → X = (v, e2, d2) → (v = 0 ∨ v = 1) ∧ s_PP (some .boolean) false c_X1_takeDepth.2.2.2.2.2 [.ref 0] (rdW e ln ta s F) (some (.int v)) (rdW e2 ln ta (upd s 2 d2) F) := by
    intro v d2 e2 h01 h
    refine ⟨h01, rfl, ⟨(v, e2, d2), ?_, rfl, rfl⟩, fun h => by cases h⟩
    show (v, e2, d2) = k_de (bF (rdW e ln ta s F) 2) (oI (rdW e ln ta s F) 1 1) (rE (rdW e ln ta s F)) (s 2)
    rw [rB_W, rO_W, rE_W, ← hX, h]
  unfold k_de at hX
  refine hG 0 _ _ _ (And.intro (fun c => ?_) (fun c => ?_))
  rotate_left
  · have c : ¬ e_dt e = 0 := c
    rw [if_neg c] at hX
    refine And.intro ⟨_, _, e, 4, e_fi (e), rfl, rfl⟩ ?_
    rintro r L' ⟨rfl, hL⟩
    obtain rfl : L' = [rdO 1003 1001 (k_bl (e) 4 (e_fi (e)))] := hL
    exact fin 0 (s 2) (k_bl e 4 (e_fi e)) (Or.inl rfl) hX
  have c : e_dt e = 0 := c
  rw [if_pos c] at hX
  refine And.intro (Or.inr rfl) ?_
  have hI0 : kI (v_dt e) t := hI
  obtain ⟨pp, hpp, hppt⟩ := id hI0
  refine And.intro ⟨_, v_dt e, ln, ta, 8, 0, pp, t, rfl, rfl, hln, ht2, hpp, hppt⟩ ?_
  rintro r L' ⟨hr, hL⟩
  replace hr : r = some (.int (k_tn (bF (rd3 1003 (v_dt e) ln ta) 2) (oI (rd3 1003 (v_dt e) ln ta) 1 1) (rE (rd3 1003 (v_dt e) ln ta)) 8 0).1) := hr
  replace hL : L' = rd3L (rd3 1003 (v_dt e) ln ta) (k_tn (bF (rd3 1003 (v_dt e) ln ta) 2) (oI (rd3 1003 (v_dt e) ln ta) 1 1) (rE (rd3 1003 (v_dt e) ln ta)) 8 0).2 := hL
  rw [rB_3, rO_3, rE_3] at hr
  rw [rB_3, rO_3, rE_3, rL_3] at hL
  obtain ⟨N1, hN1⟩ : ∃ N, N = k_tn ta ln (v_dt e) 8 0 := ⟨_, rfl⟩
  rw [← hN1] at hr hL
  obtain ⟨v1, e1⟩ := N1
  dsimp only at hr hL
  subst hr hL
  rw [← hN1] at hX
  have hI1 : kI e1 t := by
    have k := kI_tn (ta := ta) ht2 hI0 8 0
    rw [← hln, ← hN1] at k
    exact k
  refine And.intro (fun q => ?_) (fun q => ?_)
  · have q : v1 = 0 := q
    rw [if_pos q] at hX
    exact fin 0 (s 2) e1 (Or.inl rfl) hX
  have q : ¬ v1 = 0 := q
  rw [if_neg q] at hX
  have h01 := k_ts_01 ta ln e1
  obtain ⟨pp, hpp, hppt⟩ := id hI1
  refine And.intro ⟨_, e1, ln, ta, pp, t, rfl, rfl, hln, ht2, hpp, hppt⟩ ?_
  rintro r L' ⟨hr, hL⟩
  replace hr : r = some (.int (k_ts (bF (rd3 1003 (e1) ln ta) 2) (oI (rd3 1003 (e1) ln ta) 1 1) (rE (rd3 1003 (e1) ln ta))).1) := hr
  replace hL : L' = rd3L (rd3 1003 (e1) ln ta) (k_ts (bF (rd3 1003 (e1) ln ta) 2) (oI (rd3 1003 (e1) ln ta) 1 1) (rE (rd3 1003 (e1) ln ta))).2 := hL
  rw [rB_3, rO_3, rE_3] at hr
  rw [rB_3, rO_3, rE_3, rL_3] at hL
  obtain ⟨N2, hN2⟩ : ∃ N, N = k_ts ta ln (e1) := ⟨_, rfl⟩
  rw [← hN2] at hr hL
  obtain ⟨v2, e2⟩ := N2
  dsimp only at hr hL
  subst hr hL
  rw [← hN2] at hX h01
  exact fin v2 (e_va e1) e2 h01 hX
def k_or (e : eT) : Int32 := e_wi e ||| ((1 : Int32) <<< (e_va e &&& 31))
def k_li (ta : Nat → Int32) (ln : Int32) (e : eT) (d : Int32) : Int32 × eT × Int32 :=
  if (k_tn ta ln e 7 0).1 = 0 then (0, (k_tn ta ln e 7 0).2, d)
  else if p_hb d (e_va (k_tn ta ln e 7 0).2) = 0 then
    ((k_ts ta ln (v_wi (k_tn ta ln e 7 0).2 (k_or (k_tn ta ln e 7 0).2))).1, (k_ts ta ln (v_wi (k_tn ta ln e 7 0).2 (k_or (k_tn ta ln e 7 0).2))).2, d ||| ((1 : Int32) <<< (e_va (k_tn ta ln e 7 0).2 &&& 31)))
  else (0, k_bl (k_tn ta ln e 7 0).2 4 (e_fi (k_tn ta ln e 7 0).2), d)
def c_X1_takeListed : sCtr := ((yX1_takeListed, cX1_takeListed, 1, (some .boolean)), (2, 0, 3, 69), false,
  rdfp,
  fun vs L => ∃ (e : eT) (ln : Int32) (ta : Nat → Int32) (s : Nat → Int32) (F : Nat → Nat → Int32) (t : Nat), vs = [.ref 0] ∧ L = rdW e ln ta s F ∧ ln = nI t ∧ t ≤ 160 ∧ kI e t,
  fun _ L r L' => ∃ X, X = k_li (bF L 2) (oI L 1 1) (rE L) (oI L 3 6) ∧ r = some (.int X.1) ∧ L' = rdL L X.2.1 (upd (oI L 3) 6 X.2.2) (bG 3 L))
theorem sta_X1_takeListed : s_Sta c_X1_takeListed := ⟨⟨by decide +kernel, by decide +kernel, by decide +kernel⟩, List.mem_of_getElem? (i := 462) (by decide +kernel), List.mem_of_getElem? (i := 66) (by decide +kernel), ⟨List.mem_of_getElem? (i := 461) (by decide +kernel), List.mem_of_getElem? (i := 12) (by decide +kernel), Or.inl ⟨_, rfl, rfl⟩⟩⟩

def k_X1_takeListed : List sBk := [
  (0, false, [true], [o0 0 (.aload_n 0), oK 1 (.bipush 7) (.int 7), oK 3 (.iconst 0) (.int 0), oC 4 (.invokevirtual 153) [437] c_X1_takeNumber, oN 7 (.ifCond .ne 5) [1], oK 10 (.iconst 0) (.int 0), o0 11 .ireturn]),
  (12, false, [true], [o0 12 (.aload_n 0), oN 13 (.getfield 12) [1, 0, 212], oN 16 (.getfield 180) [0, 6, 137], o0 19 (.aload_n 0), oN 20 (.getfield 84) [1, 7, 222], oC 23 (.invokestatic 171) [2, 0] c_X5_hasBit, oN 26 (.ifCond .eq 13) [2], o0 29 (.aload_n 0), oK 30 (.iconst 4) (.int 4), o0 31 (.aload_n 0), oN 32 (.getfield 77) [1, 5, 220], oC 35 (.invokevirtual 63) [357] c_X1_blame, o0 38 .ireturn]),
  (39, false, [true], [o0 39 (.aload_n 0), oN 40 (.getfield 12) [1, 0, 212], o0 43 .dup, oN 44 (.getfield 180) [0, 6, 137], oK 47 (.iconst 1) (.int 1), o0 48 (.aload_n 0), oN 49 (.getfield 84) [1, 7, 222], o0 52 .ishl, o0 53 .ior, oN 54 (.putfield 180) [0, 6, 137], o0 57 (.aload_n 0), o0 58 .dup, oN 59 (.getfield 39) [1, 10, 225], oK 62 (.iconst 1) (.int 1), o0 63 (.aload_n 0), oN 64 (.getfield 84) [1, 7, 222], o0 67 .ishl, o0 68 .ior, oN 69 (.putfield 39) [1, 10, 225], o0 72 (.aload_n 0), oC 73 (.invokevirtual 150) [428] c_X1_takeStop, o0 76 .ireturn])]
set_option maxRecDepth 100000 in
theorem ck_X1_takeListed : s_ck RX1 cX1_takeListed 1 3 69 k_X1_takeListed = true := by decide +kernel

theorem okb_X1_takeListed : s_okb k_X1_takeListed := by
  show s_Ok c_X1_takeNumber ∧ s_Ok c_X5_hasBit ∧ s_Ok c_X1_blame ∧ s_Ok c_X1_takeStop ∧ True
  exact ⟨ok_X1_takeNumber, ok_X5_hasBit, ok_X1_blame, ok_X1_takeStop, trivial⟩
set_option maxRecDepth 100000 in
set_option maxHeartbeats 4000000 in
theorem ok_X1_takeListed : s_Ok c_X1_takeListed := by
  refine s_ok_of k_X1_takeListed (by decide +kernel) sta_X1_takeListed ck_X1_takeListed okb_X1_takeListed ?_
  rintro vs L ⟨e, ln, ta, s, F, t, rfl, rfl, hln, ht2, hI⟩
  refine ⟨rfl, fun G hG => ?_⟩
  obtain ⟨X, hX⟩ : ∃ X, X = k_li ta ln e (s 6) := ⟨_, rfl⟩
  have fin : ∀ (v d2 : Int32) (e2 : eT), v = 0 ∨ v = 1 → X = (v, e2, d2) → (v = 0 ∨ v = 1) ∧ s_PP (some .boolean) false c_X1_takeListed.2.2.2.2.2 [.ref 0] (rdW e ln ta s F) (some (.int v)) (rdW e2 ln ta (upd s 6 d2) F) := by
    intro v d2 e2 h01 h
    refine ⟨h01, rfl, ⟨(v, e2, d2), ?_, rfl, rfl⟩, fun h => by cases h⟩
    show (v, e2, d2) = k_li (bF (rdW e ln ta s F) 2) (oI (rdW e ln ta s F) 1 1) (rE (rdW e ln ta s F)) (s 6)
    rw [rB_W, rO_W, rE_W, ← hX, h]
  unfold k_li at hX
  refine hG 0 _ _ _ ?_
  obtain ⟨pp, hpp, hppt⟩ := id hI
  refine And.intro ⟨_, e, ln, ta, 7, 0, pp, t, rfl, rfl, hln, ht2, hpp, hppt⟩ ?_
  rintro r L' ⟨hr, hL⟩
  replace hr : r = some (.int (k_tn (bF (rd3 1003 (e) ln ta) 2) (oI (rd3 1003 (e) ln ta) 1 1) (rE (rd3 1003 (e) ln ta)) 7 0).1) := hr
  replace hL : L' = rd3L (rd3 1003 (e) ln ta) (k_tn (bF (rd3 1003 (e) ln ta) 2) (oI (rd3 1003 (e) ln ta) 1 1) (rE (rd3 1003 (e) ln ta)) 7 0).2 := hL
  rw [rB_3, rO_3, rE_3] at hr
  rw [rB_3, rO_3, rE_3, rL_3] at hL
  obtain ⟨N1, hN1⟩ : ∃ N, N = k_tn ta ln (e) 7 0 := ⟨_, rfl⟩
  rw [← hN1] at hr hL
  obtain ⟨v1, e1⟩ := N1
  dsimp only at hr hL
  subst hr hL
  rw [← hN1] at hX
  have hI1 : kI e1 t := by
    have k := kI_tn (ta := ta) ht2 hI 7 0
    rw [← hln, ← hN1] at k
    exact k
  refine And.intro (fun q => ?_) (fun q => ?_)
  · have q : v1 = 0 := q
    rw [if_pos q] at hX
    exact fin 0 (s 6) e1 (Or.inl rfl) hX
  have q : ¬ v1 = 0 := q
  rw [if_neg q] at hX
  refine And.intro ⟨_, _, rfl⟩ ?_
  intro r hr
  obtain ⟨c, hc⟩ : ∃ c, c = p_hb (s 6) (e_va e1) := ⟨_, rfl⟩
  obtain rfl : r = some (.int c) := by rw [hc]; exact hr
  dsimp only at hX
  rw [← hc] at hX
  refine And.intro (fun q2 => ?_) (fun q2 => ?_)
  rotate_left
  · have q2 : ¬ c = 0 := q2
    rw [if_neg q2] at hX
    refine And.intro ⟨_, _, e1, 4, e_fi (e1), rfl, rfl⟩ ?_
    rintro r L' ⟨rfl, hL⟩
    obtain rfl : L' = [rdO 1003 1001 (k_bl (e1) 4 (e_fi (e1)))] := hL
    exact fin 0 (s 6) (k_bl e1 4 (e_fi e1)) (Or.inl rfl) hX
  have q2 : c = 0 := q2
  rw [if_pos q2] at hX
  have h01 := k_ts_01 ta ln (v_wi e1 (k_or e1))
  have hI3 : kI (v_wi e1 (k_or e1)) t := hI1
  obtain ⟨pp, hpp, hppt⟩ := id hI3
  refine And.intro ⟨_, v_wi e1 (k_or e1), ln, ta, pp, t, rfl, rfl, hln, ht2, hpp, hppt⟩ ?_
  rintro r L' ⟨hr, hL⟩
  replace hr : r = some (.int (k_ts (bF (rd3 1003 (v_wi e1 (k_or e1)) ln ta) 2) (oI (rd3 1003 (v_wi e1 (k_or e1)) ln ta) 1 1) (rE (rd3 1003 (v_wi e1 (k_or e1)) ln ta))).1) := hr
  replace hL : L' = rd3L (rd3 1003 (v_wi e1 (k_or e1)) ln ta) (k_ts (bF (rd3 1003 (v_wi e1 (k_or e1)) ln ta) 2) (oI (rd3 1003 (v_wi e1 (k_or e1)) ln ta) 1 1) (rE (rd3 1003 (v_wi e1 (k_or e1)) ln ta))).2 := hL
  rw [rB_3, rO_3, rE_3] at hr
  rw [rB_3, rO_3, rE_3, rL_3] at hL
  obtain ⟨N2, hN2⟩ : ∃ N, N = k_ts ta ln (v_wi e1 (k_or e1)) := ⟨_, rfl⟩
  rw [← hN2] at hr hL
  obtain ⟨v2, e2⟩ := N2
  dsimp only at hr hL
  subst hr hL
  rw [← hN2] at hX h01
  exact fin v2 _ e2 h01 hX

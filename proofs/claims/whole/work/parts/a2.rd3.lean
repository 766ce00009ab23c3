/-! ===== Reader: takeNumber, takeStop ===== -/
def k_tn (ta : Nat → Int32) (ln : Int32) (e : eT) (mo st : Int32) : Int32 × eT :=
  if (k_nx ta ln e).1 = 0 then (0, (k_nx ta ln e).2)
  else if e_ki (k_nx ta ln e).2 = 3 ∧ ¬ st = 0 then (1, (k_nx ta ln e).2)
  else if e_ki (k_nx ta ln e).2 = 2 then (if mo < e_va (k_nx ta ln e).2 then (0, k_bl (k_nx ta ln e).2 3 (e_fi (k_nx ta ln e).2)) else (1, (k_nx ta ln e).2))
  else (0, k_bl (k_nx ta ln e).2 2 (e_fi (k_nx ta ln e).2))
def k_ts (ta : Nat → Int32) (ln : Int32) (e : eT) : Int32 × eT :=
  if (k_nx ta ln e).1 = 0 then (0, (k_nx ta ln e).2)
  else if e_ki (k_nx ta ln e).2 = 3 then (1, (k_nx ta ln e).2)
  else (0, k_bl (k_nx ta ln e).2 2 (e_fi (k_nx ta ln e).2))
def c_X1_takeNumber : sCtr := ((yX1_takeNumber, cX1_takeNumber, 3, (some .boolean)), (2, 2, 2, 47), false,
  rd3fp,
  fun vs L => ∃ (xb : Nat) (e : eT) (ln : Int32) (ta : Nat → Int32) (mo st : Int32) (p t : Nat), vs = [.ref 0, .int mo, .int st] ∧ L = rd3 xb e ln ta ∧ ln = nI t ∧ t ≤ 160 ∧ e_be e = nI p ∧ p ≤ t,
  fun vs L r L' => r = some (.int (k_tn (bF L 2) (oI L 1 1) (rE L) (vI vs 1) (vI vs 2)).1) ∧ L' = rd3L L (k_tn (bF L 2) (oI L 1 1) (rE L) (vI vs 1) (vI vs 2)).2)
theorem sta_X1_takeNumber : s_Sta c_X1_takeNumber := ⟨⟨by decide +kernel, by decide +kernel, by decide +kernel⟩, List.mem_of_getElem? (i := 440) (by decide +kernel), List.mem_of_getElem? (i := 66) (by decide +kernel), ⟨List.mem_of_getElem? (i := 439) (by decide +kernel), List.mem_of_getElem? (i := 8) (by decide +kernel), Or.inl ⟨_, rfl, rfl⟩⟩⟩

def k_X1_takeNumber : List sBk := [
  (0, false, [true, true, true], [o0 0 (.aload_n 0), oC 1 (.invokevirtual 42) [349] c_X1_nextToken, oN 4 (.ifCond .ne 5) [1], oK 7 (.iconst 0) (.int 0), o0 8 .ireturn]),
  (9, false, [true, true, true], [o0 9 (.aload_n 0), oN 10 (.getfield 51) [1, 4, 219], oK 13 (.iconst 3) (.int 3), oN 14 (.if_icmp .ne 9) [2], o0 17 (.iload_n 2), oN 18 (.ifCond .eq 5) [2], oK 21 (.iconst 1) (.int 1), o0 22 .ireturn]),
  (23, true, [true, true, false], [o0 23 (.aload_n 0), oN 24 (.getfield 51) [1, 4, 219], oK 27 (.iconst 2) (.int 2), oN 28 (.if_icmp .eq 13) [3], o0 31 (.aload_n 0), oK 32 (.iconst 2) (.int 2), o0 33 (.aload_n 0), oN 34 (.getfield 77) [1, 5, 220], oC 37 (.invokevirtual 63) [357] c_X1_blame, o0 40 .ireturn]),
  (41, false, [true, true, false], [o0 41 (.aload_n 0), oN 42 (.getfield 84) [1, 7, 222], o0 45 (.iload_n 1), oN 46 (.if_icmp .le 15) [4], o0 49 (.aload_n 0), oK 50 (.iconst 3) (.int 3), o0 51 (.aload_n 0), oN 52 (.getfield 77) [1, 5, 220], oC 55 (.invokevirtual 63) [357] c_X1_blame, oN 58 (.ifCond .eq 7) [5], oN 61 .nop [4]]),
  (61, false, [false, false, false], [oK 61 (.iconst 1) (.int 1), oN 62 (.goto 4) [6]]),
  (65, false, [false, false, false], [oK 65 (.iconst 0) (.int 0), oN 66 .nop [6]]),
  (66, false, [false, false, false], [o0 66 .ireturn])]
set_option maxRecDepth 100000 in
theorem ck_X1_takeNumber : s_ck RX1 cX1_takeNumber 3 2 47 k_X1_takeNumber = true := by decide +kernel

theorem okb_X1_takeNumber : s_okb k_X1_takeNumber := by
  show s_Ok c_X1_nextToken ∧ s_Ok c_X1_blame ∧ s_Ok c_X1_blame ∧ True
  exact ⟨ok_X1_nextToken, ok_X1_blame, ok_X1_blame, trivial⟩
set_option maxRecDepth 100000 in
set_option maxHeartbeats 4000000 in
theorem ok_X1_takeNumber : s_Ok c_X1_takeNumber := by
  refine s_ok_of k_X1_takeNumber (by decide +kernel) sta_X1_takeNumber ck_X1_takeNumber okb_X1_takeNumber ?_
  rintro vs L ⟨xb, e, ln, ta, mo, st, p, t, rfl, rfl, hln, ht2, hp, hpt⟩
  refine ⟨rfl, fun G hG => ?_⟩
  obtain ⟨R, hR⟩ : ∃ R, R = k_tn ta ln e mo st := ⟨_, rfl⟩
  have fin : ∀ (v : Int32) (e2 : eT), v = 0 ∨ v = 1 → R = (v, e2) → (v = 0 ∨ v = 1) ∧ s_PP (some .boolean) false c_X1_takeNumber.2.2.2.2.2 [.ref 0, .int mo, .int st] (rd3 xb e ln ta) (some (.int v)) (rd3 xb e2 ln ta) := by
    intro v e2 h01 h
    refine ⟨h01, rfl, ⟨?_, ?_⟩, fun h => by cases h⟩
    · show some (Value.int v) = some (Value.int (k_tn (bF (rd3 xb e ln ta) 2) (oI (rd3 xb e ln ta) 1 1) (rE (rd3 xb e ln ta)) mo st).1)
      rw [rB_3, rO_3, rE_3, ← hR, h]
    · show rd3 xb e2 ln ta = rd3L (rd3 xb e ln ta) (k_tn (bF (rd3 xb e ln ta) 2) (oI (rd3 xb e ln ta) 1 1) (rE (rd3 xb e ln ta)) mo st).2
      rw [rB_3, rO_3, rE_3, rL_3, ← hR, h]
  refine hG 0 _ _ _ (And.intro ⟨_, e, ln, ta, p, t, rfl, rfl, hln, ht2, hp, hpt⟩ ?_)
  rintro r L' ⟨hr, hL⟩
  replace hr : r = some (.int (k_nx (bF (rd3 (s_rho [0, 1, 2] xb) e ln ta) 2) (oI (rd3 (s_rho [0, 1, 2] xb) e ln ta) 1 1) (rE (rd3 (s_rho [0, 1, 2] xb) e ln ta))).1) := hr
  replace hL : L' = rd3L (rd3 (s_rho [0, 1, 2] xb) e ln ta) (k_nx (bF (rd3 (s_rho [0, 1, 2] xb) e ln ta) 2) (oI (rd3 (s_rho [0, 1, 2] xb) e ln ta) 1 1) (rE (rd3 (s_rho [0, 1, 2] xb) e ln ta))).2 := hL
  rw [rB_3, rO_3, rE_3] at hr
  rw [rB_3, rO_3, rE_3, rL_3] at hL
  unfold k_tn at hR
  obtain ⟨N, hN⟩ : ∃ N, N = k_nx ta ln e := ⟨_, rfl⟩
  rw [← hN] at hr hL hR
  obtain ⟨v, e1⟩ := N
  dsimp only at hr hL hR
  subst hr hL
  have ue := s_un_rho [0, 1, 2] (by decide)
  refine s_pk_conv (L2 := rd3 xb e1 ln ta) ?_ ?_
  · show ([rdO (s_un [0, 1, 2] (s_rho [0, 1, 2] xb)) 1 e1, .inr (.inr (4, [.ref 2, .int ln])), .inl (1, 160, ta)] : sH) = _
    rw [ue xb]
    rfl
  refine And.intro (fun q => ?_) (fun q => ?_)
  · have q : v = 0 := q
    rw [if_pos q] at hR
    exact fin 0 e1 (Or.inl rfl) hR
  have q : ¬ v = 0 := q
  rw [if_neg q] at hR
  have g2 : ¬ (e_ki e1 = 3 ∧ ¬ st = 0) → G 2 [some (.ref 0), some (.int mo), none] [] (rd3 xb e1 ln ta) := by
    intro n3
    rw [if_neg n3] at hR
    refine hG 2 _ _ _ (And.intro (fun q2 => ?_) (fun q2 => ?_))
    · have q2 : e_ki e1 = 2 := q2
      rw [if_pos q2] at hR
      refine And.intro (fun q3 => ?_) (fun q3 => ?_)
      · have q3 : mo < e_va e1 := q3
        rw [if_pos q3] at hR
        refine And.intro ⟨_, _, e1, 3, e_fi e1, rfl, rfl⟩ ?_
        rintro r L' ⟨rfl, hL⟩
        obtain rfl : L' = [rdO (s_rho [0] xb) 1001 (k_bl e1 3 (e_fi e1))] := hL
        refine s_pk_conv (L2 := rd3 xb (k_bl e1 3 (e_fi e1)) ln ta) ?_ ?_
        · show ([rdO (s_un [0] (s_rho [0] xb)) 1 (k_bl e1 3 (e_fi e1)), .inr (.inr (4, [.ref 2, .int ln])), .inl (1, 160, ta)] : sH) = _
          rw [s_un_rho [0] (by decide) xb]
          rfl
        refine And.intro (fun _ => ?_) (fun z => absurd rfl z)
        exact fin 0 _ (Or.inl rfl) hR
      · have q3 : ¬ mo < e_va e1 := q3
        rw [if_neg q3] at hR
        exact fin 1 e1 (Or.inr rfl) hR
    · have q2 : ¬ e_ki e1 = 2 := q2
      rw [if_neg q2] at hR
      refine And.intro ⟨_, _, e1, 2, e_fi e1, rfl, rfl⟩ ?_
      rintro r L' ⟨rfl, hL⟩
      obtain rfl : L' = [rdO (s_rho [0] xb) 1001 (k_bl e1 2 (e_fi e1))] := hL
      refine s_pk_conv (L2 := rd3 xb (k_bl e1 2 (e_fi e1)) ln ta) ?_ ?_
      · show ([rdO (s_un [0] (s_rho [0] xb)) 1 (k_bl e1 2 (e_fi e1)), .inr (.inr (4, [.ref 2, .int ln])), .inl (1, 160, ta)] : sH) = _
        rw [s_un_rho [0] (by decide) xb]
        rfl
      exact fin 0 _ (Or.inl rfl) hR
  refine And.intro (fun q2 => ?_) (fun q2 => ?_)
  · have q2 : e_ki e1 = 3 := q2
    refine And.intro (fun q3 => ?_) (fun q3 => ?_)
    · have q3 : st = 0 := q3
      exact g2 (fun z => z.2 q3)
    · have q3 : ¬ st = 0 := q3
      rw [if_pos ⟨q2, q3⟩] at hR
      exact fin 1 e1 (Or.inr rfl) hR
  · have q2 : ¬ e_ki e1 = 3 := q2
    exact g2 (fun z => q2 z.1)
def c_X1_takeStop : sCtr := ((yX1_takeStop, cX1_takeStop, 1, (some .boolean)), (2, 0, 2, 47), false,
  rd3fp,
  fun vs L => ∃ (xb : Nat) (e : eT) (ln : Int32) (ta : Nat → Int32) (p t : Nat), vs = [.ref 0] ∧ L = rd3 xb e ln ta ∧ ln = nI t ∧ t ≤ 160 ∧ e_be e = nI p ∧ p ≤ t,
  fun _ L r L' => r = some (.int (k_ts (bF L 2) (oI L 1 1) (rE L)).1) ∧ L' = rd3L L (k_ts (bF L 2) (oI L 1 1) (rE L)).2)
theorem sta_X1_takeStop : s_Sta c_X1_takeStop := ⟨⟨by decide +kernel, by decide +kernel, by decide +kernel⟩, List.mem_of_getElem? (i := 431) (by decide +kernel), List.mem_of_getElem? (i := 66) (by decide +kernel), ⟨List.mem_of_getElem? (i := 430) (by decide +kernel), List.mem_of_getElem? (i := 6) (by decide +kernel), Or.inl ⟨_, rfl, rfl⟩⟩⟩

def k_X1_takeStop : List sBk := [
  (0, false, [true], [o0 0 (.aload_n 0), oC 1 (.invokevirtual 42) [349] c_X1_nextToken, oN 4 (.ifCond .ne 5) [1], oK 7 (.iconst 0) (.int 0), o0 8 .ireturn]),
  (9, false, [true], [o0 9 (.aload_n 0), oN 10 (.getfield 51) [1, 4, 219], oK 13 (.iconst 3) (.int 3), oN 14 (.if_icmp .eq 15) [2], o0 17 (.aload_n 0), oK 18 (.iconst 2) (.int 2), o0 19 (.aload_n 0), oN 20 (.getfield 77) [1, 5, 220], oC 23 (.invokevirtual 63) [357] c_X1_blame, oN 26 (.ifCond .eq 7) [3], oN 29 .nop [2]]),
  (29, false, [false], [oK 29 (.iconst 1) (.int 1), oN 30 (.goto 4) [4]]),
  (33, false, [false], [oK 33 (.iconst 0) (.int 0), oN 34 .nop [4]]),
  (34, false, [false], [o0 34 .ireturn])]
set_option maxRecDepth 100000 in
theorem ck_X1_takeStop : s_ck RX1 cX1_takeStop 1 2 47 k_X1_takeStop = true := by decide +kernel

theorem okb_X1_takeStop : s_okb k_X1_takeStop := by
  show s_Ok c_X1_nextToken ∧ s_Ok c_X1_blame ∧ True
  exact ⟨ok_X1_nextToken, ok_X1_blame, trivial⟩
set_option maxRecDepth 100000 in
set_option maxHeartbeats 4000000 in
theorem ok_X1_takeStop : s_Ok c_X1_takeStop := by
  refine s_ok_of k_X1_takeStop (by decide +kernel) sta_X1_takeStop ck_X1_takeStop okb_X1_takeStop ?_
  rintro vs L ⟨xb, e, ln, ta, p, t, rfl, rfl, hln, ht2, hp, hpt⟩
  refine ⟨rfl, fun G hG => ?_⟩
  obtain ⟨R, hR⟩ : ∃ R, R = k_ts ta ln e := ⟨_, rfl⟩
  have fin : ∀ (v : Int32) (e2 : eT), v = 0 ∨ v = 1 → R = (v, e2) → (v = 0 ∨ v = 1) ∧ s_PP (some .boolean) false c_X1_takeStop.2.2.2.2.2 [.ref 0] (rd3 xb e ln ta) (some (.int v)) (rd3 xb e2 ln ta) := by
    intro v e2 h01 h
    refine ⟨h01, rfl, ⟨?_, ?_⟩, fun h => by cases h⟩
    · show some (Value.int v) = some (Value.int (k_ts (bF (rd3 xb e ln ta) 2) (oI (rd3 xb e ln ta) 1 1) (rE (rd3 xb e ln ta))).1)
      rw [rB_3, rO_3, rE_3, ← hR, h]
    · show rd3 xb e2 ln ta = rd3L (rd3 xb e ln ta) (k_ts (bF (rd3 xb e ln ta) 2) (oI (rd3 xb e ln ta) 1 1) (rE (rd3 xb e ln ta))).2
      rw [rB_3, rO_3, rE_3, rL_3, ← hR, h]
  refine hG 0 _ _ _ (And.intro ⟨_, e, ln, ta, p, t, rfl, rfl, hln, ht2, hp, hpt⟩ ?_)
  rintro r L' ⟨hr, hL⟩
  replace hr : r = some (.int (k_nx (bF (rd3 (s_rho [0, 1, 2] xb) e ln ta) 2) (oI (rd3 (s_rho [0, 1, 2] xb) e ln ta) 1 1) (rE (rd3 (s_rho [0, 1, 2] xb) e ln ta))).1) := hr
  replace hL : L' = rd3L (rd3 (s_rho [0, 1, 2] xb) e ln ta) (k_nx (bF (rd3 (s_rho [0, 1, 2] xb) e ln ta) 2) (oI (rd3 (s_rho [0, 1, 2] xb) e ln ta) 1 1) (rE (rd3 (s_rho [0, 1, 2] xb) e ln ta))).2 := hL
  rw [rB_3, rO_3, rE_3] at hr
  rw [rB_3, rO_3, rE_3, rL_3] at hL
  unfold k_ts at hR
  obtain ⟨N, hN⟩ : ∃ N, N = k_nx ta ln e := ⟨_, rfl⟩
  rw [← hN] at hr hL hR
  obtain ⟨v, e1⟩ := N
  dsimp only at hr hL hR
  subst hr hL
  have ue := s_un_rho [0, 1, 2] (by decide)
  refine s_pk_conv (L2 := rd3 xb e1 ln ta) ?_ ?_
  · show ([rdO (s_un [0, 1, 2] (s_rho [0, 1, 2] xb)) 1 e1, .inr (.inr (4, [.ref 2, .int ln])), .inl (1, 160, ta)] : sH) = _
    rw [ue xb]
    rfl
  refine And.intro (fun q => ?_) (fun q => ?_)
  · have q : v = 0 := q
    rw [if_pos q] at hR
    exact fin 0 e1 (Or.inl rfl) hR
  have q : ¬ v = 0 := q
  rw [if_neg q] at hR
  refine And.intro (fun q2 => ?_) (fun q2 => ?_)
  · have q2 : e_ki e1 = 3 := q2
    rw [if_pos q2] at hR
    exact fin 1 e1 (Or.inr rfl) hR
  · have q2 : ¬ e_ki e1 = 3 := q2
    rw [if_neg q2] at hR
    refine And.intro ⟨_, _, e1, 2, e_fi e1, rfl, rfl⟩ ?_
    rintro r L' ⟨rfl, hL⟩
    obtain rfl : L' = [rdO (s_rho [0] xb) 1001 (k_bl e1 2 (e_fi e1))] := hL
    refine s_pk_conv (L2 := rd3 xb (k_bl e1 2 (e_fi e1)) ln ta) ?_ ?_
    · show ([rdO (s_un [0] (s_rho [0] xb)) 1 (k_bl e1 2 (e_fi e1)), .inr (.inr (4, [.ref 2, .int ln])), .inl (1, 160, ta)] : sH) = _
      rw [s_un_rho [0] (by decide) xb]
      rfl
    refine And.intro (fun _ => ?_) (fun z => absurd rfl z)
    exact fin 0 _ (Or.inl rfl) hR

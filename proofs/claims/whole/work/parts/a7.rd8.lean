/-! ===== Reader: a line of wish ===== -/
abbrev wT : Type := Int32 × eT × Int32 × (Nat → Int32) × (Nat → Int32) × (Nat → Int32)
def v_on (e : eT) (w : Int32) : eT := (e.1, e.2.1, e.2.2.1, e.2.2.2.1, e.2.2.2.2.1, e.2.2.2.2.2.1, e.2.2.2.2.2.2.1, w, e.2.2.2.2.2.2.2.2)
def k_wi3 (wn : Int32) (f1 f2 : Nat → Int32) (O : Int32 × eT × (Nat → Int32)) : wT := if O.1 = 0 then (0, O.2.1, wn, f1, f2, O.2.2) else (1, v_on O.2.1 (e_on O.2.1 ||| O.2.2 wn.toNatClampNeg), wn + 1, f1, f2, O.2.2)
def k_wi2 (ta : Nat → Int32) (ln wn : Int32) (f1 f2 f3 : Nat → Int32) (N : Int32 × eT) : wT := if N.1 = 0 then (0, N.2, wn, f1, f2, f3) else k_wi3 wn f1 (upd f2 wn.toNatClampNeg (e_va N.2)) (k_os ta ln wn 9 N.2 f3)
def k_wi1 (ta : Nat → Int32) (ln wn : Int32) (f1 f2 f3 : Nat → Int32) (N : Int32 × eT) : wT := if N.1 = 0 then (0, N.2, wn, f1, f2, f3) else k_wi2 ta ln wn (upd f1 wn.toNatClampNeg (e_va N.2)) f2 f3 (k_tn ta ln N.2 9 0)
def k_wi (ta : Nat → Int32) (ln : Int32) (e : eT) (wn : Int32) (f1 f2 f3 : Nat → Int32) : wT := if wn < 8 then k_wi1 ta ln wn f1 f2 f3 (k_tn ta ln e 9 0) else (0, k_bl e 5 (e_fi e), wn, f1, f2, f3)
def va3 (F : Nat → Nat → Int32) (f1 f2 f3 : Nat → Int32) : Nat → Nat → Int32 := va_up (va_up (va_up F 1 f1) 2 f2) 3 f3
theorem kI_os {ta : Nat → Int32} {w : Int32} {t : Nat} (ht : t ≤ 160) : ∀ (k : Nat) (e : eT) (f : Nat → Int32), kI e t → kI (k_os ta (nI t) w k e f).2.1 t
  | 0, e, f, h => h
  | k + 1, e, f, h => by
    have h1 := kI_tn (ta := ta) ht h 7 1
    rw [k_os]
    obtain ⟨N, hN⟩ : ∃ N, N = k_tn ta (nI t) e 7 1 := ⟨_, rfl⟩
    rw [← hN] at h1 ⊢
    split
    · exact h1
    split
    · exact h1
    split
    · exact kI_os ht k _ _ h1
    · exact h1
def c_X1_takeWish : sCtr := ((yX1_takeWish, cX1_takeWish, 2, (some .boolean)), (2, 0, 4, 91), false,
  rdfp,
  fun vs L => ∃ (e : eT) (ln : Int32) (ta : Nat → Int32) (s : Nat → Int32) (F : Nat → Nat → Int32) (t m : Nat), vs = [.ref 0] ∧ L = rdW e ln ta s F ∧ ln = nI t ∧ t ≤ 160 ∧ kI e t ∧ s 1 = nI m ∧ m ≤ 8,
  fun _ L r L' => ∃ X, X = k_wi (bF L 2) (oI L 1 1) (rE L) (oI L 3 1) (bF L 4) (bF L 5) (bF L 6) ∧ r = some (.int X.1) ∧ L' = rdL L X.2.1 (upd (oI L 3) 1 X.2.2.1) (va3 (bG 3 L) X.2.2.2.1 X.2.2.2.2.1 X.2.2.2.2.2))
theorem sta_X1_takeWish : s_Sta c_X1_takeWish := ⟨⟨by decide +kernel, by decide +kernel, by decide +kernel⟩, List.mem_of_getElem? (i := 436) (by decide +kernel), List.mem_of_getElem? (i := 66) (by decide +kernel), ⟨List.mem_of_getElem? (i := 435) (by decide +kernel), List.mem_of_getElem? (i := 7) (by decide +kernel), Or.inl ⟨_, rfl, rfl⟩⟩⟩

def k_X1_takeWish : List sBk := [
  (0, false, [true, false], [o0 0 (.aload_n 0), oN 1 (.getfield 12) [1, 0, 212], oN 4 (.getfield 60) [0, 1, 118], o0 7 (.istore_n 1), o0 8 (.iload_n 1), oK 9 (.bipush 8) (.int 8), oN 11 (.if_icmp .lt 13) [1], o0 14 (.aload_n 0), oK 15 (.iconst 5) (.int 5), o0 16 (.aload_n 0), oN 17 (.getfield 77) [1, 5, 220], oC 20 (.invokevirtual 63) [357] c_X1_blame, o0 23 .ireturn]),
  (24, false, [true, true], [o0 24 (.aload_n 0), oK 25 (.bipush 9) (.int 9), oK 27 (.iconst 0) (.int 0), oC 28 (.invokevirtual 153) [437] c_X1_takeNumber, oN 31 (.ifCond .ne 5) [2], oK 34 (.iconst 0) (.int 0), o0 35 .ireturn]),
  (36, false, [true, true], [o0 36 (.aload_n 0), oN 37 (.getfield 12) [1, 0, 212], oN 40 (.getfield 157) [0, 7, 140], o0 43 (.iload_n 1), o0 44 (.aload_n 0), oN 45 (.getfield 84) [1, 7, 222], o0 48 .iastore, o0 49 (.aload_n 0), oK 50 (.bipush 9) (.int 9), oK 52 (.iconst 0) (.int 0), oC 53 (.invokevirtual 153) [437] c_X1_takeNumber, oN 56 (.ifCond .ne 5) [3], oK 59 (.iconst 0) (.int 0), o0 60 .ireturn]),
  (61, false, [true, true], [o0 61 (.aload_n 0), oN 62 (.getfield 12) [1, 0, 212], oN 65 (.getfield 161) [0, 8, 144], o0 68 (.iload_n 1), o0 69 (.aload_n 0), oN 70 (.getfield 84) [1, 7, 222], o0 73 .iastore, o0 74 (.aload_n 0), o0 75 (.iload_n 1), oC 76 (.invokevirtual 164) [441] c_X1_takeOnes, oN 79 (.ifCond .ne 5) [4], oK 82 (.iconst 0) (.int 0), o0 83 .ireturn]),
  (84, false, [true, true], [o0 84 (.aload_n 0), o0 85 .dup, oN 86 (.getfield 36) [1, 9, 224], o0 89 (.aload_n 0), oN 90 (.getfield 12) [1, 0, 212], oN 93 (.getfield 168) [0, 9, 147], o0 96 (.iload_n 1), o0 97 .iaload, o0 98 .ior, oN 99 (.putfield 36) [1, 9, 224], o0 102 (.aload_n 0), oN 103 (.getfield 12) [1, 0, 212], o0 106 .dup, oN 107 (.getfield 60) [0, 1, 118], oK 110 (.iconst 1) (.int 1), o0 111 .iadd, oN 112 (.putfield 60) [0, 1, 118], oK 115 (.iconst 1) (.int 1), o0 116 .ireturn])]
set_option maxRecDepth 100000 in
theorem ck_X1_takeWish : s_ck RX1 cX1_takeWish 2 4 91 k_X1_takeWish = true := by decide +kernel

theorem okb_X1_takeWish : s_okb k_X1_takeWish := by
  show s_Ok c_X1_blame ∧ s_Ok c_X1_takeNumber ∧ s_Ok c_X1_takeNumber ∧ s_Ok c_X1_takeOnes ∧ True
  exact ⟨ok_X1_blame, ok_X1_takeNumber, ok_X1_takeNumber, ok_X1_takeOnes, trivial⟩
set_option maxRecDepth 100000 in
set_option maxHeartbeats 4000000 in
theorem ok_X1_takeWish : s_Ok c_X1_takeWish := by
  refine s_ok_of k_X1_takeWish (by decide +kernel) sta_X1_takeWish ck_X1_takeWish okb_X1_takeWish ?_
  rintro vs L ⟨e, ln, ta, s, F, t, m, rfl, rfl, hln, ht2, hI, hm, hm8⟩
  refine ⟨rfl, fun G hG => ?_⟩
  obtain ⟨X, hX⟩ : ∃ X, X = k_wi ta ln e (s 1) (F 1) (F 2) (F 3) := ⟨_, rfl⟩
  have fin : ∀ (v d2 : Int32) (e2 : eT) (f1 f2 f3 : Nat → Int32), v = 0 ∨ v = 1 → X = (v, e2, d2, f1, f2, f3) → (v = 0 ∨ v = 1) ∧ s_PP (some .boolean) false c_X1_takeWish.2.2.2.2.2 [.ref 0] (rdW e ln ta s F) (some (.int v)) (rdW e2 ln ta (upd s 1 d2) (va3 F f1 f2 f3)) := by
    intro v d2 e2 f1 f2 f3 h01 h
    refine ⟨h01, rfl, ⟨(v, e2, d2, f1, f2, f3), ?_, rfl, rfl⟩, fun h => by cases h⟩
    show (v, e2, d2, f1, f2, f3) = k_wi (bF (rdW e ln ta s F) 2) (oI (rdW e ln ta s F) 1 1) (rE (rdW e ln ta s F)) (s 1) (F 1) (F 2) (F 3)
    rw [rB_W, rO_W, rE_W, ← hX, h]
  unfold k_wi at hX
  refine hG 0 _ _ _ (And.intro (fun c => ?_) (fun c => ?_))
  rotate_left
  · have c : ¬ s 1 < 8 := c
    rw [if_neg c] at hX
    refine And.intro ⟨_, _, e, 5, e_fi (e), rfl, rfl⟩ ?_
    rintro r L' ⟨rfl, hL⟩
    obtain rfl : L' = [rdO 1003 1001 (k_bl (e) 5 (e_fi (e)))] := hL
    exact fin 0 (s 1) (k_bl e 5 (e_fi e)) (F 1) (F 2) (F 3) (Or.inl rfl) hX
  have c : s 1 < 8 := c
  rw [if_pos c] at hX
  have hm7 : m < 8 := by rw [hm, show (8 : Int32) = nI 8 from rfl, nI_ltI (by omega) (by omega)] at c; exact c
  have hin : vp_in (s 1) 8 := by rw [hm]; exact vp_in_nI hm7 (by omega)
  obtain ⟨pp, hpp, hppt⟩ := id hI
  refine And.intro ⟨_, e, ln, ta, 9, 0, pp, t, rfl, rfl, hln, ht2, hpp, hppt⟩ ?_
  rintro r L' ⟨hr, hL⟩
  replace hr : r = some (.int (k_tn (bF (rd3 1003 (e) ln ta) 2) (oI (rd3 1003 (e) ln ta) 1 1) (rE (rd3 1003 (e) ln ta)) 9 0).1) := hr
  replace hL : L' = rd3L (rd3 1003 (e) ln ta) (k_tn (bF (rd3 1003 (e) ln ta) 2) (oI (rd3 1003 (e) ln ta) 1 1) (rE (rd3 1003 (e) ln ta)) 9 0).2 := hL
  rw [rB_3, rO_3, rE_3] at hr
  rw [rB_3, rO_3, rE_3, rL_3] at hL
  obtain ⟨N1, hN1⟩ : ∃ N, N = k_tn ta ln (e) 9 0 := ⟨_, rfl⟩
  rw [← hN1] at hr hL
  obtain ⟨v1, e1⟩ := N1
  dsimp only at hr hL
  subst hr hL
  rw [← hN1, k_wi1] at hX
  dsimp only at hX
  have hI1 : kI e1 t := by
    have k := kI_tn (ta := ta) ht2 hI 9 0
    rw [← hln, ← hN1] at k
    exact k
  refine And.intro (fun q => ?_) (fun q => ?_)
  · have q : v1 = 0 := q
    rw [if_pos q] at hX
    exact fin 0 (s 1) e1 (F 1) (F 2) (F 3) (Or.inl rfl) hX
  have q : ¬ v1 = 0 := q
  rw [if_neg q] at hX
  refine And.intro hin ?_
  obtain ⟨f1, hf1⟩ : ∃ f1, f1 = upd (F 1) (s 1).toNatClampNeg (e_va e1) := ⟨_, rfl⟩
  obtain ⟨pp, hpp, hppt⟩ := id hI1
  refine And.intro ⟨_, e1, ln, ta, 9, 0, pp, t, rfl, rfl, hln, ht2, hpp, hppt⟩ ?_
  rintro r L' ⟨hr, hL⟩
  replace hr : r = some (.int (k_tn (bF (rd3 1003 (e1) ln ta) 2) (oI (rd3 1003 (e1) ln ta) 1 1) (rE (rd3 1003 (e1) ln ta)) 9 0).1) := hr
  replace hL : L' = rd3L (rd3 1003 (e1) ln ta) (k_tn (bF (rd3 1003 (e1) ln ta) 2) (oI (rd3 1003 (e1) ln ta) 1 1) (rE (rd3 1003 (e1) ln ta)) 9 0).2 := hL
  rw [rB_3, rO_3, rE_3] at hr
  rw [rB_3, rO_3, rE_3, rL_3] at hL
  obtain ⟨N2, hN2⟩ : ∃ N, N = k_tn ta ln (e1) 9 0 := ⟨_, rfl⟩
  rw [← hN2] at hr hL
  obtain ⟨v2, e2⟩ := N2
  dsimp only at hr hL
  subst hr hL
  rw [← hN2, k_wi2] at hX
  dsimp only at hX
  have hI2 : kI e2 t := by
    have k := kI_tn (ta := ta) ht2 hI1 9 0
    rw [← hln, ← hN2] at k
    exact k
  refine And.intro (fun q2 => ?_) (fun q2 => ?_)
  · have q2 : v2 = 0 := q2
    rw [if_pos q2] at hX
    exact fin 0 (s 1) e2 _ (F 2) (F 3) (Or.inl rfl) hX
  have q2 : ¬ v2 = 0 := q2
  rw [if_neg q2] at hX
  refine And.intro hin ?_
  refine And.intro ⟨e2, ln, ta, s, va_up (va_up F 1 (upd (F 1) (s 1).toNatClampNeg (e_va e1))) 2 (upd (F 2) (s 1).toNatClampNeg (e_va e2)), s 1, t, m, rfl, rfl, hln, ht2, hI2, hm, hm7⟩ ?_
  rintro r L' ⟨O, hO, hr, hL⟩
  replace hO : O = k_os ta ln (s 1) 9 e2 (F 3) := hO
  rw [← hO, k_wi3] at hX
  obtain ⟨vo, eo, fo⟩ := O
  dsimp only at hX hr
  subst hr
  obtain rfl : L' = rdW eo ln ta s (va3 F (upd (F 1) (s 1).toNatClampNeg (e_va e1)) (upd (F 2) (s 1).toNatClampNeg (e_va e2)) fo) := hL
  refine And.intro (fun q3 => ?_) (fun q3 => ?_)
  · have q3 : vo = 0 := q3
    rw [if_pos q3] at hX
    exact fin 0 (s 1) eo _ _ fo (Or.inl rfl) hX
  have q3 : ¬ vo = 0 := q3
  rw [if_neg q3] at hX
  refine And.intro hin ?_
  exact fin 1 (s 1 + 1) _ _ _ fo (Or.inr rfl) hX

/-! ===== Reader: a text ===== -/
theorem kI_ts {ta : Nat → Int32} {e : eT} {t : Nat} (ht : t ≤ 160) (h : kI e t) : kI (k_ts ta (nI t) e).2 t := by
  have k := kI_nx (ta := ta) ht h
  unfold k_ts
  obtain ⟨N, hN⟩ : ∃ N, N = k_nx ta (nI t) e := ⟨_, rfl⟩
  rw [← hN] at k ⊢
  split
  · exact k
  split
  · exact k
  · exact k
theorem kI_ns {ta : Nat → Int32} {w : Int32} {t : Nat} (ht : t ≤ 160) : ∀ (k : Nat) (e : eT) (f : Nat → Int32), kI e t → kI (k_ns ta (nI t) w k e f).2.1 t
  | 0, e, f, h => h
  | k + 1, e, f, h => by
    have h1 := kI_tn (ta := ta) ht h 7 1
    rw [k_ns]
    obtain ⟨N, hN⟩ : ∃ N, N = k_tn ta (nI t) e 7 1 := ⟨_, rfl⟩
    rw [← hN] at h1 ⊢
    split
    · exact h1
    split
    · exact h1
    split
    · exact h1
    · exact kI_ns ht k _ _ h1
def dI (d : dT) : Prop := ∃ m n : Nat, d_wi d = nI m ∧ m ≤ 8 ∧ d_pn d = nI n ∧ n ≤ 6
theorem k_on_I {ta : Nat → Int32} {e : eT} {t : Nat} (ht : t ≤ 160) (h : kI e t) (a b c : Int32) : kI (k_on ta (nI t) e a b c).2.1 t := by
  unfold k_on
  split
  · have k := kI_nx (ta := ta) ht h
    unfold k_on1
    split
    · exact k
    · unfold k_on2
      split
      · exact k
      · exact kI_ts ht k
  · exact h
theorem k_nd_I {ta : Nat → Int32} {e : eT} {t : Nat} (ht : t ≤ 160) (h : kI e t) (f : Nat → Int32) : kI (k_nd ta (nI t) (k_tn ta (nI t) e 7 0) f).2.1 t := by
  have k := kI_tn (ta := ta) ht h 7 0
  unfold k_nd
  split
  · exact k
  · exact kI_ns ht _ _ _ k
theorem k_cl_I {ta : Nat → Int32} {e : eT} {t : Nat} (ht : t ≤ 160) (h : kI e t) (f : Nat → Int32) : kI (k_cl1 ta (nI t) (k_tn ta (nI t) e 7 0) f).2.1 t := by
  have k := kI_tn (ta := ta) ht h 7 0
  unfold k_cl1
  split
  · exact k
  · have k2 := kI_tn (ta := ta) ht k 7 0
    unfold k_cl2
    split
    · exact k2
    split
    · exact k2
    · exact kI_ts ht k2
theorem k_li_I {ta : Nat → Int32} {e : eT} {t : Nat} (ht : t ≤ 160) (h : kI e t) (a : Int32) : kI (k_li ta (nI t) e a).2.1 t := by
  have k := kI_tn (ta := ta) ht h 7 0
  unfold k_li
  split
  · exact k
  split
  · exact kI_ts ht k
  · exact k
theorem k_de_I {ta : Nat → Int32} {e : eT} {t : Nat} (ht : t ≤ 160) (h : kI e t) (a : Int32) : kI (k_de ta (nI t) e a).2.1 t := by
  have k := kI_tn (ta := ta) (e := v_dt e) ht h 8 0
  unfold k_de
  split
  · split
    · exact k
    · exact kI_ts ht k
  · exact h
theorem k_pl_I {ta : Nat → Int32} {e : eT} {t : Nat} (ht : t ≤ 160) (h : kI e t) {a : Int32} {n : Nat} (ha : a = nI n) (hn : n ≤ 6) (f : Nat → Int32) : kI (k_pl ta (nI t) e a f).2.1 t ∧ ∃ n : Nat, (k_pl ta (nI t) e a f).2.2.1 = nI n ∧ n ≤ 6 := by
  unfold k_pl
  split
  · next c =>
    rw [ha, show (6 : Int32) = nI 6 from rfl, nI_ltI (by omega) (by omega)] at c
    have k := kI_tn (ta := ta) ht h 7 0
    unfold k_pl2
    split
    · exact ⟨k, n, ha, hn⟩
    · exact ⟨kI_ts ht k, n + 1, by show a + 1 = _; rw [ha, nI_1], by omega⟩
  · exact ⟨h, n, ha, hn⟩
theorem k_wi_I {ta : Nat → Int32} {e : eT} {t : Nat} (ht : t ≤ 160) (h : kI e t) {a : Int32} {n : Nat} (ha : a = nI n) (hn : n ≤ 8) (f g i : Nat → Int32) : kI (k_wi ta (nI t) e a f g i).2.1 t ∧ ∃ n : Nat, (k_wi ta (nI t) e a f g i).2.2.1 = nI n ∧ n ≤ 8 := by
  unfold k_wi
  split
  · next c =>
    rw [ha, show (8 : Int32) = nI 8 from rfl, nI_ltI (by omega) (by omega)] at c
    have k := kI_tn (ta := ta) ht h 9 0
    unfold k_wi1
    split
    · exact ⟨k, n, ha, hn⟩
    · have k2 := kI_tn (ta := ta) ht k 9 0
      unfold k_wi2
      split
      · exact ⟨k2, n, ha, hn⟩
      · have k3 := kI_os (ta := ta) (w := a) ht 9 _ i k2
        unfold k_wi3
        split
        · exact ⟨k3, n, ha, hn⟩
        · exact ⟨k3, n + 1, by show a + 1 = _; rw [ha, nI_1], by omega⟩
  · exact ⟨h, n, ha, hn⟩
theorem k_ln_I {ta : Nat → Int32} {e : eT} {d : dT} {t : Nat} (ht : t ≤ 160) (h : kI e t) (hd : dI d) : kI (k_ln ta (nI t) e d).2.1 t ∧ dI (k_ln ta (nI t) e d).2.2 := by
  obtain ⟨m, n, hm, hm8, hn, hn6⟩ := hd
  unfold k_ln k_l1 k_l2 k_l3 k_l4 k_l5 k_l6
  split
  · split
    · split
      · split
        · split
          · split
            · split
              · exact ⟨h, m, n, hm, hm8, hn, hn6⟩
              · obtain ⟨k1, n2, k2, k3⟩ := k_pl_I (ta := ta) ht h hn hn6 (d_f8 d)
                exact ⟨k1, m, n2, hm, hm8, k2, k3⟩
            · exact ⟨k_de_I ht h _, m, n, hm, hm8, hn, hn6⟩
          · exact ⟨k_li_I ht h _, m, n, hm, hm8, hn, hn6⟩
        · exact ⟨k_cl_I ht h _, m, n, hm, hm8, hn, hn6⟩
      · exact ⟨k_nd_I ht h _, m, n, hm, hm8, hn, hn6⟩
    · obtain ⟨k1, m2, k2, k3⟩ := k_wi_I (ta := ta) ht h hm hm8 (d_f1 d) (d_f2 d) (d_f3 d)
      exact ⟨k1, m2, n, k2, k3, hn, hn6⟩
  · exact ⟨k_on_I ht h _ _ _, m, n, hm, hm8, hn, hn6⟩
theorem k_nx_01 (ta : Nat → Int32) (ln : Int32) (e : eT) : (k_nx ta ln e).1 = 0 ∨ (k_nx ta ln e).1 = 1 := by
  unfold k_nx k_n1
  split
  · split
    · exact Or.inr rfl
    split
    · unfold k_n2
      split
      · exact Or.inl rfl
      · exact Or.inr rfl
    · exact Or.inr rfl
  · exact Or.inr rfl
abbrev tT : Type := Int32 × Int32 × eT × dT
def k_rs (li : Int32) (Y : lT) (N : Int32 × eT) : tT := if Y.1 = 0 then (li, 0, Y.2.1, Y.2.2) else (li + 1, N.1, N.2, Y.2.2)
def k_r1 (ta : Nat → Int32) (ln li : Int32) (e : eT) (d : dT) : tT := k_rs li (k_ln ta ln e d) (k_nx ta ln (k_ln ta ln e d).2.1)
/-- the lines of a text: how many, whether it goes on, the reader, the book -/
def k_rt (ta : Nat → Int32) (ln : Int32) : Nat → tT → tT
  | 0, x => x
  | k + 1, x => if x.2.1 = 0 then x else if e_ki x.2.2.1 = 0 then x else k_rt ta ln k (k_r1 ta ln x.1 x.2.2.1 x.2.2.2)
def k_e0 (e : eT) : eT := (0, e_pl e, e_ki e, e_fi e, 0, e_va e, 0, 0, 0)
def k_d0 (f1 f2 f3 f4 f5 f8 : Nat → Int32) : dT := (0, 0, 0, 0, 0, 0, 0, f1, f2, p_fi (fun _ => 0) f3 8, p_fi (fun _ => 0) f4 8, p_fi (fun _ => 0) f5 8, f8)
def k_x0 (N : Int32 × eT) (d : dT) : tT := (0, N.1, N.2, d)
def k_tx (ta : Nat → Int32) (ln : Int32) (e : eT) (d : dT) : tT := k_rt ta ln ln.toNatClampNeg (k_x0 (k_nx ta ln (k_e0 e)) (k_d0 (d_f1 d) (d_f2 d) (d_f3 d) (d_f4 d) (d_f5 d) (d_f8 d)))
/-- the last question: is all there that was named -/
def k_en (ln : Int32) (x : tT) : eT := if x.2.1 = 0 then x.2.2.1 else if e_on x.2.2.1 >>> (d_pe x.2.2.2 &&& 31) = 0 ∧ e_wi x.2.2.1 >>> (d_wi x.2.2.2 &&& 31) = 0 then x.2.2.1 else k_bl x.2.2.1 6 ln
def FW (F : Nat → Nat → Int32) (d : dT) : Nat → Nat → Int32 := va_up (va_up F 6 (p_fi (p_fo (d_f4 d) (d_wi d).toNatClampNeg) (F 6) (d_wi d).toNatClampNeg)) 7 (p_fi (p_wa (d_f3 d) (d_f4 d) (d_wi d).toNatClampNeg) (F 7) (d_wi d).toNatClampNeg)
def c_X1_readText : sCtr := ((yX1_readText, cX1_readText, 4, (some .int)), (2, 0, 8, 170), false,
  rdfp,
  fun vs L => ∃ (e : eT) (ln : Int32) (ta : Nat → Int32) (s : Nat → Int32) (F : Nat → Nat → Int32) (d : dT) (t : Nat), vs = [.ref 0] ∧ L = rdD e ln ta s F d ∧ ln = nI t ∧ t ≤ 160,
  fun _ L r L' => ∃ X, X = k_tx (bF L 2) (oI L 1 1) (rE L) (rD L) ∧ r = some (.int X.1) ∧ L' = rdD (k_en (oI L 1 1) X) (oI L 1 1) (bF L 2) (fun _ => 0) (FW (bG 3 L) X.2.2.2) X.2.2.2)
theorem sta_X1_readText : s_Sta c_X1_readText := ⟨⟨by decide +kernel, by decide +kernel, by decide +kernel⟩, List.mem_of_getElem? (i := 344) (by decide +kernel), List.mem_of_getElem? (i := 66) (by decide +kernel), ⟨List.mem_of_getElem? (i := 342) (by decide +kernel), List.mem_of_getElem? (i := 343) (by decide +kernel), Or.inl ⟨_, rfl, rfl⟩⟩⟩

def k_X1_readText : List sBk := [
  (0, false, [true, false, false, false], [o0 0 (.aload_n 0), oN 1 (.getfield 12) [1, 0, 212], oC 4 (.invokevirtual 22) [345] c_X0_makeEmpty, o0 7 (.aload_n 0), oK 8 (.iconst 0) (.int 0), oN 9 (.putfield 25) [1, 1, 214], o0 12 (.aload_n 0), oK 13 (.iconst 0) (.int 0), oN 14 (.putfield 29) [1, 6, 221], o0 17 (.aload_n 0), oK 18 (.iconst 0) (.int 0), oN 19 (.putfield 32) [1, 8, 223], o0 22 (.aload_n 0), oK 23 (.iconst 0) (.int 0), oN 24 (.putfield 36) [1, 9, 224], o0 27 (.aload_n 0), oK 28 (.iconst 0) (.int 0), oN 29 (.putfield 39) [1, 10, 225], oK 32 (.iconst 0) (.int 0), o0 33 (.istore_n 1), o0 34 (.aload_n 0), oC 35 (.invokevirtual 42) [349] c_X1_nextToken, o0 38 (.istore_n 2), oK 39 (.iconst 0) (.int 0), o0 40 (.istore_n 3), oN 41 .nop [1]]),
  (41, true, [true, true, true, true], [o0 41 (.iload_n 3), o0 42 (.aload_n 0), oN 43 (.getfield 18) [1, 3, 218], oN 46 (.getfield 46) [4, 1, 96], oN 49 (.if_icmp .ge 37) [3], o0 52 (.iload_n 2), oN 53 (.ifCond .eq 33) [3], o0 56 (.aload_n 0), oN 57 (.getfield 51) [1, 4, 219], oN 60 (.ifCond .eq 26) [3], o0 63 (.aload_n 0), oC 64 (.invokevirtual 54) [361] c_X1_takeLine, o0 67 (.istore_n 2), o0 68 (.iload_n 2), oN 69 (.ifCond .eq 11) [2], oK 72 (.iinc 1 1) (.int 1), o0 75 (.aload_n 0), oC 76 (.invokevirtual 42) [349] c_X1_nextToken, o0 79 (.istore_n 2), oN 80 .nop [2]]),
  (80, false, [true, true, true, true], [oK 80 (.iinc 3 1) (.int 1), oN 83 (.goto (-42)) [1]]),
  (86, true, [true, true, true, false], [o0 86 (.iload_n 2), oN 87 (.ifCond .eq 47) [5], o0 90 (.aload_n 0), oN 91 (.getfield 36) [1, 9, 224], o0 94 (.aload_n 0), oN 95 (.getfield 12) [1, 0, 212], oN 98 (.getfield 57) [0, 0, 116], o0 101 .ishr, oN 102 (.ifCond .ne 18) [4], o0 105 (.aload_n 0), oN 106 (.getfield 39) [1, 10, 225], o0 109 (.aload_n 0), oN 110 (.getfield 12) [1, 0, 212], oN 113 (.getfield 60) [0, 1, 118], o0 116 .ishr, oN 117 (.ifCond .eq 17) [5], oN 120 .nop [4]]),
  (120, true, [true, true, false, false], [o0 120 (.aload_n 0), oK 121 (.bipush 6) (.int 6), o0 123 (.aload_n 0), oN 124 (.getfield 18) [1, 3, 218], oN 127 (.getfield 46) [4, 1, 96], oC 130 (.invokevirtual 63) [357] c_X1_blame, o0 133 .pop, oN 134 .nop [5]]),
  (134, true, [true, true, false, false], [o0 134 (.aload_n 0), oN 135 (.getfield 12) [1, 0, 212], oC 138 (.invokevirtual 67) [473] c_X0_workOutFollowers, o0 141 (.iload_n 1), o0 142 .ireturn])]
set_option maxRecDepth 100000 in
theorem ck_X1_readText : s_ck RX1 cX1_readText 4 8 170 k_X1_readText = true := by decide +kernel

theorem okb_X1_readText : s_okb k_X1_readText := by
  show s_Ok c_X0_makeEmpty ∧ s_Ok c_X1_nextToken ∧ s_Ok c_X1_takeLine ∧ s_Ok c_X1_nextToken ∧ s_Ok c_X1_blame ∧ s_Ok c_X0_workOutFollowers ∧ True
  exact ⟨ok_X0_makeEmpty, ok_X1_nextToken, ok_X1_takeLine, ok_X1_nextToken, ok_X1_blame, ok_X0_workOutFollowers, trivial⟩
set_option maxRecDepth 100000 in
set_option maxHeartbeats 4000000 in
theorem ok_X1_readText : s_Ok c_X1_readText := by
  refine s_ok_of k_X1_readText (by decide +kernel) sta_X1_readText ck_X1_readText okb_X1_readText ?_
  rintro vs L ⟨e, ln, ta, s, F, d, t, rfl, rfl, hln, ht2⟩
  refine ⟨rfl, fun G hG => ?_⟩
  obtain ⟨X, hX⟩ : ∃ X, X = k_tx ta ln e d := ⟨_, rfl⟩
  have fin : ∀ (v : Int32) (e2 : eT) (d2 : dT), v = X.1 → e2 = k_en ln X → d2 = X.2.2.2 → s_PP (some .int) false c_X1_readText.2.2.2.2.2 [.ref 0] (rdD e ln ta s F d) (some (.int v)) (rdD e2 ln ta (fun _ => 0) (FW F d2) d2) := by
    intro v e2 d2 h1 h2 h3
    refine ⟨rfl, ⟨X, ?_, by rw [h1], ?_⟩, fun h => by cases h⟩
    · rw [rB_D, rO_D, rE_D, rD_D]; exact hX
    · rw [rO_D, rB_D, h2, h3]; rfl
  have g5 : ∀ (v g : Int32) (e2 : eT) (d2 : dT), v = X.1 → e2 = k_en ln X → d2 = X.2.2.2 → dI d2 → G 5 [some (.ref 0), some (.int v), none, none] [] (rdD e2 ln ta (fun _ => 0) F d2) := by
    intro v g e2 d2 h1 h2 h3 hd
    obtain ⟨m, n, hm, hm8, hn, hn6⟩ := hd
    refine hG 5 _ _ _ ?_
    refine And.intro ⟨sD (fun _ => 0) d2, FD F d2, m, rfl, rfl, hm, hm8⟩ ?_
    rintro r L' ⟨rfl, hL⟩
    obtain rfl : L' = bkW (sD (fun _ => 0) d2) (FD (FW F d2) d2) := hL
    exact fin v e2 d2 h1 h2 h3
  have g4 : ∀ (v : Int32) (e2 : eT) (d2 : dT), v = X.1 → k_bl e2 6 ln = k_en ln X → d2 = X.2.2.2 → dI d2 → G 4 [some (.ref 0), some (.int v), none, none] [] (rdD e2 ln ta (fun _ => 0) F d2) := by
    intro v e2 d2 h1 h2 h3 hd
    refine hG 4 _ _ _ ?_
    refine And.intro ⟨_, _, e2, 6, ln, rfl, rfl⟩ ?_
    rintro r L' ⟨rfl, hL⟩
    obtain rfl : L' = [rdO 1003 1001 (k_bl e2 6 ln)] := hL
    exact g5 v 0 (k_bl e2 6 ln) d2 h1 h2 h3 hd
  have g3 : ∀ (v g : Int32) (e2 : eT) (d2 : dT), X = (v, g, e2, d2) → dI d2 → G 3 [some (.ref 0), some (.int v), some (.int g), none] [] (rdD e2 ln ta (fun _ => 0) F d2) := by
    intro v g e2 d2 hx hd
    have h1 : v = X.1 := by rw [hx]
    have h3 : d2 = X.2.2.2 := by rw [hx]
    refine hG 3 _ _ _ (And.intro (fun q => ?_) (fun q => ?_))
    · have q : g = 0 := q
      exact g5 v g e2 d2 h1 (by rw [k_en, hx, if_pos q]) h3 hd
    have q : ¬ g = 0 := q
    refine And.intro (fun q2 => ?_) (fun q2 => ?_)
    rotate_left
    · have q2 : ¬ e_on e2 >>> (d_pe d2 &&& 31) = 0 := q2
      exact g4 v e2 d2 h1 (by rw [k_en, hx, if_neg q, if_neg (fun z => q2 z.1)]) h3 hd
    have q2 : e_on e2 >>> (d_pe d2 &&& 31) = 0 := q2
    refine And.intro (fun q3 => ?_) (fun q3 => ?_)
    · have q3 : e_wi e2 >>> (d_wi d2 &&& 31) = 0 := q3
      exact g5 v g e2 d2 h1 (by rw [k_en, hx, if_neg q, if_pos ⟨q2, q3⟩]) h3 hd
    · have q3 : ¬ e_wi e2 >>> (d_wi d2 &&& 31) = 0 := q3
      exact g4 v e2 d2 h1 (by rw [k_en, hx, if_neg q, if_neg (fun z => q3 z.2)]) h3 hd
  have gx : ∀ (v x : Int32) (e2 : eT) (d2 : dT), X = (v, 0, e2, d2) → dI d2 → G 1 [some (.ref 0), some (.int v), some (.int 0), some (.int x)] [] (rdD e2 ln ta (fun _ => 0) F d2) := by
    intro v x e2 d2 hx hd
    refine hG 1 _ _ _ (And.intro (fun c => ?_) (fun c => ?_))
    · exact And.intro (fun _ => g3 v 0 e2 d2 hx hd) (fun q => absurd rfl q)
    · exact g3 v 0 e2 d2 hx hd
  have loop : ∀ (k i : Nat) (x v g : Int32) (e2 : eT) (d2 : dT), i + k = t → x = nI i → kJ e2 t → dI d2 → X = k_rt ta ln k (v, g, e2, d2) → G 1 [some (.ref 0), some (.int v), some (.int g), some (.int x)] [] (rdD e2 ln ta (fun _ => 0) F d2) := by
    intro k
    induction k with
    | zero =>
      intro i x v g e2 d2 hi hx hJ hd hX
      refine hG 1 _ _ _ (And.intro (fun c => ?_) (fun c => ?_))
      · have c : x < ln := c
        rw [hx, hln, nI_ltI (by omega) (by omega)] at c; omega
      · exact g3 v g e2 d2 hX hd
    | succ k ih =>
      intro i x v g e2 d2 hi hx hJ hd hX
      rw [k_rt] at hX
      dsimp only at hX
      refine hG 1 _ _ _ (And.intro (fun c => ?_) (fun c => ?_))
      rotate_left
      · have c : ¬ x < ln := c
        rw [hx, hln, nI_ltI (by omega) (by omega)] at c; omega
      refine And.intro (fun q => ?_) (fun q => ?_)
      · have q : g = 0 := q
        rw [if_pos q] at hX
        exact g3 v g e2 d2 hX hd
      have q : ¬ g = 0 := q
      rw [if_neg q] at hX
      refine And.intro (fun q2 => ?_) (fun q2 => ?_)
      · have q2 : e_ki e2 = 0 := q2
        rw [if_pos q2] at hX
        exact g3 v g e2 d2 hX hd
      have q2 : ¬ e_ki e2 = 0 := q2
      rw [if_neg q2, k_r1] at hX
      have hIY := k_ln_I (ta := ta) (d := d2) ht2 (kJ_I hJ) hd
      have hd' := hd
      obtain ⟨m, n, hm, hm8, hn, hn6⟩ := hd'
      refine And.intro ⟨e2, ln, ta, fun _ => 0, F, d2, t, m, n, rfl, rfl, hln, ht2, hJ, hm, hm8, hn, hn6⟩ ?_
      rintro r L' ⟨Y, hY, hr, hL⟩
      replace hY : Y = k_ln ta ln e2 d2 := hY
      rw [← hln, ← hY] at hIY
      rw [← hY] at hX
      obtain ⟨vy, ey, dy⟩ := Y
      subst hr
      obtain rfl : L' = rdD ey ln ta (fun _ => 0) F dy := hL
      dsimp only at hX hIY
      refine And.intro (fun q3 => ?_) (fun q3 => ?_)
      · have q3 : vy = 0 := q3
        rw [k_rs, if_pos q3] at hX
        subst q3
        have hJ2 : X = (v, 0, ey, dy) := by
          rw [hX]
          cases k with
          | zero => rfl
          | succ k => rw [k_rt, if_pos rfl]
        exact gx v _ ey dy hJ2 hIY.2
      · have q3 : ¬ vy = 0 := q3
        rw [k_rs, if_neg q3] at hX
        have hIy := hIY.1
        have hJ3 := kJ_nx (ta := ta) ht2 hIy
        rw [← hln] at hJ3
        obtain ⟨pp, hpp, hppt⟩ := id hIy
        refine And.intro ⟨_, ey, ln, ta, pp, t, rfl, rfl, hln, ht2, hpp, hppt⟩ ?_
        rintro r L' ⟨hr, hL⟩
        replace hr : r = some (.int (k_nx (bF (rd3 1003 (ey) ln ta) 2) (oI (rd3 1003 (ey) ln ta) 1 1) (rE (rd3 1003 (ey) ln ta))).1) := hr
        replace hL : L' = rd3L (rd3 1003 (ey) ln ta) (k_nx (bF (rd3 1003 (ey) ln ta) 2) (oI (rd3 1003 (ey) ln ta) 1 1) (rE (rd3 1003 (ey) ln ta))).2 := hL
        rw [rB_3, rO_3, rE_3] at hr
        rw [rB_3, rO_3, rE_3, rL_3] at hL
        obtain ⟨N1, hN1⟩ : ∃ N, N = k_nx ta ln (ey) := ⟨_, rfl⟩
        rw [← hN1] at hr hL
        obtain ⟨v1, e1⟩ := N1
        dsimp only at hr hL
        subst hr hL
        rw [← hN1] at hX hJ3
        dsimp only at hX hJ3
        exact ih (i + 1) _ (v + 1) v1 e1 dy (by omega) (by rw [hx, nI_1]) hJ3 hIY.2 hX
  refine hG 0 _ _ _ ?_
  refine And.intro ⟨sD s d, FD F d, rfl, rfl⟩ ?_
  rintro r L' ⟨rfl, hL⟩
  obtain ⟨d0, hd0⟩ : ∃ d0, d0 = k_d0 (d_f1 d) (d_f2 d) (d_f3 d) (d_f4 d) (d_f5 d) (d_f8 d) := ⟨_, rfl⟩
  obtain rfl : L' = bkW (sD (fun _ => 0) d0) (FD F d0) := by rw [hd0]; exact hL
  refine And.intro (Or.inl rfl) ?_
  have hI0 : kI (k_e0 e) t := ⟨0, rfl, Nat.zero_le _⟩
  have hJ0 := kJ_nx (ta := ta) ht2 hI0
  rw [← hln] at hJ0
  have hdI : dI d0 := by rw [hd0]; exact ⟨0, 0, rfl, by decide, rfl, by decide⟩
  rw [k_tx, ← hd0] at hX
  obtain ⟨pp, hpp, hppt⟩ := id hI0
  refine And.intro ⟨_, k_e0 e, ln, ta, pp, t, rfl, rfl, hln, ht2, hpp, hppt⟩ ?_
  rintro r L' ⟨hr, hL⟩
  replace hr : r = some (.int (k_nx (bF (rd3 1003 (k_e0 e) ln ta) 2) (oI (rd3 1003 (k_e0 e) ln ta) 1 1) (rE (rd3 1003 (k_e0 e) ln ta))).1) := hr
  replace hL : L' = rd3L (rd3 1003 (k_e0 e) ln ta) (k_nx (bF (rd3 1003 (k_e0 e) ln ta) 2) (oI (rd3 1003 (k_e0 e) ln ta) 1 1) (rE (rd3 1003 (k_e0 e) ln ta))).2 := hL
  rw [rB_3, rO_3, rE_3] at hr
  rw [rB_3, rO_3, rE_3, rL_3] at hL
  obtain ⟨N1, hN1⟩ : ∃ N, N = k_nx ta ln (k_e0 e) := ⟨_, rfl⟩
  rw [← hN1] at hr hL
  obtain ⟨v1, e1⟩ := N1
  dsimp only at hr hL
  subst hr hL
  rw [← hN1] at hX hJ0
  have ht : ln.toNatClampNeg = t := by rw [hln, nI_clamp (by omega)]
  rw [ht] at hX
  exact loop t 0 0 0 v1 e1 d0 (by omega) nI_0.symm hJ0 hdI hX

/-! ===== Reader: a line ===== -/
/-- people, wishes, depth, lives, barred, listed, planned; years, price, ones, needed, clashing, planWish -/
abbrev dT : Type := Int32 × Int32 × Int32 × Int32 × Int32 × Int32 × Int32 × (Nat → Int32) × (Nat → Int32) × (Nat → Int32) × (Nat → Int32) × (Nat → Int32) × (Nat → Int32)
abbrev d_pe (d : dT) : Int32 := d.1
abbrev d_wi (d : dT) : Int32 := d.2.1
abbrev d_de (d : dT) : Int32 := d.2.2.1
abbrev d_li (d : dT) : Int32 := d.2.2.2.1
abbrev d_ba (d : dT) : Int32 := d.2.2.2.2.1
abbrev d_ls (d : dT) : Int32 := d.2.2.2.2.2.1
abbrev d_pn (d : dT) : Int32 := d.2.2.2.2.2.2.1
abbrev d_f1 (d : dT) : Nat → Int32 := d.2.2.2.2.2.2.2.1
abbrev d_f2 (d : dT) : Nat → Int32 := d.2.2.2.2.2.2.2.2.1
abbrev d_f3 (d : dT) : Nat → Int32 := d.2.2.2.2.2.2.2.2.2.1
abbrev d_f4 (d : dT) : Nat → Int32 := d.2.2.2.2.2.2.2.2.2.2.1
abbrev d_f5 (d : dT) : Nat → Int32 := d.2.2.2.2.2.2.2.2.2.2.2.1
abbrev d_f8 (d : dT) : Nat → Int32 := d.2.2.2.2.2.2.2.2.2.2.2.2
def sD (s : Nat → Int32) (d : dT) : Nat → Int32 := fun k => match k with
  | 0 => d_pe d
  | 1 => d_wi d
  | 2 => d_de d
  | 3 => d_li d
  | 4 => d_ba d
  | 6 => d_ls d
  | 15 => d_pn d
  | k => s k
def FD (F : Nat → Nat → Int32) (d : dT) : Nat → Nat → Int32 := fun k => match k with
  | 1 => d_f1 d
  | 2 => d_f2 d
  | 3 => d_f3 d
  | 4 => d_f4 d
  | 5 => d_f5 d
  | 8 => d_f8 d
  | k => F k
def rdD (e : eT) (ln : Int32) (ta : Nat → Int32) (s : Nat → Int32) (F : Nat → Nat → Int32) (d : dT) : sH := [rdO 3 1 e, .inr (.inr (4, [.ref 2, .int ln])), .inl (1, 160, ta), .inr (.inr (0, [.int (d_pe d), .int (d_wi d), .int (d_de d), .int (d_li d), .int (d_ba d), .int (s 5), .int (d_ls d), .ref 4, .ref 5, .ref 6, .ref 7, .ref 8, .ref 9, .ref 10, .ref 11, .int (d_pn d), .ref 12, .int (s 17), .int (s 18)])), .inl (0, 8, d_f1 d), .inl (0, 8, d_f2 d), .inl (0, 8, d_f3 d), .inl (0, 8, d_f4 d), .inl (0, 8, d_f5 d), .inl (0, 8, F 6), .inl (0, 8, F 7), .inl (0, 6, d_f8 d), .inl (0, 8, F 9)]
theorem rdD_W (e : eT) (ln : Int32) (ta : Nat → Int32) (s : Nat → Int32) (F : Nat → Nat → Int32) (d : dT) : rdD e ln ta s F d = rdW e ln ta (sD s d) (FD F d) := rfl
def rD (L : sH) : dT := (oI L 3 0, oI L 3 1, oI L 3 2, oI L 3 3, oI L 3 4, oI L 3 6, oI L 3 15, bF L 4, bF L 5, bF L 6, bF L 7, bF L 8, bF L 11)
def rdDL (L : sH) (e : eT) (d : dT) : sH := rdD e (oI L 1 1) (bF L 2) (oI L 3) (bG 3 L) d
theorem rE_D (e : eT) (ln : Int32) (ta s : Nat → Int32) (F : Nat → Nat → Int32) (d : dT) : rE (rdD e ln ta s F d) = e := rfl
theorem rB_D (e : eT) (ln : Int32) (ta s : Nat → Int32) (F : Nat → Nat → Int32) (d : dT) : bF (rdD e ln ta s F d) 2 = ta := rfl
theorem rO_D (e : eT) (ln : Int32) (ta s : Nat → Int32) (F : Nat → Nat → Int32) (d : dT) : oI (rdD e ln ta s F d) 1 1 = ln := rfl
theorem rD_D (e : eT) (ln : Int32) (ta s : Nat → Int32) (F : Nat → Nat → Int32) (d : dT) : rD (rdD e ln ta s F d) = d := rfl
theorem rL_D (e e2 : eT) (ln : Int32) (ta s : Nat → Int32) (F : Nat → Nat → Int32) (d d2 : dT) : rdDL (rdD e ln ta s F d) e2 d2 = rdD e2 ln ta s F d2 := rfl
abbrev lT : Type := Int32 × eT × dT
def lnO (X : oT) (d : dT) : lT := (X.1, X.2.1, X.2.2.1, d.2.1, d.2.2.1, X.2.2.2.1, X.2.2.2.2, d.2.2.2.2.2)
def lnW (X : wT) (d : dT) : lT := (X.1, X.2.1, d.1, X.2.2.1, d.2.2.1, d.2.2.2.1, d.2.2.2.2.1, d.2.2.2.2.2.1, d.2.2.2.2.2.2.1, X.2.2.2.1, X.2.2.2.2.1, X.2.2.2.2.2, d.2.2.2.2.2.2.2.2.2.2)
def lnN (X : Int32 × eT × (Nat → Int32)) (d : dT) : lT := (X.1, X.2.1, d.1, d.2.1, d.2.2.1, d.2.2.2.1, d.2.2.2.2.1, d.2.2.2.2.2.1, d.2.2.2.2.2.2.1, d.2.2.2.2.2.2.2.1, d.2.2.2.2.2.2.2.2.1, d.2.2.2.2.2.2.2.2.2.1, X.2.2, d.2.2.2.2.2.2.2.2.2.2.2)
def lnC (X : Int32 × eT × (Nat → Int32)) (d : dT) : lT := (X.1, X.2.1, d.1, d.2.1, d.2.2.1, d.2.2.2.1, d.2.2.2.2.1, d.2.2.2.2.2.1, d.2.2.2.2.2.2.1, d.2.2.2.2.2.2.2.1, d.2.2.2.2.2.2.2.2.1, d.2.2.2.2.2.2.2.2.2.1, d.2.2.2.2.2.2.2.2.2.2.1, X.2.2, d.2.2.2.2.2.2.2.2.2.2.2.2)
def lnL (X : Int32 × eT × Int32) (d : dT) : lT := (X.1, X.2.1, d.1, d.2.1, d.2.2.1, d.2.2.2.1, d.2.2.2.2.1, X.2.2, d.2.2.2.2.2.2)
def lnDe (X : Int32 × eT × Int32) (d : dT) : lT := (X.1, X.2.1, d.1, d.2.1, X.2.2, d.2.2.2)
def lnP (X : Int32 × eT × Int32 × (Nat → Int32)) (d : dT) : lT := (X.1, X.2.1, d.1, d.2.1, d.2.2.1, d.2.2.2.1, d.2.2.2.2.1, d.2.2.2.2.2.1, X.2.2.1, d.2.2.2.2.2.2.2.1, d.2.2.2.2.2.2.2.2.1, d.2.2.2.2.2.2.2.2.2.1, d.2.2.2.2.2.2.2.2.2.2.1, d.2.2.2.2.2.2.2.2.2.2.2.1, X.2.2.2)
def k_l7 (e : eT) (d : dT) : lT := (0, k_bl e 2 (e_fi e), d)
def k_l6 (ta : Nat → Int32) (ln : Int32) (e : eT) (d : dT) : lT := if k_nm ta e 6 = 0 then k_l7 e d else lnP (k_pl ta ln e (d_pn d) (d_f8 d)) d
def k_l5 (ta : Nat → Int32) (ln : Int32) (e : eT) (d : dT) : lT := if k_nm ta e 5 = 0 then k_l6 ta ln e d else lnDe (k_de ta ln e (d_de d)) d
def k_l4 (ta : Nat → Int32) (ln : Int32) (e : eT) (d : dT) : lT := if k_nm ta e 4 = 0 then k_l5 ta ln e d else lnL (k_li ta ln e (d_ls d)) d
def k_l3 (ta : Nat → Int32) (ln : Int32) (e : eT) (d : dT) : lT := if k_nm ta e 3 = 0 then k_l4 ta ln e d else lnC (k_cl1 ta ln (k_tn ta ln e 7 0) (d_f5 d)) d
def k_l2 (ta : Nat → Int32) (ln : Int32) (e : eT) (d : dT) : lT := if k_nm ta e 2 = 0 then k_l3 ta ln e d else lnN (k_nd ta ln (k_tn ta ln e 7 0) (d_f4 d)) d
def k_l1 (ta : Nat → Int32) (ln : Int32) (e : eT) (d : dT) : lT := if k_nm ta e 1 = 0 then k_l2 ta ln e d else lnW (k_wi ta ln e (d_wi d) (d_f1 d) (d_f2 d) (d_f3 d)) d
def k_ln (ta : Nat → Int32) (ln : Int32) (e : eT) (d : dT) : lT := if k_nm ta e 0 = 0 then k_l1 ta ln e d else lnO (k_on ta ln e (d_pe d) (d_li d) (d_ba d)) d
/-! the answers are 0 or 1 -/
theorem k_on_01 (ta : Nat → Int32) (ln : Int32) (e : eT) (a b c : Int32) : (k_on ta ln e a b c).1 = 0 ∨ (k_on ta ln e a b c).1 = 1 := by
  unfold k_on
  split
  · unfold k_on1
    split
    · exact Or.inl rfl
    · unfold k_on2
      split
      · exact Or.inl rfl
      · exact k_ts_01 ta ln _
  · exact Or.inl rfl
theorem k_os_01 (ta : Nat → Int32) (ln w : Int32) : ∀ (k : Nat) (e : eT) (f : Nat → Int32), (k_os ta ln w k e f).1 = 0 ∨ (k_os ta ln w k e f).1 = 1
  | 0, e, f => Or.inl rfl
  | k + 1, e, f => by
    rw [k_os]
    split
    · exact Or.inl rfl
    split
    · exact Or.inr rfl
    split
    · exact k_os_01 ta ln w k _ _
    · exact Or.inl rfl
theorem k_ns_01 (ta : Nat → Int32) (ln w : Int32) : ∀ (k : Nat) (e : eT) (f : Nat → Int32), (k_ns ta ln w k e f).1 = 0 ∨ (k_ns ta ln w k e f).1 = 1
  | 0, e, f => Or.inl rfl
  | k + 1, e, f => by
    rw [k_ns]
    split
    · exact Or.inl rfl
    split
    · exact Or.inr rfl
    split
    · exact Or.inl rfl
    · exact k_ns_01 ta ln w k _ _
theorem k_wi_01 (ta : Nat → Int32) (ln : Int32) (e : eT) (a : Int32) (f g h : Nat → Int32) : (k_wi ta ln e a f g h).1 = 0 ∨ (k_wi ta ln e a f g h).1 = 1 := by
  unfold k_wi
  split
  · unfold k_wi1
    split
    · exact Or.inl rfl
    · unfold k_wi2
      split
      · exact Or.inl rfl
      · unfold k_wi3
        split
        · exact Or.inl rfl
        · exact Or.inr rfl
  · exact Or.inl rfl
theorem k_nd_01 (ta : Nat → Int32) (ln : Int32) (N : Int32 × eT) (f : Nat → Int32) : (k_nd ta ln N f).1 = 0 ∨ (k_nd ta ln N f).1 = 1 := by
  unfold k_nd
  split
  · exact Or.inl rfl
  · exact k_ns_01 ta ln _ _ _ _
theorem k_cl_01 (ta : Nat → Int32) (ln : Int32) (N : Int32 × eT) (f : Nat → Int32) : (k_cl1 ta ln N f).1 = 0 ∨ (k_cl1 ta ln N f).1 = 1 := by
  unfold k_cl1
  split
  · exact Or.inl rfl
  · unfold k_cl2
    split
    · exact Or.inl rfl
    split
    · exact Or.inl rfl
    · exact k_ts_01 ta ln _
theorem k_li_01 (ta : Nat → Int32) (ln : Int32) (e : eT) (a : Int32) : (k_li ta ln e a).1 = 0 ∨ (k_li ta ln e a).1 = 1 := by
  unfold k_li
  split
  · exact Or.inl rfl
  split
  · exact k_ts_01 ta ln _
  · exact Or.inl rfl
theorem k_de_01 (ta : Nat → Int32) (ln : Int32) (e : eT) (a : Int32) : (k_de ta ln e a).1 = 0 ∨ (k_de ta ln e a).1 = 1 := by
  unfold k_de
  split
  · split
    · exact Or.inl rfl
    · exact k_ts_01 ta ln _
  · exact Or.inl rfl
theorem k_pl_01 (ta : Nat → Int32) (ln : Int32) (e : eT) (a : Int32) (f : Nat → Int32) : (k_pl ta ln e a f).1 = 0 ∨ (k_pl ta ln e a f).1 = 1 := by
  unfold k_pl
  split
  · unfold k_pl2
    split
    · exact Or.inl rfl
    · exact k_ts_01 ta ln _
  · exact Or.inl rfl
theorem k_ln_01 (ta : Nat → Int32) (ln : Int32) (e : eT) (d : dT) : (k_ln ta ln e d).1 = 0 ∨ (k_ln ta ln e d).1 = 1 := by
  unfold k_ln k_l1 k_l2 k_l3 k_l4 k_l5 k_l6
  split
  · split
    · split
      · split
        · split
          · split
            · split
              · exact Or.inl rfl
              · exact k_pl_01 ta ln e _ _
            · exact k_de_01 ta ln e _
          · exact k_li_01 ta ln e _
        · exact k_cl_01 ta ln _ _
      · exact k_nd_01 ta ln _ _
    · exact k_wi_01 ta ln e _ _ _ _
  · exact k_on_01 ta ln e _ _ _
def c_X1_takeLine : sCtr := ((yX1_takeLine, cX1_takeLine, 1, (some .boolean)), (2, 0, 7, 150), false,
  rdfp,
  fun vs L => ∃ (e : eT) (ln : Int32) (ta : Nat → Int32) (s : Nat → Int32) (F : Nat → Nat → Int32) (d : dT) (t m n : Nat), vs = [.ref 0] ∧ L = rdD e ln ta s F d ∧ ln = nI t ∧ t ≤ 160 ∧ kJ e t ∧ d_wi d = nI m ∧ m ≤ 8 ∧ d_pn d = nI n ∧ n ≤ 6,
  fun _ L r L' => ∃ X, X = k_ln (bF L 2) (oI L 1 1) (rE L) (rD L) ∧ r = some (.int X.1) ∧ L' = rdDL L X.2.1 X.2.2)
theorem sta_X1_takeLine : s_Sta c_X1_takeLine := ⟨⟨by decide +kernel, by decide +kernel, by decide +kernel⟩, List.mem_of_getElem? (i := 364) (by decide +kernel), List.mem_of_getElem? (i := 66) (by decide +kernel), ⟨List.mem_of_getElem? (i := 363) (by decide +kernel), List.mem_of_getElem? (i := 3) (by decide +kernel), Or.inl ⟨_, rfl, rfl⟩⟩⟩

def k_X1_takeLine : List sBk := [
  (0, false, [true], [o0 0 (.aload_n 0), oV 1 (.ldc 96) [0, 0] (.ref 500), oC 3 (.invokevirtual 98) [366] c_X1_isName, oN 6 (.ifCond .eq 8) [1], o0 9 (.aload_n 0), oC 10 (.invokevirtual 102) [418] c_X1_takeOne, o0 13 .ireturn]),
  (14, true, [true], [o0 14 (.aload_n 0), oV 15 (.ldc 105) [1, 0] (.ref 501), oC 17 (.invokevirtual 98) [366] c_X1_isName, oN 20 (.ifCond .eq 8) [2], o0 23 (.aload_n 0), oC 24 (.invokevirtual 107) [433] c_X1_takeWish, o0 27 .ireturn]),
  (28, true, [true], [o0 28 (.aload_n 0), oV 29 (.ldc 110) [2, 0] (.ref 502), oC 31 (.invokevirtual 98) [366] c_X1_isName, oN 34 (.ifCond .eq 8) [3], o0 37 (.aload_n 0), oC 38 (.invokevirtual 112) [449] c_X1_takeNeeds, o0 41 .ireturn]),
  (42, true, [true], [o0 42 (.aload_n 0), oV 43 (.ldc 115) [3, 0] (.ref 503), oC 45 (.invokevirtual 98) [366] c_X1_isName, oN 48 (.ifCond .eq 8) [4], o0 51 (.aload_n 0), oC 52 (.invokevirtual 117) [454] c_X1_takeClash, o0 55 .ireturn]),
  (56, true, [true], [o0 56 (.aload_n 0), oV 57 (.ldc 120) [4, 0] (.ref 504), oC 59 (.invokevirtual 98) [366] c_X1_isName, oN 62 (.ifCond .eq 8) [5], o0 65 (.aload_n 0), oC 66 (.invokevirtual 122) [459] c_X1_takeListed, o0 69 .ireturn]),
  (70, true, [true], [o0 70 (.aload_n 0), oV 71 (.ldc 125) [5, 0] (.ref 505), oC 73 (.invokevirtual 98) [366] c_X1_isName, oN 76 (.ifCond .eq 8) [6], o0 79 (.aload_n 0), oC 80 (.invokevirtual 127) [464] c_X1_takeDepth, o0 83 .ireturn]),
  (84, true, [true], [o0 84 (.aload_n 0), oV 85 (.ldc 130) [6, 0] (.ref 506), oC 87 (.invokevirtual 98) [366] c_X1_isName, oN 90 (.ifCond .eq 8) [7], o0 93 (.aload_n 0), oC 94 (.invokevirtual 132) [469] c_X1_takePlanned, o0 97 .ireturn]),
  (98, true, [true], [o0 98 (.aload_n 0), oK 99 (.iconst 2) (.int 2), o0 100 (.aload_n 0), oN 101 (.getfield 77) [1, 5, 220], oC 104 (.invokevirtual 63) [357] c_X1_blame, o0 107 .ireturn])]
set_option maxRecDepth 100000 in
theorem ck_X1_takeLine : s_ck RX1 cX1_takeLine 1 7 150 k_X1_takeLine = true := by decide +kernel

theorem okb_X1_takeLine : s_okb k_X1_takeLine := by
  show s_Ok c_X1_isName ∧ s_Ok c_X1_takeOne ∧ s_Ok c_X1_isName ∧ s_Ok c_X1_takeWish ∧ s_Ok c_X1_isName ∧ s_Ok c_X1_takeNeeds ∧ s_Ok c_X1_isName ∧ s_Ok c_X1_takeClash ∧ s_Ok c_X1_isName ∧ s_Ok c_X1_takeListed ∧ s_Ok c_X1_isName ∧ s_Ok c_X1_takeDepth ∧ s_Ok c_X1_isName ∧ s_Ok c_X1_takePlanned ∧ s_Ok c_X1_blame ∧ True
  exact ⟨ok_X1_isName, ok_X1_takeOne, ok_X1_isName, ok_X1_takeWish, ok_X1_isName, ok_X1_takeNeeds, ok_X1_isName, ok_X1_takeClash, ok_X1_isName, ok_X1_takeListed, ok_X1_isName, ok_X1_takeDepth, ok_X1_isName, ok_X1_takePlanned, ok_X1_blame, trivial⟩
set_option maxRecDepth 100000 in
set_option maxHeartbeats 4000000 in
theorem ok_X1_takeLine : s_Ok c_X1_takeLine := by
  refine s_ok_of k_X1_takeLine (by decide +kernel) sta_X1_takeLine ck_X1_takeLine okb_X1_takeLine ?_
  rintro vs L ⟨e, ln, ta, s, F, d, t, m, n, rfl, rfl, hln, ht2, hJ, hm, hm8, hn, hn6⟩
  refine ⟨rfl, fun G hG => ?_⟩
  obtain ⟨X, hX⟩ : ∃ X, X = k_ln ta ln e d := ⟨_, rfl⟩
  have h01X := k_ln_01 ta ln e d
  rw [← hX] at h01X
  have hI := kJ_I hJ
  have fin : ∀ (v : Int32) (e2 : eT) (d2 : dT), X = (v, e2, d2) → (v = 0 ∨ v = 1) ∧ s_PP (some .boolean) false c_X1_takeLine.2.2.2.2.2 [.ref 0] (rdD e ln ta s F d) (some (.int v)) (rdD e2 ln ta s F d2) := by
    intro v e2 d2 h
    refine ⟨by rw [h] at h01X; exact h01X, rfl, ⟨(v, e2, d2), ?_, rfl, ?_⟩, fun h => by cases h⟩
    · rw [rB_D, rO_D, rE_D, rD_D, ← hX, h]
    · rw [rL_D]
  have g7 : X = k_l7 e d → G 7 [some (.ref 0)] [] (rdD e ln ta s F d) := by
    intro hX
    refine hG 7 _ _ _ ?_
    refine And.intro ⟨_, _, e, 2, e_fi (e), rfl, rfl⟩ ?_
    rintro r L' ⟨rfl, hL⟩
    obtain rfl : L' = [rdO 1003 1001 (k_bl (e) 2 (e_fi (e)))] := hL
    exact fin 0 (k_bl e 2 (e_fi e)) d hX
  have g6 : X = k_l6 ta ln e d → G 6 [some (.ref 0)] [] (rdD e ln ta s F d) := by
    intro hX
    refine hG 6 _ _ _ ?_
    refine And.intro ⟨_, e, ln, ta, t, 6, rfl, rfl, hln, ht2, hJ, by decide⟩ ?_
    intro r hr
    replace hr : r = some (.int (k_nm (bF (rd3 1003 (e) ln ta) 2) (rE (rd3 1003 (e) ln ta)) 6)) := hr
    rw [rB_3, rE_3] at hr
    obtain ⟨a, ha⟩ : ∃ q, q = k_nm ta (e) 6 := ⟨_, rfl⟩
    rw [← ha] at hr
    subst hr
    rw [k_l6, ← ha] at hX
    refine And.intro (fun q => g7 (by rw [if_pos q] at hX; exact hX)) (fun q => ?_)
    rw [if_neg q] at hX
    refine And.intro ⟨e, ln, ta, sD s d, FD F d, t, n, rfl, rfl, hln, ht2, hI, hn, hn6⟩ ?_
    rintro r L' ⟨Y, hY, hr, hL⟩
    replace hY : Y = k_pl ta ln e (d_pn d) (d_f8 d) := hY
    rw [← hY] at hX
    obtain ⟨v2, e2, y1, y2⟩ := Y
    subst hr
    obtain ⟨d2, hd2⟩ : ∃ d2, d2 = (lnP (v2, e2, y1, y2) d).2.2 := ⟨_, rfl⟩
    obtain rfl : L' = rdD e2 ln ta s F d2 := by rw [hd2]; exact hL
    exact fin v2 e2 d2 (by rw [hX, hd2]; rfl)
  have g5 : X = k_l5 ta ln e d → G 5 [some (.ref 0)] [] (rdD e ln ta s F d) := by
    intro hX
    refine hG 5 _ _ _ ?_
    refine And.intro ⟨_, e, ln, ta, t, 5, rfl, rfl, hln, ht2, hJ, by decide⟩ ?_
    intro r hr
    replace hr : r = some (.int (k_nm (bF (rd3 1003 (e) ln ta) 2) (rE (rd3 1003 (e) ln ta)) 5)) := hr
    rw [rB_3, rE_3] at hr
    obtain ⟨a, ha⟩ : ∃ q, q = k_nm ta (e) 5 := ⟨_, rfl⟩
    rw [← ha] at hr
    subst hr
    rw [k_l5, ← ha] at hX
    refine And.intro (fun q => g6 (by rw [if_pos q] at hX; exact hX)) (fun q => ?_)
    rw [if_neg q] at hX
    refine And.intro ⟨e, ln, ta, sD s d, FD F d, t, rfl, rfl, hln, ht2, hI⟩ ?_
    rintro r L' ⟨Y, hY, hr, hL⟩
    replace hY : Y = k_de ta ln e (d_de d) := hY
    rw [← hY] at hX
    obtain ⟨v2, e2, y1⟩ := Y
    subst hr
    obtain ⟨d2, hd2⟩ : ∃ d2, d2 = (lnDe (v2, e2, y1) d).2.2 := ⟨_, rfl⟩
    obtain rfl : L' = rdD e2 ln ta s F d2 := by rw [hd2]; exact hL
    exact fin v2 e2 d2 (by rw [hX, hd2]; rfl)
  have g4 : X = k_l4 ta ln e d → G 4 [some (.ref 0)] [] (rdD e ln ta s F d) := by
    intro hX
    refine hG 4 _ _ _ ?_
    refine And.intro ⟨_, e, ln, ta, t, 4, rfl, rfl, hln, ht2, hJ, by decide⟩ ?_
    intro r hr
    replace hr : r = some (.int (k_nm (bF (rd3 1003 (e) ln ta) 2) (rE (rd3 1003 (e) ln ta)) 4)) := hr
    rw [rB_3, rE_3] at hr
    obtain ⟨a, ha⟩ : ∃ q, q = k_nm ta (e) 4 := ⟨_, rfl⟩
    rw [← ha] at hr
    subst hr
    rw [k_l4, ← ha] at hX
    refine And.intro (fun q => g5 (by rw [if_pos q] at hX; exact hX)) (fun q => ?_)
    rw [if_neg q] at hX
    refine And.intro ⟨e, ln, ta, sD s d, FD F d, t, rfl, rfl, hln, ht2, hI⟩ ?_
    rintro r L' ⟨Y, hY, hr, hL⟩
    replace hY : Y = k_li ta ln e (d_ls d) := hY
    rw [← hY] at hX
    obtain ⟨v2, e2, y1⟩ := Y
    subst hr
    obtain ⟨d2, hd2⟩ : ∃ d2, d2 = (lnL (v2, e2, y1) d).2.2 := ⟨_, rfl⟩
    obtain rfl : L' = rdD e2 ln ta s F d2 := by rw [hd2]; exact hL
    exact fin v2 e2 d2 (by rw [hX, hd2]; rfl)
  have g3 : X = k_l3 ta ln e d → G 3 [some (.ref 0)] [] (rdD e ln ta s F d) := by
    intro hX
    refine hG 3 _ _ _ ?_
    refine And.intro ⟨_, e, ln, ta, t, 3, rfl, rfl, hln, ht2, hJ, by decide⟩ ?_
    intro r hr
    replace hr : r = some (.int (k_nm (bF (rd3 1003 (e) ln ta) 2) (rE (rd3 1003 (e) ln ta)) 3)) := hr
    rw [rB_3, rE_3] at hr
    obtain ⟨a, ha⟩ : ∃ q, q = k_nm ta (e) 3 := ⟨_, rfl⟩
    rw [← ha] at hr
    subst hr
    rw [k_l3, ← ha] at hX
    refine And.intro (fun q => g4 (by rw [if_pos q] at hX; exact hX)) (fun q => ?_)
    rw [if_neg q] at hX
    refine And.intro ⟨e, ln, ta, sD s d, FD F d, t, rfl, rfl, hln, ht2, hI⟩ ?_
    rintro r L' ⟨Y, hY, hr, hL⟩
    replace hY : Y = k_cl1 ta ln (k_tn ta ln e 7 0) (d_f5 d) := hY
    rw [← hY] at hX
    obtain ⟨v2, e2, y1⟩ := Y
    subst hr
    obtain ⟨d2, hd2⟩ : ∃ d2, d2 = (lnC (v2, e2, y1) d).2.2 := ⟨_, rfl⟩
    obtain rfl : L' = rdD e2 ln ta s F d2 := by rw [hd2]; exact hL
    exact fin v2 e2 d2 (by rw [hX, hd2]; rfl)
  have g2 : X = k_l2 ta ln e d → G 2 [some (.ref 0)] [] (rdD e ln ta s F d) := by
    intro hX
    refine hG 2 _ _ _ ?_
    refine And.intro ⟨_, e, ln, ta, t, 2, rfl, rfl, hln, ht2, hJ, by decide⟩ ?_
    intro r hr
    replace hr : r = some (.int (k_nm (bF (rd3 1003 (e) ln ta) 2) (rE (rd3 1003 (e) ln ta)) 2)) := hr
    rw [rB_3, rE_3] at hr
    obtain ⟨a, ha⟩ : ∃ q, q = k_nm ta (e) 2 := ⟨_, rfl⟩
    rw [← ha] at hr
    subst hr
    rw [k_l2, ← ha] at hX
    refine And.intro (fun q => g3 (by rw [if_pos q] at hX; exact hX)) (fun q => ?_)
    rw [if_neg q] at hX
    refine And.intro ⟨e, ln, ta, sD s d, FD F d, t, rfl, rfl, hln, ht2, hI⟩ ?_
    rintro r L' ⟨Y, hY, hr, hL⟩
    replace hY : Y = k_nd ta ln (k_tn ta ln e 7 0) (d_f4 d) := hY
    rw [← hY] at hX
    obtain ⟨v2, e2, y1⟩ := Y
    subst hr
    obtain ⟨d2, hd2⟩ : ∃ d2, d2 = (lnN (v2, e2, y1) d).2.2 := ⟨_, rfl⟩
    obtain rfl : L' = rdD e2 ln ta s F d2 := by rw [hd2]; exact hL
    exact fin v2 e2 d2 (by rw [hX, hd2]; rfl)
  have g1 : X = k_l1 ta ln e d → G 1 [some (.ref 0)] [] (rdD e ln ta s F d) := by
    intro hX
    refine hG 1 _ _ _ ?_
    refine And.intro ⟨_, e, ln, ta, t, 1, rfl, rfl, hln, ht2, hJ, by decide⟩ ?_
    intro r hr
    replace hr : r = some (.int (k_nm (bF (rd3 1003 (e) ln ta) 2) (rE (rd3 1003 (e) ln ta)) 1)) := hr
    rw [rB_3, rE_3] at hr
    obtain ⟨a, ha⟩ : ∃ q, q = k_nm ta (e) 1 := ⟨_, rfl⟩
    rw [← ha] at hr
    subst hr
    rw [k_l1, ← ha] at hX
    refine And.intro (fun q => g2 (by rw [if_pos q] at hX; exact hX)) (fun q => ?_)
    rw [if_neg q] at hX
    refine And.intro ⟨e, ln, ta, sD s d, FD F d, t, m, rfl, rfl, hln, ht2, hI, hm, hm8⟩ ?_
    rintro r L' ⟨Y, hY, hr, hL⟩
    replace hY : Y = k_wi ta ln e (d_wi d) (d_f1 d) (d_f2 d) (d_f3 d) := hY
    rw [← hY] at hX
    obtain ⟨v2, e2, y1, y2, y3, y4⟩ := Y
    subst hr
    obtain ⟨d2, hd2⟩ : ∃ d2, d2 = (lnW (v2, e2, y1, y2, y3, y4) d).2.2 := ⟨_, rfl⟩
    obtain rfl : L' = rdD e2 ln ta s F d2 := by rw [hd2]; exact hL
    exact fin v2 e2 d2 (by rw [hX, hd2]; rfl)
  refine hG 0 _ _ _ ?_
  refine And.intro ⟨_, e, ln, ta, t, 0, rfl, rfl, hln, ht2, hJ, by decide⟩ ?_
  intro r hr
  replace hr : r = some (.int (k_nm (bF (rd3 1003 (e) ln ta) 2) (rE (rd3 1003 (e) ln ta)) 0)) := hr
  rw [rB_3, rE_3] at hr
  obtain ⟨a, ha⟩ : ∃ q, q = k_nm ta (e) 0 := ⟨_, rfl⟩
  rw [← ha] at hr
  subst hr
  have hX0 := hX
  rw [k_ln, ← ha] at hX
  refine And.intro (fun q => g1 (by rw [if_pos q] at hX; exact hX)) (fun q => ?_)
  rw [if_neg q] at hX
  refine And.intro ⟨e, ln, ta, sD s d, FD F d, t, rfl, rfl, hln, ht2, hI⟩ ?_
  rintro r L' ⟨Y, hY, hr, hL⟩
  replace hY : Y = k_on ta ln e (d_pe d) (d_li d) (d_ba d) := hY
  rw [← hY] at hX
  obtain ⟨v2, e2, y1, y2, y3⟩ := Y
  subst hr
  obtain ⟨d2, hd2⟩ : ∃ d2, d2 = (lnO (v2, e2, y1, y2, y3) d).2.2 := ⟨_, rfl⟩
  obtain rfl : L' = rdD e2 ln ta s F d2 := by rw [hd2]; exact hL
  exact fin v2 e2 d2 (by rw [hX, hd2]; rfl)

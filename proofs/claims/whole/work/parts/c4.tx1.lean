/-! ===== WishClerk: text ===== -/
def tw (xc xr x2 x3 x4 x5 : Nat) (y7 y8 y9 : Int32) (e : eT) (ln : Int32) (ta : Nat → Int32) (s : Nat → Int32) (F : Nat → Nat → Int32) (d : dT) : sH := [.inr (.inr (5, [.ref 2, .ref 1, .ref x2, .ref x3, .ref x4, .ref x5, .ref xc, .int y7, .int y8, .int y9])), rdO xr 2 e, .inr (.inr (4, [.ref 3, .int ln])), .inl (1, 160, ta), .inr (.inr (0, [.int (d_pe d), .int (d_wi d), .int (d_de d), .int (d_li d), .int (d_ba d), .int (s 5), .int (d_ls d), .ref 5, .ref 6, .ref 7, .ref 8, .ref 9, .ref 10, .ref 11, .ref 12, .int (d_pn d), .ref 13, .int (s 17), .int (s 18)])), .inl (0, 8, d_f1 d), .inl (0, 8, d_f2 d), .inl (0, 8, d_f3 d), .inl (0, 8, d_f4 d), .inl (0, 8, d_f5 d), .inl (0, 8, F 6), .inl (0, 8, F 7), .inl (0, 6, d_f8 d), .inl (0, 8, F 9)]
def twfp (vs : sS) (L : sH) : List Nat := match vs with
  | .ref b :: _ => b :: s_rf L b 1 :: s_rf L (s_rf L b 1) 3 :: s_rf L (s_rf L (s_rf L b 1) 3) 0 :: bkP L (s_rf L (s_rf L b 1) 0)
  | _ => []
def rE1 (L : sH) : eT := (oI L 1 1, oI L 1 2, oI L 1 4, oI L 1 5, oI L 1 6, oI L 1 7, oI L 1 8, oI L 1 9, oI L 1 10)
def rD4 (L : sH) : dT := (oI L 4 0, oI L 4 1, oI L 4 2, oI L 4 3, oI L 4 4, oI L 4 6, oI L 4 15, bF L 5, bF L 6, bF L 7, bF L 8, bF L 9, bF L 12)
/-- behind a text that has a fault, and behind one that has none -/
def twB (L : sH) (X : tT) (e : eT) : sH := tw (s_rf L 0 6) 4 (s_rf L 0 2) (s_rf L 0 3) (s_rf L 0 4) (s_rf L 0 5) (oI L 0 7) (e_fa e) (oI L 0 9) e 0 (bF L 3) (fun _ => 0) (FW (bG 4 L) X.2.2.2) X.2.2.2
def twG (L : sH) (X : tT) (e : eT) : sH := tw 4 (s_rf L 0 6) (s_rf L 0 2) (s_rf L 0 3) (s_rf L 0 4) (s_rf L 0 5) 0 (e_fa e) (oI L 0 9) e 0 (bF L 3) (fun _ => 0) (FW (bG 4 L) X.2.2.2) X.2.2.2
def c_X5_text : sCtr := ((yX5_text, cX5_text, 3, (some .int)), (6, 0, 9, 193), false,
  twfp,
  fun vs L => ∃ (x6 x2 x3 x4 x5 : Nat) (y7 y8 y9 : Int32) (e : eT) (ln : Int32) (ta : Nat → Int32) (s : Nat → Int32) (F : Nat → Nat → Int32) (d : dT) (t : Nat), vs = [.ref 0] ∧ L = tw x6 4 x2 x3 x4 x5 y7 y8 y9 e ln ta s F d ∧ ln = nI t ∧ t ≤ 160,
  fun _ L r L' => ∃ X E, X = k_tx (bF L 3) (oI L 2 1) (rE1 L) (rD4 L) ∧ E = k_en (oI L 2 1) X ∧ (e_fa E = 0 → r = some (.int X.1) ∧ L' = twG L X E) ∧ (¬ e_fa E = 0 → r = some (.int (-10 - e_pl E)) ∧ L' = twB L X E))
theorem sta_X5_text : s_Sta c_X5_text := ⟨⟨by decide +kernel, by decide +kernel, by decide +kernel⟩, List.mem_of_getElem? (i := 340) (by decide +kernel), List.mem_of_getElem? (i := 64) (by decide +kernel), ⟨List.mem_of_getElem? (i := 338) (by decide +kernel), List.mem_of_getElem? (i := 339) (by decide +kernel), Or.inl ⟨_, rfl, rfl⟩⟩⟩

def k_X5_text : List sBk := [
  (0, false, [true, false, false], [o0 0 (.aload_n 0), oN 1 (.getfield 21) [5, 1, 299], oC 4 (.invokevirtual 62) [341] c_X1_readText, o0 7 (.istore_n 1), o0 8 (.aload_n 0), oN 9 (.getfield 12) [5, 0, 298], oK 12 (.iconst 0) (.int 0), oN 13 (.putfield 54) [4, 1, 95], o0 16 (.aload_n 0), o0 17 (.aload_n 0), oN 18 (.getfield 21) [5, 1, 299], oN 21 (.getfield 66) [1, 1, 215], oN 24 (.putfield 69) [5, 8, 306], o0 27 (.aload_n 0), oN 28 (.getfield 69) [5, 8, 306], oN 31 (.ifCond .eq 14) [1], oK 34 (.bipush (-10)) (.int (-10)), o0 36 (.aload_n 0), oN 37 (.getfield 21) [5, 1, 299], oN 40 (.getfield 72) [1, 2, 217], o0 43 .isub, o0 44 .ireturn]),
  (45, false, [true, true, false], [o0 45 (.aload_n 0), oN 46 (.getfield 21) [5, 1, 299], oN 49 (.getfield 75) [1, 0, 213], o0 52 (.astore_n 2), o0 53 (.aload_n 0), oN 54 (.getfield 21) [5, 1, 299], o0 57 (.aload_n 0), oN 58 (.getfield 49) [5, 6, 304], oN 61 (.putfield 75) [1, 0, 213], o0 64 (.aload_n 0), o0 65 (.aload_n 2), oN 66 (.putfield 49) [5, 6, 304], o0 69 (.aload_n 0), oK 70 (.iconst 0) (.int 0), oN 71 (.putfield 76) [5, 7, 305], o0 74 (.iload_n 1), o0 75 .ireturn])]
set_option maxRecDepth 100000 in
theorem ck_X5_text : s_ck RX5 cX5_text 3 9 193 k_X5_text = true := by decide +kernel

theorem okb_X5_text : s_okb k_X5_text := by
  show s_Ok c_X1_readText ∧ True
  exact ⟨ok_X1_readText, trivial⟩
set_option maxRecDepth 100000 in
set_option maxHeartbeats 4000000 in
theorem ok_X5_text : s_Ok c_X5_text := by
  refine s_ok_of k_X5_text (by decide +kernel) sta_X5_text ck_X5_text okb_X5_text ?_
  rintro vs L ⟨x6, x2, x3, x4, x5, y7, y8, y9, e, ln, ta, s, F, d, t, rfl, rfl, hln, ht2⟩
  refine ⟨rfl, fun G hG => ?_⟩
  refine hG 0 _ _ _ ?_
  refine And.intro ⟨e, ln, ta, s, F, d, t, rfl, rfl, hln, ht2⟩ ?_
  rintro r L' ⟨X, hX, hr, hL⟩
  replace hX : X = k_tx ta ln e d := hX
  subst hr
  obtain ⟨E, hE⟩ : ∃ E, E = k_en ln X := ⟨_, rfl⟩
  obtain rfl : L' = rdD E ln ta (fun _ => 0) (FW F X.2.2.2) X.2.2.2 := by rw [hE]; exact hL
  have fin : ∀ (v : Int32) (L2 : sH), (e_fa E = 0 → v = X.1 ∧ L2 = tw 4 x6 x2 x3 x4 x5 0 (e_fa E) y9 E 0 ta (fun _ => 0) (FW F X.2.2.2) X.2.2.2) → (¬ e_fa E = 0 → v = -10 - e_pl E ∧ L2 = tw x6 4 x2 x3 x4 x5 y7 (e_fa E) y9 E 0 ta (fun _ => 0) (FW F X.2.2.2) X.2.2.2) → s_PP (some .int) false c_X5_text.2.2.2.2.2 [.ref 0] (tw x6 4 x2 x3 x4 x5 y7 y8 y9 e ln ta s F d) (some (.int v)) L2 := by
    intro v L2 h1 h2
    refine ⟨rfl, ⟨X, E, hX, hE, fun h => ?_, fun h => ?_⟩, fun h => by cases h⟩
    · obtain ⟨a, b⟩ := h1 h
      rw [a, b]
      exact ⟨rfl, rfl⟩
    · obtain ⟨a, b⟩ := h2 h
      rw [a, b]
      exact ⟨rfl, rfl⟩
  refine And.intro (fun q => ?_) (fun q => ?_)
  · have q : e_fa E = 0 := q
    exact fin X.1 _ (fun _ => ⟨rfl, rfl⟩) (fun z => absurd q z)
  · have q : ¬ e_fa E = 0 := q
    exact fin (-10 - e_pl E) _ (fun z => absurd z q) (fun _ => ⟨rfl, rfl⟩)

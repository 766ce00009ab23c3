/-! ===== Reader: runs of bytes, blame, the next token ===== -/
/-- fault, its place, kind, first, behind, value, whether depth was told, ones named, wishes named -/
abbrev eT : Type := Int32 × Int32 × Int32 × Int32 × Int32 × Int32 × Int32 × Int32 × Int32
abbrev e_fa (e : eT) : Int32 := e.1
abbrev e_pl (e : eT) : Int32 := e.2.1
abbrev e_ki (e : eT) : Int32 := e.2.2.1
abbrev e_fi (e : eT) : Int32 := e.2.2.2.1
abbrev e_be (e : eT) : Int32 := e.2.2.2.2.1
abbrev e_va (e : eT) : Int32 := e.2.2.2.2.2.1
abbrev e_dt (e : eT) : Int32 := e.2.2.2.2.2.2.1
abbrev e_on (e : eT) : Int32 := e.2.2.2.2.2.2.2.1
abbrev e_wi (e : eT) : Int32 := e.2.2.2.2.2.2.2.2
def rdO (xb xt : Nat) (e : eT) : sC := .inr (.inr (1, [.ref xb, .int (e_fa e), .int (e_pl e), .ref xt, .int (e_ki e), .int (e_fi e), .int (e_be e), .int (e_va e), .int (e_dt e), .int (e_on e), .int (e_wi e)]))
def rd3 (xb : Nat) (e : eT) (ln : Int32) (ta : Nat → Int32) : sH := [rdO xb 1 e, .inr (.inr (4, [.ref 2, .int ln])), .inl (1, 160, ta)]
def rd3fp (vs : sS) (L : sH) : List Nat := match vs with
  | .ref r :: _ => [r, s_rf L r 3, s_rf L (s_rf L r 3) 0]
  | _ => []
def rE (L : sH) : eT := (oI L 0 1, oI L 0 2, oI L 0 4, oI L 0 5, oI L 0 6, oI L 0 7, oI L 0 8, oI L 0 9, oI L 0 10)
def rd3L (L : sH) (e : eT) : sH := rd3 (s_rf L 0 0) e (oI L 1 1) (bF L 2)
theorem rE_3 (xb : Nat) (e : eT) (ln : Int32) (ta : Nat → Int32) : rE (rd3 xb e ln ta) = e := rfl
theorem rL_3 (xb : Nat) (e e2 : eT) (ln : Int32) (ta : Nat → Int32) : rd3L (rd3 xb e ln ta) e2 = rd3 xb e2 ln ta := rfl
theorem rB_3 (xb : Nat) (e : eT) (ln : Int32) (ta : Nat → Int32) : bF (rd3 xb e ln ta) 2 = ta := rfl
theorem rO_3 (xb : Nat) (e : eT) (ln : Int32) (ta : Nat → Int32) : oI (rd3 xb e ln ta) 1 1 = ln := rfl
def c_X1_runEnd : sCtr := ((yX1_runEnd, cX1_runEnd, 5, (some .int)), (2, 3, 0, 0), true,
  rd3fp,
  fun vs L => ∃ (xb : Nat) (e : eT) (ln : Int32) (ta : Nat → Int32) (x lo hi : Int32) (p t : Nat), vs = [.ref 0, .int x, .int lo, .int hi] ∧ L = rd3 xb e ln ta ∧ ln = nI t ∧ t ≤ 160 ∧ x = nI p ∧ p ≤ t ∧ 0 < lo,
  fun vs L r _ => r = some (.int (nI (p_ru (bF L 2) (oI L 1 1) (vI vs 2) (vI vs 3) 161 (vI vs 1).toNatClampNeg))))
theorem sta_X1_runEnd : s_Sta c_X1_runEnd := ⟨⟨by decide +kernel, by decide +kernel, by decide +kernel⟩, List.mem_of_getElem? (i := 356) (by decide +kernel), List.mem_of_getElem? (i := 66) (by decide +kernel), ⟨List.mem_of_getElem? (i := 355) (by decide +kernel), List.mem_of_getElem? (i := 1) (by decide +kernel), Or.inl ⟨_, rfl, rfl⟩⟩⟩

def k_X1_runEnd : List sBk := [
  (0, false, [true, true, true, true, false], [o0 0 (.iload_n 1), o0 1 (.istore 4), oN 3 .nop [1]]),
  (3, true, [true, false, true, true, true], [o0 3 (.iload 4), o0 5 (.aload_n 0), oN 6 (.getfield 18) [1, 3, 218], oN 9 (.getfield 46) [4, 1, 96], oN 12 (.if_icmp .ge 37) [2], o0 15 (.aload_n 0), oN 16 (.getfield 18) [1, 3, 218], oN 19 (.getfield 80) [4, 0, 94], o0 22 (.iload 4), o0 24 .baload, o0 25 (.iload_n 2), oN 26 (.if_icmp .lt 23) [2], o0 29 (.aload_n 0), oN 30 (.getfield 18) [1, 3, 218], oN 33 (.getfield 80) [4, 0, 94], o0 36 (.iload 4), o0 38 .baload, o0 39 (.iload_n 3), oN 40 (.if_icmp .gt 9) [2], oK 43 (.iinc 4 1) (.int 1), oN 46 (.goto (-43)) [1]]),
  (49, false, [false, false, false, false, true], [o0 49 (.iload 4), o0 51 .ireturn])]
set_option maxRecDepth 100000 in
theorem ck_X1_runEnd : s_ck RX1 cX1_runEnd 5 0 0 k_X1_runEnd = true := by decide +kernel

set_option maxRecDepth 100000 in
set_option maxHeartbeats 4000000 in
theorem ok_X1_runEnd : s_Ok c_X1_runEnd := by
  refine s_ok_of k_X1_runEnd (by decide +kernel) sta_X1_runEnd ck_X1_runEnd trivial ?_
  rintro vs L ⟨xb, e, ln, ta, x, lo, hi, p, t, rfl, rfl, hln, ht2, hx, hpt, hlo⟩
  refine ⟨rfl, fun G hG => ?_⟩
  obtain ⟨R, hR⟩ : ∃ R, R = p_ru ta ln lo hi 161 p := ⟨_, rfl⟩
  have fin : ∀ v : Int32, v = nI R → s_PP (some .int) true c_X1_runEnd.2.2.2.2.2 [.ref 0, .int x, .int lo, .int hi] (rd3 xb e ln ta) (some (.int v)) (rd3 xb e ln ta) := fun v hv => ⟨rfl, by
    show some (Value.int v) = some (Value.int (nI (p_ru ta ln lo hi 161 x.toNatClampNeg)))
    rw [hx, nI_clamp (by omega), ← hR, hv], fun _ => rfl⟩
  have loop : ∀ (f q : Nat) (y : Int32), q ≤ t → t < f + q → y = nI q → R = p_ru ta ln lo hi f q → G 1 [some (.ref 0), none, some (.int lo), some (.int hi), some (.int y)] [] (rd3 xb e ln ta) := by
    intro f
    induction f with
    | zero => intro q y hq hf; omega
    | succ f ih =>
      intro q y hq hf hy hr
      rw [p_ru] at hr
      refine hG 1 _ _ _ (And.intro (fun c => ?_) (fun c => ?_))
      rotate_left
      · have c : ¬ y < ln := c
        have hqt : t ≤ q := by rw [hy, hln, nI_ltI (by omega) (by omega)] at c; omega
        rw [hln, p_mlk_o ht2 hqt (by omega), p_rg_m1 hlo, if_pos rfl] at hr
        exact fin y (by rw [hr, hy])
      have c : y < ln := c
      have hqt : q < t := by rw [hy, hln, nI_ltI (by omega) (by omega)] at c; exact c
      have hin : vp_in y 160 := by rw [hy]; exact vp_in_nI (by omega) (by omega)
      have hmk : p_mlk ta ln (nI q) = ta y.toNatClampNeg := by rw [p_mlk, ← hy, if_pos c]
      rw [hmk] at hr
      obtain ⟨ch, hch⟩ : ∃ ch, ch = ta y.toNatClampNeg := ⟨_, rfl⟩
      rw [← hch] at hr
      refine And.intro hin (And.intro (fun c2 => ?_) (fun c2 => ?_))
      · have c2 : ch < lo := by rw [hch]; exact c2
        rw [if_pos (show p_rg lo hi ch = 0 by rw [p_rg, if_pos c2])] at hr
        exact fin y (by rw [hr, hy])
      have c2 : ¬ ch < lo := by rw [hch]; exact c2
      refine And.intro hin (And.intro (fun c3 => ?_) (fun c3 => ?_))
      · have c3 : hi < ch := by rw [hch]; exact c3
        rw [if_pos (show p_rg lo hi ch = 0 by rw [p_rg, if_neg c2, if_pos c3])] at hr
        exact fin y (by rw [hr, hy])
      have c3 : ¬ hi < ch := by rw [hch]; exact c3
      rw [if_neg (show ¬ p_rg lo hi ch = 0 by rw [p_rg, if_neg c2, if_neg c3]; decide)] at hr
      exact ih (q + 1) _ (by omega) (by omega) (by rw [hy, nI_1]) hr
  exact hG 0 _ _ _ (loop 161 p x hpt (by omega) hx hR)
def k_bl (e : eT) (w pl : Int32) : eT := (w, pl, e.2.2)
def c_X1_blame : sCtr := ((yX1_blame, cX1_blame, 3, (some .boolean)), (2, 2, 0, 0), false,
  fun vs _ => match vs with
    | .ref r :: _ => [r]
    | _ => [],
  fun vs L => ∃ (xb xt : Nat) (e : eT) (w pl : Int32), vs = [.ref 0, .int w, .int pl] ∧ L = [rdO xb xt e],
  fun vs L r L' => r = some (.int 0) ∧ L' = [rdO (s_rf L 0 0) (s_rf L 0 3) (k_bl (rE L) (vI vs 1) (vI vs 2))])
theorem sta_X1_blame : s_Sta c_X1_blame := ⟨⟨by decide +kernel, by decide +kernel, by decide +kernel⟩, List.mem_of_getElem? (i := 360) (by decide +kernel), List.mem_of_getElem? (i := 66) (by decide +kernel), ⟨List.mem_of_getElem? (i := 359) (by decide +kernel), List.mem_of_getElem? (i := 2) (by decide +kernel), Or.inl ⟨_, rfl, rfl⟩⟩⟩

def k_X1_blame : List sBk := [
  (0, false, [true, true, true], [o0 0 (.aload_n 0), o0 1 (.iload_n 1), oN 2 (.putfield 25) [1, 1, 214], o0 5 (.aload_n 0), o0 6 (.iload_n 2), oN 7 (.putfield 70) [1, 2, 216], oK 10 (.iconst 0) (.int 0), o0 11 .ireturn])]
set_option maxRecDepth 100000 in
theorem ck_X1_blame : s_ck RX1 cX1_blame 3 0 0 k_X1_blame = true := by decide +kernel

set_option maxRecDepth 100000 in
set_option maxHeartbeats 4000000 in
theorem ok_X1_blame : s_Ok c_X1_blame := by
  refine s_ok_of k_X1_blame (by decide +kernel) sta_X1_blame ck_X1_blame trivial ?_
  rintro vs L ⟨xb, xt, e, w, pl, rfl, rfl⟩
  refine ⟨rfl, fun G hG => ?_⟩
  exact hG 0 _ _ _ (And.intro (Or.inl rfl) ⟨rfl, ⟨rfl, rfl⟩, fun h => by cases h⟩)

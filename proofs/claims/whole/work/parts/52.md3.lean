/-! ===== WishClerkModel: what is changed ===== -/
def r_bitv (y v i : Int32) : Int32 := if p_in y i = 0 then -1 else (v >>> (i &&& 31)) &&& 1
def q_mbit (K : Nat) (y : Int32) (st : Nat → Int32) (i z : Int32) : Nat → Int32 := fun j => if p_in y i = 0 then st j else upd st K (p_wb (st K) i z) j
/-- the model with another st -/
def mdU (L : sH) (f : Nat → Int32) : sH := mdW (oI L 0) (va_up (bF L) 1 f)
def c_X6_becomesBit : sCtr := ((yX6_becomesBit, cX6_becomesBit, 5, (some .int)), (7, 3, 0, 0), false,
  mdfp,
  fun vs L => ∃ (s : Nat → Int32) (A : Nat → Nat → Int32) (k i z : Int32) (K : Nat), vs = [.ref 0, .int k, .int i, .int z] ∧ L = mdW s A ∧ k = nI K ∧ K ≤ 30,
  fun vs L r L' => r = some (.int ((bF L 1 (vI vs 1).toNatClampNeg >>> (vI vs 2 &&& 31)) &&& 1)) ∧ L' = mdU L (upd (bF L 1) (vI vs 1).toNatClampNeg (p_wb (bF L 1 (vI vs 1).toNatClampNeg) (vI vs 2) (vI vs 3))))
theorem sta_X6_becomesBit : s_Sta c_X6_becomesBit := ⟨⟨by decide +kernel, by decide +kernel, by decide +kernel⟩, List.mem_of_getElem? (i := 1042) (by decide +kernel), List.mem_of_getElem? (i := 70) (by decide +kernel), ⟨List.mem_of_getElem? (i := 1041) (by decide +kernel), List.mem_of_getElem? (i := 49) (by decide +kernel), Or.inl ⟨_, rfl, rfl⟩⟩⟩

def k_X6_becomesBit : List sBk := [
  (0, false, [true, true, true, true, false], [o0 0 (.aload_n 0), oN 1 (.getfield 7) [6, 0, 822], o0 4 (.iload_n 1), o0 5 .iaload, o0 6 (.iload_n 2), o0 7 .ishr, oK 8 (.iconst 1) (.int 1), o0 9 .iand, o0 10 (.istore 4), o0 12 (.aload_n 0), oN 13 (.getfield 7) [6, 0, 822], o0 16 (.iload_n 1), o0 17 (.iload_n 3), oN 18 (.ifCond .eq 16) [1], o0 21 (.aload_n 0), oN 22 (.getfield 7) [6, 0, 822], o0 25 (.iload_n 1), o0 26 .iaload, oK 27 (.iconst 1) (.int 1), o0 28 (.iload_n 2), o0 29 .ishl, o0 30 .ior, oN 31 (.goto 15) [2]]),
  (34, false, [true, true, true, false, true], [o0 34 (.aload_n 0), oN 35 (.getfield 7) [6, 0, 822], o0 38 (.iload_n 1), o0 39 .iaload, oK 40 (.iconst 1) (.int 1), o0 41 (.iload_n 2), o0 42 .ishl, oK 43 (.iconst (-1)) (.int (-1)), o0 44 .ixor, o0 45 .iand, oN 46 .nop [2]]),
  (46, false, [false, false, false, false, true], [o0 46 .iastore, o0 47 (.iload 4), o0 49 .ireturn])]
set_option maxRecDepth 100000 in
theorem ck_X6_becomesBit : s_ck RX6 cX6_becomesBit 5 0 0 k_X6_becomesBit = true := by decide +kernel

set_option maxRecDepth 100000 in
set_option maxHeartbeats 1000000 in
theorem ok_X6_becomesBit : s_Ok c_X6_becomesBit := by
  refine s_ok_of k_X6_becomesBit (by decide +kernel) sta_X6_becomesBit ck_X6_becomesBit trivial ?_
  rintro vs L ⟨s, A, k, i, z, K, rfl, rfl, hk, hK⟩
  refine ⟨rfl, fun G hG => ?_⟩
  have hin : vp_in k 159 := by rw [hk]; exact vp_in_nI (by omega) (by omega)
  have fin : ∀ v : Int32, v = p_wb (A 1 k.toNatClampNeg) i z → s_PP (some .int) false c_X6_becomesBit.2.2.2.2.2 [.ref 0, .int k, .int i, .int z] (mdW s A) (some (.int ((A 1 k.toNatClampNeg >>> (i &&& 31)) &&& 1))) (mdW s (va_up A 1 (upd (A 1) k.toNatClampNeg v))) := fun v hv => ⟨rfl, ⟨rfl, by rw [hv]; rfl⟩, fun h => by cases h⟩
  refine hG 0 _ _ _ (And.intro hin (And.intro (fun h => ?_) (fun h => ?_)))
  · exact And.intro hin (And.intro hin (fin _ (by rw [p_wb, if_pos h])))
  · exact And.intro hin (And.intro hin (fin _ (by rw [p_wb, if_neg h])))
def c_X6_becomes : sCtr := ((yX6_becomes, cX6_becomes, 4, (some .int)), (7, 2, 0, 0), false,
  mdfp,
  fun vs L => ∃ (s : Nat → Int32) (A : Nat → Nat → Int32) (k v : Int32) (K : Nat), vs = [.ref 0, .int k, .int v] ∧ L = mdW s A ∧ k = nI K ∧ K ≤ 52,
  fun vs L r L' => r = some (.int (bF L 1 (vI vs 1).toNatClampNeg)) ∧ L' = mdU L (upd (bF L 1) (vI vs 1).toNatClampNeg (vI vs 2)))
theorem sta_X6_becomes : s_Sta c_X6_becomes := ⟨⟨by decide +kernel, by decide +kernel, by decide +kernel⟩, List.mem_of_getElem? (i := 1059) (by decide +kernel), List.mem_of_getElem? (i := 70) (by decide +kernel), ⟨List.mem_of_getElem? (i := 1058) (by decide +kernel), List.mem_of_getElem? (i := 50) (by decide +kernel), Or.inl ⟨_, rfl, rfl⟩⟩⟩

def k_X6_becomes : List sBk := [
  (0, false, [true, true, true, false], [o0 0 (.aload_n 0), oN 1 (.getfield 7) [6, 0, 822], o0 4 (.iload_n 1), o0 5 .iaload, o0 6 (.istore_n 3), o0 7 (.aload_n 0), oN 8 (.getfield 7) [6, 0, 822], o0 11 (.iload_n 1), o0 12 (.iload_n 2), o0 13 .iastore, o0 14 (.iload_n 3), o0 15 .ireturn])]
set_option maxRecDepth 100000 in
theorem ck_X6_becomes : s_ck RX6 cX6_becomes 4 0 0 k_X6_becomes = true := by decide +kernel

set_option maxRecDepth 100000 in
set_option maxHeartbeats 1000000 in
theorem ok_X6_becomes : s_Ok c_X6_becomes := by
  refine s_ok_of k_X6_becomes (by decide +kernel) sta_X6_becomes ck_X6_becomes trivial ?_
  rintro vs L ⟨s, A, k, v, K, rfl, rfl, hk, hK⟩
  refine ⟨rfl, fun G hG => ?_⟩
  have hin : vp_in k 159 := by rw [hk]; exact vp_in_nI (by omega) (by omega)
  exact hG 0 _ _ _ (And.intro hin (And.intro hin ⟨rfl, ⟨rfl, rfl⟩, fun h => by cases h⟩))
theorem va_up1 (A : Nat → Nat → Int32) : va_up A 1 (A 1) = A := by
  funext j
  unfold va_up
  by_cases h : j = 1
  · rw [if_pos h, h]
  · rw [if_neg h]
def c_X6_live : sCtr := ((yX6_live, cX6_live, 3, (some .int)), (7, 2, 2, 46), false,
  mdfp,
  fun vs L => ∃ (s : Nat → Int32) (A : Nat → Nat → Int32) (p z : Int32) (m : Nat), vs = [.ref 0, .int p, .int z] ∧ L = mdW s A ∧ s 2 = nI m ∧ m ≤ 8,
  fun vs L r L' => r = some (.int (r_bitv (oI L 0 2) (bF L 1 0) (vI vs 1))) ∧ L' = mdU L (q_mbit 0 (oI L 0 2) (bF L 1) (vI vs 1) (vI vs 2)))
theorem sta_X6_live : s_Sta c_X6_live := ⟨⟨by decide +kernel, by decide +kernel, by decide +kernel⟩, List.mem_of_getElem? (i := 1034) (by decide +kernel), List.mem_of_getElem? (i := 70) (by decide +kernel), ⟨List.mem_of_getElem? (i := 1032) (by decide +kernel), List.mem_of_getElem? (i := 1033) (by decide +kernel), Or.inl ⟨_, rfl, rfl⟩⟩⟩

def k_X6_live : List sBk := [
  (0, false, [true, true, true], [o0 0 (.aload_n 0), o0 1 (.iload_n 1), oC 2 (.invokevirtual 192) [1035] c_X6_isOne, oN 5 (.ifCond .eq 13) [1], o0 8 (.aload_n 0), oK 9 (.iconst 0) (.int 0), o0 10 (.iload_n 1), o0 11 (.iload_n 2), oC 12 (.invokevirtual 195) [1039] c_X6_becomesBit, oN 15 (.goto 4) [2]]),
  (18, false, [false, false, false], [oK 18 (.iconst (-1)) (.int (-1)), oN 19 .nop [2]]),
  (19, false, [false, false, false], [o0 19 .ireturn])]
set_option maxRecDepth 100000 in
theorem ck_X6_live : s_ck RX6 cX6_live 3 2 46 k_X6_live = true := by decide +kernel

set_option maxRecDepth 100000 in
set_option maxHeartbeats 1000000 in
theorem ok_X6_live : s_Ok c_X6_live := by
  refine s_ok_of k_X6_live (by decide +kernel) sta_X6_live ck_X6_live (And.intro ok_X6_isOne (And.intro ok_X6_becomesBit trivial)) ?_
  rintro vs L ⟨s, A, p, z, m, rfl, rfl, hm, hm8⟩
  refine ⟨rfl, fun G hG => ?_⟩
  have fin : ∀ (a : Int32) (L2 : sH), a = r_bitv (s 2) (A 1 0) p → L2 = mdW s (va_up A 1 (q_mbit 0 (s 2) (A 1) p z)) → s_PP (some .int) false c_X6_live.2.2.2.2.2 [.ref 0, .int p, .int z] (mdW s A) (some (.int a)) L2 := fun a L2 ha hL => ⟨rfl, ⟨by rw [ha]; rfl, by rw [hL]; rfl⟩, fun h => by cases h⟩
  refine hG 0 _ _ _ (And.intro ⟨s, A, p, m, rfl, rfl, hm, hm8⟩ ?_)
  intro r hr
  obtain rfl : r = some (.int (p_in (s 2) p)) := hr
  refine And.intro (fun h => ?_) (fun h => ?_)
  · exact fin _ _ (by rw [r_bitv, if_pos h]) (by rw [show q_mbit 0 (s 2) (A 1) p z = A 1 by funext j; rw [q_mbit, if_pos h], va_up1])
  · refine And.intro ⟨s, A, _, _, _, 0, rfl, rfl, rfl, by omega⟩ ?_
    rintro r L' ⟨hr, hL⟩
    obtain rfl : r = some (.int ((A 1 0 >>> (p &&& 31)) &&& 1)) := hr
    obtain rfl : L' = mdW s (va_up A 1 (upd (A 1) 0 (p_wb (A 1 0) p z))) := hL
    exact fin _ _ (by rw [r_bitv, if_neg h]) (by rw [show q_mbit 0 (s 2) (A 1) p z = upd (A 1) 0 (p_wb (A 1 0) p z) by funext j; rw [q_mbit, if_neg h]]; rfl)
def c_X6_bar : sCtr := ((yX6_bar, cX6_bar, 3, (some .int)), (7, 2, 2, 46), false,
  mdfp,
  fun vs L => ∃ (s : Nat → Int32) (A : Nat → Nat → Int32) (p z : Int32) (m : Nat), vs = [.ref 0, .int p, .int z] ∧ L = mdW s A ∧ s 2 = nI m ∧ m ≤ 8,
  fun vs L r L' => r = some (.int (r_bitv (oI L 0 2) (bF L 1 1) (vI vs 1))) ∧ L' = mdU L (q_mbit 1 (oI L 0 2) (bF L 1) (vI vs 1) (vI vs 2)))
theorem sta_X6_bar : s_Sta c_X6_bar := ⟨⟨by decide +kernel, by decide +kernel, by decide +kernel⟩, List.mem_of_getElem? (i := 1046) (by decide +kernel), List.mem_of_getElem? (i := 70) (by decide +kernel), ⟨List.mem_of_getElem? (i := 1044) (by decide +kernel), List.mem_of_getElem? (i := 1045) (by decide +kernel), Or.inl ⟨_, rfl, rfl⟩⟩⟩

def k_X6_bar : List sBk := [
  (0, false, [true, true, true], [o0 0 (.aload_n 0), o0 1 (.iload_n 1), oC 2 (.invokevirtual 192) [1035] c_X6_isOne, oN 5 (.ifCond .eq 13) [1], o0 8 (.aload_n 0), oK 9 (.iconst 1) (.int 1), o0 10 (.iload_n 1), o0 11 (.iload_n 2), oC 12 (.invokevirtual 195) [1039] c_X6_becomesBit, oN 15 (.goto 4) [2]]),
  (18, false, [false, false, false], [oK 18 (.iconst (-1)) (.int (-1)), oN 19 .nop [2]]),
  (19, false, [false, false, false], [o0 19 .ireturn])]
set_option maxRecDepth 100000 in
theorem ck_X6_bar : s_ck RX6 cX6_bar 3 2 46 k_X6_bar = true := by decide +kernel

set_option maxRecDepth 100000 in
set_option maxHeartbeats 1000000 in
theorem ok_X6_bar : s_Ok c_X6_bar := by
  refine s_ok_of k_X6_bar (by decide +kernel) sta_X6_bar ck_X6_bar (And.intro ok_X6_isOne (And.intro ok_X6_becomesBit trivial)) ?_
  rintro vs L ⟨s, A, p, z, m, rfl, rfl, hm, hm8⟩
  refine ⟨rfl, fun G hG => ?_⟩
  have fin : ∀ (a : Int32) (L2 : sH), a = r_bitv (s 2) (A 1 1) p → L2 = mdW s (va_up A 1 (q_mbit 1 (s 2) (A 1) p z)) → s_PP (some .int) false c_X6_bar.2.2.2.2.2 [.ref 0, .int p, .int z] (mdW s A) (some (.int a)) L2 := fun a L2 ha hL => ⟨rfl, ⟨by rw [ha]; rfl, by rw [hL]; rfl⟩, fun h => by cases h⟩
  refine hG 0 _ _ _ (And.intro ⟨s, A, p, m, rfl, rfl, hm, hm8⟩ ?_)
  intro r hr
  obtain rfl : r = some (.int (p_in (s 2) p)) := hr
  refine And.intro (fun h => ?_) (fun h => ?_)
  · exact fin _ _ (by rw [r_bitv, if_pos h]) (by rw [show q_mbit 1 (s 2) (A 1) p z = A 1 by funext j; rw [q_mbit, if_pos h], va_up1])
  · refine And.intro ⟨s, A, _, _, _, 1, rfl, rfl, rfl, by omega⟩ ?_
    rintro r L' ⟨hr, hL⟩
    obtain rfl : r = some (.int ((A 1 1 >>> (p &&& 31)) &&& 1)) := hr
    obtain rfl : L' = mdW s (va_up A 1 (upd (A 1) 1 (p_wb (A 1 1) p z))) := hL
    exact fin _ _ (by rw [r_bitv, if_neg h]) (by rw [show q_mbit 1 (s 2) (A 1) p z = upd (A 1) 1 (p_wb (A 1 1) p z) by funext j; rw [q_mbit, if_neg h]]; rfl)
def c_X6_list : sCtr := ((yX6_list, cX6_list, 3, (some .int)), (7, 2, 2, 46), false,
  mdfp,
  fun vs L => ∃ (s : Nat → Int32) (A : Nat → Nat → Int32) (p z : Int32) (m : Nat), vs = [.ref 0, .int p, .int z] ∧ L = mdW s A ∧ s 3 = nI m ∧ m ≤ 8,
  fun vs L r L' => r = some (.int (r_bitv (oI L 0 3) (bF L 1 27) (vI vs 1))) ∧ L' = mdU L (q_mbit 27 (oI L 0 3) (bF L 1) (vI vs 1) (vI vs 2)))
theorem sta_X6_list : s_Sta c_X6_list := ⟨⟨by decide +kernel, by decide +kernel, by decide +kernel⟩, List.mem_of_getElem? (i := 1050) (by decide +kernel), List.mem_of_getElem? (i := 70) (by decide +kernel), ⟨List.mem_of_getElem? (i := 1048) (by decide +kernel), List.mem_of_getElem? (i := 1049) (by decide +kernel), Or.inl ⟨_, rfl, rfl⟩⟩⟩

def k_X6_list : List sBk := [
  (0, false, [true, true, true], [o0 0 (.aload_n 0), o0 1 (.iload_n 1), oC 2 (.invokevirtual 185) [1015] c_X6_isWish, oN 5 (.ifCond .eq 14) [1], o0 8 (.aload_n 0), oK 9 (.bipush 27) (.int 27), o0 11 (.iload_n 1), o0 12 (.iload_n 2), oC 13 (.invokevirtual 195) [1039] c_X6_becomesBit, oN 16 (.goto 4) [2]]),
  (19, false, [false, false, false], [oK 19 (.iconst (-1)) (.int (-1)), oN 20 .nop [2]]),
  (20, false, [false, false, false], [o0 20 .ireturn])]
set_option maxRecDepth 100000 in
theorem ck_X6_list : s_ck RX6 cX6_list 3 2 46 k_X6_list = true := by decide +kernel

set_option maxRecDepth 100000 in
set_option maxHeartbeats 1000000 in
theorem ok_X6_list : s_Ok c_X6_list := by
  refine s_ok_of k_X6_list (by decide +kernel) sta_X6_list ck_X6_list (And.intro ok_X6_isWish (And.intro ok_X6_becomesBit trivial)) ?_
  rintro vs L ⟨s, A, p, z, m, rfl, rfl, hm, hm8⟩
  refine ⟨rfl, fun G hG => ?_⟩
  have fin : ∀ (a : Int32) (L2 : sH), a = r_bitv (s 3) (A 1 27) p → L2 = mdW s (va_up A 1 (q_mbit 27 (s 3) (A 1) p z)) → s_PP (some .int) false c_X6_list.2.2.2.2.2 [.ref 0, .int p, .int z] (mdW s A) (some (.int a)) L2 := fun a L2 ha hL => ⟨rfl, ⟨by rw [ha]; rfl, by rw [hL]; rfl⟩, fun h => by cases h⟩
  refine hG 0 _ _ _ (And.intro ⟨s, A, p, m, rfl, rfl, hm, hm8⟩ ?_)
  intro r hr
  obtain rfl : r = some (.int (p_in (s 3) p)) := hr
  refine And.intro (fun h => ?_) (fun h => ?_)
  · exact fin _ _ (by rw [r_bitv, if_pos h]) (by rw [show q_mbit 27 (s 3) (A 1) p z = A 1 by funext j; rw [q_mbit, if_pos h], va_up1])
  · refine And.intro ⟨s, A, _, _, _, 27, rfl, rfl, rfl, by omega⟩ ?_
    rintro r L' ⟨hr, hL⟩
    obtain rfl : r = some (.int ((A 1 27 >>> (p &&& 31)) &&& 1)) := hr
    obtain rfl : L' = mdW s (va_up A 1 (upd (A 1) 27 (p_wb (A 1 27) p z))) := hL
    exact fin _ _ (by rw [r_bitv, if_neg h]) (by rw [show q_mbit 27 (s 3) (A 1) p z = upd (A 1) 27 (p_wb (A 1 27) p z) by funext j; rw [q_mbit, if_neg h]]; rfl)
def r_cutv (y v i : Int32) : Int32 := if i < 0 then -1 else if y < i then -1 else v
def q_mcut (K : Nat) (y : Int32) (st : Nat → Int32) (i : Int32) : Nat → Int32 := fun j => if i < 0 then st j else if y < i then st j else upd st K i j
theorem p_rng (i y : Int32) : (p_in64 i.toInt64 0 y.toInt64 = 0 ↔ (i < 0 ∨ y < i)) := by
  have e := p_in64_i i 0 y
  rw [show (0 : Int32).toInt64 = 0 from rfl] at e
  rw [e]
  by_cases h : i < 0
  · rw [if_pos h]; exact ⟨fun _ => Or.inl h, fun _ => rfl⟩
  · rw [if_neg h]
    by_cases h2 : y < i
    · rw [if_pos h2]; exact ⟨fun _ => Or.inr h2, fun _ => rfl⟩
    · rw [if_neg h2]; exact ⟨fun q => absurd q (by decide), fun q => q.elim (fun z => absurd z h) (fun z => absurd z h2)⟩
theorem r_cut_no {y v i : Int32} (h : i < 0 ∨ y < i) : r_cutv y v i = -1 := by
  unfold r_cutv
  by_cases h1 : i < 0
  · rw [if_pos h1]
  · rw [if_neg h1, if_pos (h.resolve_left h1)]
theorem r_cut_ye {y v i : Int32} (h : ¬ (i < 0 ∨ y < i)) : r_cutv y v i = v := by
  unfold r_cutv
  rw [if_neg (fun q => h (Or.inl q)), if_neg (fun q => h (Or.inr q))]
theorem q_mcut_no {K : Nat} {y i : Int32} {st : Nat → Int32} (h : i < 0 ∨ y < i) : q_mcut K y st i = st := by
  funext j
  unfold q_mcut
  by_cases h1 : i < 0
  · rw [if_pos h1]
  · rw [if_neg h1, if_pos (h.resolve_left h1)]
theorem q_mcut_ye {K : Nat} {y i : Int32} {st : Nat → Int32} (h : ¬ (i < 0 ∨ y < i)) : q_mcut K y st i = upd st K i := by
  funext j
  unfold q_mcut
  rw [if_neg (fun q => h (Or.inl q)), if_neg (fun q => h (Or.inr q))]
def c_X6_depth : sCtr := ((yX6_depth, cX6_depth, 2, (some .int)), (7, 1, 1, 25), false,
  mdfp,
  fun vs L => ∃ (s : Nat → Int32) (A : Nat → Nat → Int32) (i : Int32), vs = [.ref 0, .int i] ∧ L = mdW s A,
  fun vs L r L' => r = some (.int (r_cutv (8) (bF L 1 28) (vI vs 1))) ∧ L' = mdU L (q_mcut 28 (8) (bF L 1) (vI vs 1)))
theorem sta_X6_depth : s_Sta c_X6_depth := ⟨⟨by decide +kernel, by decide +kernel, by decide +kernel⟩, List.mem_of_getElem? (i := 1054) (by decide +kernel), List.mem_of_getElem? (i := 70) (by decide +kernel), ⟨List.mem_of_getElem? (i := 1052) (by decide +kernel), List.mem_of_getElem? (i := 1053) (by decide +kernel), Or.inl ⟨_, rfl, rfl⟩⟩⟩

def k_X6_depth : List sBk := [
  (0, false, [true, true], [o0 0 (.iload_n 1), o0 1 .i2l, oK 2 (.lconst 0) (.long 0), oV 3 (.ldc2_w 199) [1055] (.long 8), oC 6 (.invokestatic 90) [921] c_X6_in, oN 9 (.ifCond .eq 13) [1], o0 12 (.aload_n 0), oK 13 (.bipush 28) (.int 28), o0 15 (.iload_n 1), oC 16 (.invokevirtual 201) [1056] c_X6_becomes, oN 19 (.goto 4) [2]]),
  (22, false, [false, false], [oK 22 (.iconst (-1)) (.int (-1)), oN 23 .nop [2]]),
  (23, false, [false, false], [o0 23 .ireturn])]
set_option maxRecDepth 100000 in
theorem ck_X6_depth : s_ck RX6 cX6_depth 2 1 25 k_X6_depth = true := by decide +kernel

set_option maxRecDepth 100000 in
set_option maxHeartbeats 1000000 in
theorem ok_X6_depth : s_Ok c_X6_depth := by
  refine s_ok_of k_X6_depth (by decide +kernel) sta_X6_depth ck_X6_depth (And.intro ok_X6_in (And.intro ok_X6_becomes trivial)) ?_
  rintro vs L ⟨s, A, i, rfl, rfl⟩
  refine ⟨rfl, fun G hG => ?_⟩
  have fin : ∀ (a : Int32) (L2 : sH), a = r_cutv (8) (A 1 28) i → L2 = mdW s (va_up A 1 (q_mcut 28 (8) (A 1) i)) → s_PP (some .int) false c_X6_depth.2.2.2.2.2 [.ref 0, .int i] (mdW s A) (some (.int a)) L2 := fun a L2 ha hL => ⟨rfl, ⟨by rw [ha]; rfl, by rw [hL]; rfl⟩, fun h => by cases h⟩
  refine hG 0 _ _ _ (And.intro ⟨_, _, _, rfl⟩ ?_)
  intro r hr
  obtain ⟨b, hb⟩ : ∃ b, b = p_in64 i.toInt64 0 (8 : Int32).toInt64 := ⟨_, rfl⟩
  obtain rfl : r = some (.int b) := by rw [hb]; exact hr
  refine And.intro (fun h => ?_) (fun h => ?_)
  · have h : i < 0 ∨ 8 < i := (p_rng _ _).mp (hb.symm.trans h)
    exact fin _ _ (by rw [r_cut_no h]) (by rw [q_mcut_no h, va_up1])
  · have h : ¬ (i < 0 ∨ 8 < i) := fun q => h (hb.trans ((p_rng _ _).mpr q))
    refine And.intro ⟨s, A, _, _, 28, rfl, rfl, rfl, by omega⟩ ?_
    rintro r L' ⟨hr, hL⟩
    obtain rfl : r = some (.int (A 1 28)) := hr
    obtain rfl : L' = mdW s (va_up A 1 (upd (A 1) 28 i)) := hL
    exact fin _ _ (by rw [r_cut_ye h]) (by rw [q_mcut_ye h]; rfl)
def c_X6_cut : sCtr := ((yX6_cut, cX6_cut, 2, (some .int)), (7, 1, 1, 25), false,
  mdfp,
  fun vs L => ∃ (s : Nat → Int32) (A : Nat → Nat → Int32) (i : Int32), vs = [.ref 0, .int i] ∧ L = mdW s A,
  fun vs L r L' => r = some (.int (r_cutv (bF L 1 29) (bF L 1 29) (vI vs 1))) ∧ L' = mdU L (q_mcut 29 (bF L 1 29) (bF L 1) (vI vs 1)))
theorem sta_X6_cut : s_Sta c_X6_cut := ⟨⟨by decide +kernel, by decide +kernel, by decide +kernel⟩, List.mem_of_getElem? (i := 1079) (by decide +kernel), List.mem_of_getElem? (i := 70) (by decide +kernel), ⟨List.mem_of_getElem? (i := 1077) (by decide +kernel), List.mem_of_getElem? (i := 1078) (by decide +kernel), Or.inl ⟨_, rfl, rfl⟩⟩⟩

def k_X6_cut : List sBk := [
  (0, false, [true, true], [o0 0 (.iload_n 1), o0 1 .i2l, oK 2 (.lconst 0) (.long 0), o0 3 (.aload_n 0), oN 4 (.getfield 7) [6, 0, 822], oK 7 (.bipush 29) (.int 29), o0 9 .iaload, o0 10 .i2l, oC 11 (.invokestatic 90) [921] c_X6_in, oN 14 (.ifCond .eq 13) [1], o0 17 (.aload_n 0), oK 18 (.bipush 29) (.int 29), o0 20 (.iload_n 1), oC 21 (.invokevirtual 201) [1056] c_X6_becomes, oN 24 (.goto 4) [2]]),
  (27, false, [false, false], [oK 27 (.iconst (-1)) (.int (-1)), oN 28 .nop [2]]),
  (28, false, [false, false], [o0 28 .ireturn])]
set_option maxRecDepth 100000 in
theorem ck_X6_cut : s_ck RX6 cX6_cut 2 1 25 k_X6_cut = true := by decide +kernel

set_option maxRecDepth 100000 in
set_option maxHeartbeats 1000000 in
theorem ok_X6_cut : s_Ok c_X6_cut := by
  refine s_ok_of k_X6_cut (by decide +kernel) sta_X6_cut ck_X6_cut (And.intro ok_X6_in (And.intro ok_X6_becomes trivial)) ?_
  rintro vs L ⟨s, A, i, rfl, rfl⟩
  refine ⟨rfl, fun G hG => ?_⟩
  have fin : ∀ (a : Int32) (L2 : sH), a = r_cutv (A 1 29) (A 1 29) i → L2 = mdW s (va_up A 1 (q_mcut 29 (A 1 29) (A 1) i)) → s_PP (some .int) false c_X6_cut.2.2.2.2.2 [.ref 0, .int i] (mdW s A) (some (.int a)) L2 := fun a L2 ha hL => ⟨rfl, ⟨by rw [ha]; rfl, by rw [hL]; rfl⟩, fun h => by cases h⟩
  refine hG 0 _ _ _ (And.intro (vp_in_nI (n := 29) (N := 159) (by decide) (by decide)) (And.intro ⟨_, _, _, rfl⟩ ?_))
  intro r hr
  obtain ⟨b, hb⟩ : ∃ b, b = p_in64 i.toInt64 0 (A 1 29 : Int32).toInt64 := ⟨_, rfl⟩
  obtain rfl : r = some (.int b) := by rw [hb]; exact hr
  refine And.intro (fun h => ?_) (fun h => ?_)
  · have h : i < 0 ∨ A 1 29 < i := (p_rng _ _).mp (hb.symm.trans h)
    exact fin _ _ (by rw [r_cut_no h]) (by rw [q_mcut_no h, va_up1])
  · have h : ¬ (i < 0 ∨ A 1 29 < i) := fun q => h (hb.trans ((p_rng _ _).mpr q))
    refine And.intro ⟨s, A, _, _, 29, rfl, rfl, rfl, by omega⟩ ?_
    rintro r L' ⟨hr, hL⟩
    obtain rfl : r = some (.int (A 1 29)) := hr
    obtain rfl : L' = mdW s (va_up A 1 (upd (A 1) 29 i)) := hL
    exact fin _ _ (by rw [r_cut_ye h]) (by rw [q_mcut_ye h]; rfl)
def c_X6_forget : sCtr := ((yX6_forget, cX6_forget, 2, (some .int)), (7, 1, 1, 25), false,
  mdfp,
  fun vs L => ∃ (s : Nat → Int32) (A : Nat → Nat → Int32) (i : Int32), vs = [.ref 0, .int i] ∧ L = mdW s A,
  fun vs L r L' => r = some (.int (r_cutv (bF L 1 36) (bF L 1 36) (vI vs 1))) ∧ L' = mdU L (q_mcut 36 (bF L 1 36) (bF L 1) (vI vs 1)))
theorem sta_X6_forget : s_Sta c_X6_forget := ⟨⟨by decide +kernel, by decide +kernel, by decide +kernel⟩, List.mem_of_getElem? (i := 1190) (by decide +kernel), List.mem_of_getElem? (i := 70) (by decide +kernel), ⟨List.mem_of_getElem? (i := 1188) (by decide +kernel), List.mem_of_getElem? (i := 1189) (by decide +kernel), Or.inl ⟨_, rfl, rfl⟩⟩⟩

def k_X6_forget : List sBk := [
  (0, false, [true, true], [o0 0 (.iload_n 1), o0 1 .i2l, oK 2 (.lconst 0) (.long 0), o0 3 (.aload_n 0), oN 4 (.getfield 7) [6, 0, 822], oK 7 (.bipush 36) (.int 36), o0 9 .iaload, o0 10 .i2l, oC 11 (.invokestatic 90) [921] c_X6_in, oN 14 (.ifCond .eq 13) [1], o0 17 (.aload_n 0), oK 18 (.bipush 36) (.int 36), o0 20 (.iload_n 1), oC 21 (.invokevirtual 201) [1056] c_X6_becomes, oN 24 (.goto 4) [2]]),
  (27, false, [false, false], [oK 27 (.iconst (-1)) (.int (-1)), oN 28 .nop [2]]),
  (28, false, [false, false], [o0 28 .ireturn])]
set_option maxRecDepth 100000 in
theorem ck_X6_forget : s_ck RX6 cX6_forget 2 1 25 k_X6_forget = true := by decide +kernel

set_option maxRecDepth 100000 in
set_option maxHeartbeats 1000000 in
theorem ok_X6_forget : s_Ok c_X6_forget := by
  refine s_ok_of k_X6_forget (by decide +kernel) sta_X6_forget ck_X6_forget (And.intro ok_X6_in (And.intro ok_X6_becomes trivial)) ?_
  rintro vs L ⟨s, A, i, rfl, rfl⟩
  refine ⟨rfl, fun G hG => ?_⟩
  have fin : ∀ (a : Int32) (L2 : sH), a = r_cutv (A 1 36) (A 1 36) i → L2 = mdW s (va_up A 1 (q_mcut 36 (A 1 36) (A 1) i)) → s_PP (some .int) false c_X6_forget.2.2.2.2.2 [.ref 0, .int i] (mdW s A) (some (.int a)) L2 := fun a L2 ha hL => ⟨rfl, ⟨by rw [ha]; rfl, by rw [hL]; rfl⟩, fun h => by cases h⟩
  refine hG 0 _ _ _ (And.intro (vp_in_nI (n := 36) (N := 159) (by decide) (by decide)) (And.intro ⟨_, _, _, rfl⟩ ?_))
  intro r hr
  obtain ⟨b, hb⟩ : ∃ b, b = p_in64 i.toInt64 0 (A 1 36 : Int32).toInt64 := ⟨_, rfl⟩
  obtain rfl : r = some (.int b) := by rw [hb]; exact hr
  refine And.intro (fun h => ?_) (fun h => ?_)
  · have h : i < 0 ∨ A 1 36 < i := (p_rng _ _).mp (hb.symm.trans h)
    exact fin _ _ (by rw [r_cut_no h]) (by rw [q_mcut_no h, va_up1])
  · have h : ¬ (i < 0 ∨ A 1 36 < i) := fun q => h (hb.trans ((p_rng _ _).mpr q))
    refine And.intro ⟨s, A, _, _, 36, rfl, rfl, rfl, by omega⟩ ?_
    rintro r L' ⟨hr, hL⟩
    obtain rfl : r = some (.int (A 1 36)) := hr
    obtain rfl : L' = mdW s (va_up A 1 (upd (A 1) 36 i)) := hL
    exact fin _ _ (by rw [r_cut_ye h]) (by rw [q_mcut_ye h]; rfl)
/-- a bit of one of the wishes' rows -/
def q_mrow (B : Nat) (st : Nat → Int32) (w v z : Int32) : Nat → Int32 := upd st (B + w.toNatClampNeg) (p_wb (st (B + w.toNatClampNeg)) v z)
def r_masks (st : Nat → Int32) (y p0 w p : Int32) : Int32 := if p_in y w = 0 then -1 else if p_in p0 p = 0 then -1 else (st (2 + w.toNatClampNeg) >>> (p &&& 31)) &&& 1
def q_masks (st : Nat → Int32) (y p0 w p z : Int32) : Nat → Int32 := fun j => if p_in y w = 0 then st j else if p_in p0 p = 0 then st j else q_mrow 2 st w p z j
def c_X6_asks : sCtr := ((yX6_asks, cX6_asks, 4, (some .int)), (7, 3, 2, 46), false,
  mdfp,
  fun vs L => ∃ (s : Nat → Int32) (A : Nat → Nat → Int32) (w p z : Int32) (n m : Nat), vs = [.ref 0, .int w, .int p, .int z] ∧ L = mdW s A ∧ s 3 = nI n ∧ n ≤ 8 ∧ s 2 = nI m ∧ m ≤ 8,
  fun vs L r L' => r = some (.int (r_masks (bF L 1) (oI L 0 3) (oI L 0 2) (vI vs 1) (vI vs 2))) ∧ L' = mdU L (q_masks (bF L 1) (oI L 0 3) (oI L 0 2) (vI vs 1) (vI vs 2) (vI vs 3)))
theorem sta_X6_asks : s_Sta c_X6_asks := ⟨⟨by decide +kernel, by decide +kernel, by decide +kernel⟩, List.mem_of_getElem? (i := 1063) (by decide +kernel), List.mem_of_getElem? (i := 70) (by decide +kernel), ⟨List.mem_of_getElem? (i := 1061) (by decide +kernel), List.mem_of_getElem? (i := 1062) (by decide +kernel), Or.inl ⟨_, rfl, rfl⟩⟩⟩

def k_X6_asks : List sBk := [
  (0, false, [true, true, true, true], [o0 0 (.aload_n 0), o0 1 (.iload_n 1), oC 2 (.invokevirtual 185) [1015] c_X6_isWish, oN 5 (.ifCond .eq 23) [1], o0 8 (.aload_n 0), o0 9 (.iload_n 2), oC 10 (.invokevirtual 192) [1035] c_X6_isOne, oN 13 (.ifCond .eq 15) [1], o0 16 (.aload_n 0), oK 17 (.iconst 2) (.int 2), o0 18 (.iload_n 1), o0 19 .iadd, o0 20 (.iload_n 2), o0 21 (.iload_n 3), oC 22 (.invokevirtual 195) [1039] c_X6_becomesBit, oN 25 (.goto 4) [2]]),
  (28, false, [false, false, false, false], [oK 28 (.iconst (-1)) (.int (-1)), oN 29 .nop [2]]),
  (29, false, [false, false, false, false], [o0 29 .ireturn])]
set_option maxRecDepth 100000 in
theorem ck_X6_asks : s_ck RX6 cX6_asks 4 2 46 k_X6_asks = true := by decide +kernel

set_option maxRecDepth 100000 in
set_option maxHeartbeats 1000000 in
theorem ok_X6_asks : s_Ok c_X6_asks := by
  refine s_ok_of k_X6_asks (by decide +kernel) sta_X6_asks ck_X6_asks (And.intro ok_X6_isWish (And.intro ok_X6_isOne (And.intro ok_X6_becomesBit trivial))) ?_
  rintro vs L ⟨s, A, w, p, z, n, m, rfl, rfl, hn, hn8, hm, hm8⟩
  refine ⟨rfl, fun G hG => ?_⟩
  have fin : ∀ (a : Int32) (L2 : sH), a = r_masks (A 1) (s 3) (s 2) w p → L2 = mdW s (va_up A 1 (q_masks (A 1) (s 3) (s 2) w p z)) → s_PP (some .int) false c_X6_asks.2.2.2.2.2 [.ref 0, .int w, .int p, .int z] (mdW s A) (some (.int a)) L2 := fun a L2 ha hL => ⟨rfl, ⟨by rw [ha]; rfl, by rw [hL]; rfl⟩, fun h => by cases h⟩
  refine hG 0 _ _ _ (And.intro ⟨s, A, w, n, rfl, rfl, hn, hn8⟩ ?_)
  intro r hr
  obtain rfl : r = some (.int (p_in (s 3) w)) := hr
  refine And.intro (fun h => ?_) (fun h => ?_)
  · exact fin _ _ (by rw [r_masks, if_pos h]) (by rw [show q_masks (A 1) (s 3) (s 2) w p z = A 1 by funext j; rw [q_masks, if_pos h], va_up1])
  refine And.intro ⟨s, A, p, m, rfl, rfl, hm, hm8⟩ ?_
  intro r hr
  obtain rfl : r = some (.int (p_in (s 2) p)) := hr
  refine And.intro (fun h2 => ?_) (fun h2 => ?_)
  · exact fin _ _ (by rw [r_masks, if_neg h, if_pos h2]) (by rw [show q_masks (A 1) (s 3) (s 2) w p z = A 1 by funext j; rw [q_masks, if_neg h, if_pos h2], va_up1])
  have h3 := h
  rw [hn] at h3
  obtain ⟨j, hj, hw⟩ := p_in_ne hn8 h3
  have e : (2 : Int32) + w = nI (2 + j) := by rw [hw]; exact nI_add 2 j
  have ec : ((2 : Int32) + w).toNatClampNeg = 2 + w.toNatClampNeg := by rw [e, hw, nI_clamp (by omega), nI_clamp (by omega)]
  refine And.intro ⟨s, A, _, _, _, 2 + j, rfl, rfl, e, by omega⟩ ?_
  rintro r L' ⟨hr, hL⟩
  obtain rfl : r = some (.int ((A 1 (2 + w.toNatClampNeg) >>> (p &&& 31)) &&& 1)) := by rw [← ec]; exact hr
  obtain rfl : L' = mdW s (va_up A 1 (q_mrow 2 (A 1) w p z)) := by rw [q_mrow, ← ec]; exact hL
  exact fin _ _ (by rw [r_masks, if_neg h, if_neg h2]) (by rw [show q_masks (A 1) (s 3) (s 2) w p z = q_mrow 2 (A 1) w p z by funext j; rw [q_masks, if_neg h, if_neg h2]]; rfl)
def r_mneeds (st : Nat → Int32) (y w v : Int32) : Int32 := if p_two y w v = 0 then -1 else (st (10 + w.toNatClampNeg) >>> (v &&& 31)) &&& 1
def q_mneeds (st : Nat → Int32) (y w v z : Int32) : Nat → Int32 := fun j => if p_two y w v = 0 then st j else q_mrow 10 st w v z j
def r_mclash (st : Nat → Int32) (y w v : Int32) : Int32 := if p_two y w v = 0 then -1 else (q_mrow 18 st v w 0 (18 + w.toNatClampNeg) >>> (v &&& 31)) &&& 1

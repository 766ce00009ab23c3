/-! ===== Book: what is looked at, refused, rests, goes round ===== -/
def p_st (nd : Nat → Int32) (n : Nat) (h g : Int32) : Int32 := g ||| (p_ga nd n g &&& (h ^^^ (-1)))
def p_it (nd : Nat → Int32) (n : Nat) (h g : Int32) : Nat → Int32
  | 0 => g
  | k + 1 => p_st nd n h (p_it nd n h g k)
theorem p_it_fix {nd : Nat → Int32} {n : Nat} {h g : Int32} {i : Nat} (hf : p_st nd n h (p_it nd n h g i) = p_it nd n h g i) : ∀ d, p_it nd n h g (i + d) = p_it nd n h g i
  | 0 => rfl
  | d + 1 => by
    show p_st nd n h (p_it nd n h g (i + d)) = _
    rw [p_it_fix hf d, hf]
def c_X0_lookedAt : sCtr := ((yX0_lookedAt, cX0_lookedAt, 7, (some .int)), (1, 3, 2, 45), true,
  bkfp,
  fun vs L => ∃ (s : Nat → Int32) (F : Nat → Nat → Int32) (w h e : Int32) (n d : Nat), vs = [.ref 0, .int w, .int h, .int e] ∧ L = bkW s F ∧ s 1 = nI n ∧ n ≤ 8 ∧ e = nI d ∧ d ≤ 8,
  fun vs L r _ => r = some (.int (p_it (bF L 4) (bS L 1).toNatClampNeg (vI vs 2) ((1 : Int32) <<< (vI vs 1 &&& 31)) (vI vs 3).toNatClampNeg)))
theorem sta_X0_lookedAt : s_Sta c_X0_lookedAt := ⟨⟨by decide +kernel, by decide +kernel, by decide +kernel⟩, List.mem_of_getElem? (i := 480) (by decide +kernel), List.mem_of_getElem? (i := 67) (by decide +kernel), ⟨List.mem_of_getElem? (i := 478) (by decide +kernel), List.mem_of_getElem? (i := 479) (by decide +kernel), Or.inl ⟨_, rfl, rfl⟩⟩⟩

def k_X0_lookedAt : List sBk := [
  (0, false, [true, true, true, true, false, false, false], [oK 0 (.iconst 1) (.int 1), o0 1 (.iload_n 1), o0 2 .ishl, o0 3 (.istore 4), oK 5 (.iconst 0) (.int 0), o0 6 (.istore 5), oN 8 .nop [1]]),
  (8, true, [true, false, true, true, true, true, false], [o0 8 (.iload 5), o0 10 (.iload_n 3), oN 11 (.if_icmp .ge 42) [3], o0 14 (.iload 4), o0 16 (.aload_n 0), o0 17 (.aload_n 0), oN 18 (.getfield 21) [0, 10, 148], o0 21 (.iload 4), oC 23 (.invokevirtual 84) [481] c_X0_gather, o0 26 (.iload_n 2), oK 27 (.iconst (-1)) (.int (-1)), o0 28 .ixor, o0 29 .iand, o0 30 .ior, o0 31 (.istore 6), o0 33 (.iload 6), o0 35 (.iload 4), oN 37 (.if_icmp .ne 6) [2], oN 40 (.goto 13) [3]]),
  (43, false, [true, false, true, true, false, true, true], [o0 43 (.iload 6), o0 45 (.istore 4), oK 47 (.iinc 5 1) (.int 1), oN 50 (.goto (-42)) [1]]),
  (53, false, [false, false, false, false, true, false, false], [o0 53 (.iload 4), o0 55 .ireturn])]
set_option maxRecDepth 100000 in
theorem ck_X0_lookedAt : s_ck RX0 cX0_lookedAt 7 2 45 k_X0_lookedAt = true := by decide +kernel

set_option maxRecDepth 100000 in
set_option maxHeartbeats 1000000 in
theorem ok_X0_lookedAt : s_Ok c_X0_lookedAt := by
  refine s_ok_of k_X0_lookedAt (by decide +kernel) sta_X0_lookedAt ck_X0_lookedAt (And.intro ok_X0_gather trivial) ?_
  rintro vs L ⟨s, F, w, h, e, n, d, rfl, rfl, hn, hn8, he, hd⟩
  refine ⟨rfl, fun G hG => ?_⟩
  have fin : ∀ a : Int32, a = p_it (F 4) n h ((1 : Int32) <<< (w &&& 31)) d → s_PP (some .int) true c_X0_lookedAt.2.2.2.2.2 [.ref 0, .int w, .int h, .int e] (bkW s F) (some (.int a)) (bkW s F) := by
    intro a ha
    refine ⟨rfl, ?_, fun _ => rfl⟩
    show some (Value.int a) = some (Value.int (p_it (F 4) (s 1).toNatClampNeg h ((1 : Int32) <<< (w &&& 31)) e.toNatClampNeg))
    rw [hn, he, nI_clamp (by omega), nI_clamp (by omega), ha]
  have loop : ∀ (k i : Nat) (x a : Int32), i + k = d → x = nI i → a = p_it (F 4) n h ((1 : Int32) <<< (w &&& 31)) i → G 1 [some (.ref 0), none, some (.int h), some (.int e), some (.int a), some (.int x), none] [] (bkW s F) := by
    intro k
    induction k with
    | zero =>
      intro i x a hi hx ha
      refine hG 1 _ _ _ (And.intro (fun h2 => ?_) (fun h2 => ?_))
      · rw [hx, he, nI_ltI (by omega) (by omega)] at h2; omega
      · exact fin a (by rw [ha, show i = d by omega])
    | succ k ih =>
      intro i x a hi hx ha
      refine hG 1 _ _ _ (And.intro (fun h2 => ?_) (fun h2 => ?_))
      · refine And.intro ⟨_, _, n, _, _, _, _, rfl, rfl, hn, hn8, Nat.le_refl _⟩ ?_
        intro r hr
        obtain rfl : r = some (.int (p_ga (F 4) (s 1).toNatClampNeg a)) := hr
        have e1 : a ||| (p_ga (F 4) (s 1).toNatClampNeg a &&& (h ^^^ (-1))) = p_it (F 4) n h ((1 : Int32) <<< (w &&& 31)) (i + 1) := by
          rw [hn, nI_clamp (by omega), ha]; rfl
        refine And.intro (fun h3 => ?_) (fun h3 => ?_)
        · refine fin a ?_
          have h4 : p_st (F 4) n h (p_it (F 4) n h ((1 : Int32) <<< (w &&& 31)) i) = p_it (F 4) n h ((1 : Int32) <<< (w &&& 31)) i := by
            rw [← ha]
            have h5 : a ||| (p_ga (F 4) (s 1).toNatClampNeg a &&& (h ^^^ (-1))) = a := h3
            rw [hn, nI_clamp (by omega)] at h5
            exact h5
          rw [ha, show d = i + (k + 1) by omega, p_it_fix h4]
        · exact ih (i + 1) _ _ (by omega) (by rw [hx, nI_1]) e1
      · rw [hx, he, nI_ltI (by omega) (by omega)] at h2; omega
  exact hG 0 _ _ _ (loop d 0 _ _ (by omega) nI_0.symm rfl)
/-- why the clerk refuses -/
def p_re (on nd cl : Nat → Int32) (n : Nat) (listed barred w held alive : Int32) (d : Nat) : Int32 :=
  if p_hb listed w = 0 then
    if p_ga on n (p_it nd n held ((1 : Int32) <<< (w &&& 31)) d) &&& barred &&& (alive ^^^ (-1)) = 0 then
      if p_ga cl n (p_it nd n held ((1 : Int32) <<< (w &&& 31)) d) &&& (p_it nd n held ((1 : Int32) <<< (w &&& 31)) d ||| held) = 0 then 0 else 3
    else 2
  else 1
def c_X0_refusal : sCtr := ((yX0_refusal, cX0_refusal, 6, (some .int)), (1, 4, 3, 71), true,
  bkfp,
  fun vs L => ∃ (s : Nat → Int32) (F : Nat → Nat → Int32) (w h a e : Int32) (n d : Nat), vs = [.ref 0, .int w, .int h, .int a, .int e] ∧ L = bkW s F ∧ s 1 = nI n ∧ n ≤ 8 ∧ e = nI d ∧ d ≤ 8,
  fun vs L r _ => r = some (.int (p_re (bF L 3) (bF L 4) (bF L 5) (bS L 1).toNatClampNeg (bS L 6) (bS L 4) (vI vs 1) (vI vs 2) (vI vs 3) (vI vs 4).toNatClampNeg)))
theorem sta_X0_refusal : s_Sta c_X0_refusal := ⟨⟨by decide +kernel, by decide +kernel, by decide +kernel⟩, List.mem_of_getElem? (i := 568) (by decide +kernel), List.mem_of_getElem? (i := 67) (by decide +kernel), ⟨List.mem_of_getElem? (i := 566) (by decide +kernel), List.mem_of_getElem? (i := 567) (by decide +kernel), Or.inl ⟨_, rfl, rfl⟩⟩⟩

def k_X0_refusal : List sBk := [
  (0, false, [true, true, true, true, true, false], [o0 0 (.aload_n 0), oN 1 (.getfield 62) [0, 6, 135], o0 4 (.iload_n 1), oC 5 (.invokestatic 88) [0, 0] c_X5_hasBit, oN 8 (.ifCond .eq 5) [1], oK 11 (.iconst 1) (.int 1), o0 12 .ireturn]),
  (13, false, [true, true, true, true, true, false], [o0 13 (.aload_n 0), o0 14 (.iload_n 1), o0 15 (.iload_n 2), o0 16 (.iload 4), oC 18 (.invokevirtual 80) [477] c_X0_lookedAt, o0 21 (.istore 5), o0 23 (.aload_n 0), o0 24 (.aload_n 0), oN 25 (.getfield 18) [0, 9, 145], o0 28 (.iload 5), oC 30 (.invokevirtual 84) [481] c_X0_gather, o0 33 (.aload_n 0), oN 34 (.getfield 56) [0, 4, 129], o0 37 .iand, o0 38 (.iload_n 3), oK 39 (.iconst (-1)) (.int (-1)), o0 40 .ixor, o0 41 .iand, oN 42 (.ifCond .eq 5) [2], oK 45 (.iconst 2) (.int 2), o0 46 .ireturn]),
  (47, false, [true, false, true, false, false, true], [o0 47 (.aload_n 0), o0 48 (.aload_n 0), oN 49 (.getfield 24) [0, 11, 151], o0 52 (.iload 5), oC 54 (.invokevirtual 84) [481] c_X0_gather, o0 57 (.iload 5), o0 59 (.iload_n 2), o0 60 .ior, o0 61 .iand, oN 62 (.ifCond .eq 7) [3], oK 65 (.iconst 3) (.int 3), oN 66 (.goto 4) [4]]),
  (69, false, [false, false, false, false, false, false], [oK 69 (.iconst 0) (.int 0), oN 70 .nop [4]]),
  (70, false, [false, false, false, false, false, false], [o0 70 .ireturn])]
set_option maxRecDepth 100000 in
theorem ck_X0_refusal : s_ck RX0 cX0_refusal 6 3 71 k_X0_refusal = true := by decide +kernel

set_option maxRecDepth 100000 in
set_option maxHeartbeats 1000000 in
theorem ok_X0_refusal : s_Ok c_X0_refusal := by
  refine s_ok_of k_X0_refusal (by decide +kernel) sta_X0_refusal ck_X0_refusal (And.intro ok_X5_hasBit (And.intro ok_X0_lookedAt (And.intro ok_X0_gather (And.intro ok_X0_gather trivial)))) ?_
  rintro vs L ⟨s, F, w, h, a, e, n, d, rfl, rfl, hn, hn8, he, hd⟩
  refine ⟨rfl, fun G hG => ?_⟩
  have fin : ∀ a2 : Int32, a2 = p_re (F 3) (F 4) (F 5) n (s 6) (s 4) w h a d → s_PP (some .int) true c_X0_refusal.2.2.2.2.2 [.ref 0, .int w, .int h, .int a, .int e] (bkW s F) (some (.int a2)) (bkW s F) := by
    intro a2 ha
    refine ⟨rfl, ?_, fun _ => rfl⟩
    show some (Value.int a2) = some (Value.int (p_re (F 3) (F 4) (F 5) (s 1).toNatClampNeg (s 6) (s 4) w h a e.toNatClampNeg))
    rw [hn, he, nI_clamp (by omega), nI_clamp (by omega), ha]
  refine hG 0 _ _ _ (And.intro ⟨s 6, w, rfl⟩ ?_)
  intro r hr
  obtain rfl : r = some (.int (p_hb (s 6) w)) := hr
  refine And.intro (fun h1 => ?_) (fun h1 => ?_)
  · refine And.intro ⟨s, F, w, h, e, n, d, rfl, rfl, hn, hn8, he, hd⟩ ?_
    intro r hr
    obtain ⟨g, hg⟩ : ∃ g, g = p_it (F 4) (s 1).toNatClampNeg h ((1 : Int32) <<< (w &&& 31)) e.toNatClampNeg := ⟨_, rfl⟩
    obtain rfl : r = some (.int g) := by rw [hg]; exact hr
    rw [hn, he, nI_clamp (by omega), nI_clamp (by omega)] at hg
    refine And.intro ⟨_, _, n, _, _, _, _, rfl, rfl, hn, hn8, Nat.le_refl _⟩ ?_
    intro r hr
    obtain rfl : r = some (.int (p_ga (F 3) (s 1).toNatClampNeg g)) := hr
    refine And.intro (fun h2 => ?_) (fun h2 => ?_)
    · refine And.intro ⟨_, _, n, _, _, _, _, rfl, rfl, hn, hn8, Nat.le_refl _⟩ ?_
      intro r hr
      obtain rfl : r = some (.int (p_ga (F 5) (s 1).toNatClampNeg g)) := hr
      have h2 : p_ga (F 3) (s 1).toNatClampNeg g &&& s 4 &&& (a ^^^ (-1)) = 0 := h2
      rw [hn, nI_clamp (by omega)] at h2
      refine And.intro (fun h3 => ?_) (fun h3 => ?_)
      · refine fin _ ?_
        have h3 : p_ga (F 5) (s 1).toNatClampNeg g &&& (g ||| h) = 0 := h3
        rw [hn, nI_clamp (by omega)] at h3
        rw [p_re, if_pos h1, ← hg, if_pos h2, if_pos h3]
      · refine fin _ ?_
        have h3 : ¬ p_ga (F 5) (s 1).toNatClampNeg g &&& (g ||| h) = 0 := h3
        rw [hn, nI_clamp (by omega)] at h3
        rw [p_re, if_pos h1, ← hg, if_pos h2, if_neg h3]
    · refine fin _ ?_
      have h2 : ¬ p_ga (F 3) (s 1).toNatClampNeg g &&& s 4 &&& (a ^^^ (-1)) = 0 := h2
      rw [hn, nI_clamp (by omega)] at h2
      rw [p_re, if_pos h1, ← hg, if_neg h2]
  · refine fin _ ?_
    rw [p_re, if_neg h1]
def c_X0_haveClash : sCtr := ((yX0_haveClash, cX0_haveClash, 2, (some .boolean)), (1, 1, 2, 45), true,
  bkfp,
  fun vs L => ∃ (s : Nat → Int32) (F : Nat → Nat → Int32) (g : Int32) (n : Nat), vs = [.ref 0, .int g] ∧ L = bkW s F ∧ s 1 = nI n ∧ n ≤ 8,
  fun vs L r _ => r = some (.int (if p_ga (bF L 5) (bS L 1).toNatClampNeg (vI vs 1) &&& vI vs 1 = 0 then 0 else 1)))
theorem sta_X0_haveClash : s_Sta c_X0_haveClash := ⟨⟨by decide +kernel, by decide +kernel, by decide +kernel⟩, List.mem_of_getElem? (i := 689) (by decide +kernel), List.mem_of_getElem? (i := 67) (by decide +kernel), ⟨List.mem_of_getElem? (i := 687) (by decide +kernel), List.mem_of_getElem? (i := 688) (by decide +kernel), Or.inl ⟨_, rfl, rfl⟩⟩⟩

def k_X0_haveClash : List sBk := [
  (0, false, [true, true], [o0 0 (.aload_n 0), o0 1 (.aload_n 0), oN 2 (.getfield 24) [0, 11, 151], o0 5 (.iload_n 1), oC 6 (.invokevirtual 84) [481] c_X0_gather, o0 9 (.iload_n 1), o0 10 .iand, oN 11 (.ifCond .eq 7) [1], oK 14 (.iconst 1) (.int 1), oN 15 (.goto 4) [2]]),
  (18, false, [false, false], [oK 18 (.iconst 0) (.int 0), oN 19 .nop [2]]),
  (19, false, [false, false], [o0 19 .ireturn])]
set_option maxRecDepth 100000 in
theorem ck_X0_haveClash : s_ck RX0 cX0_haveClash 2 2 45 k_X0_haveClash = true := by decide +kernel

set_option maxRecDepth 100000 in
set_option maxHeartbeats 1000000 in
theorem ok_X0_haveClash : s_Ok c_X0_haveClash := by
  refine s_ok_of k_X0_haveClash (by decide +kernel) sta_X0_haveClash ck_X0_haveClash (And.intro ok_X0_gather trivial) ?_
  rintro vs L ⟨s, F, g, n, rfl, rfl, hn, hn8⟩
  refine ⟨rfl, fun G hG => ?_⟩
  refine hG 0 _ _ _ (And.intro ⟨_, _, n, _, _, _, _, rfl, rfl, hn, hn8, Nat.le_refl _⟩ ?_)
  intro r hr
  obtain rfl : r = some (.int (p_ga (F 5) (s 1).toNatClampNeg g)) := hr
  refine And.intro (fun h => ?_) (fun h => ?_)
  · refine And.intro (Or.inl rfl) ⟨rfl, ?_, fun _ => rfl⟩
    show some (Value.int 0) = some (Value.int (if p_ga (F 5) (s 1).toNatClampNeg g &&& g = 0 then 0 else 1))
    rw [if_pos h]
  · refine And.intro (Or.inr rfl) ⟨rfl, ?_, fun _ => rfl⟩
    show some (Value.int 1) = some (Value.int (if p_ga (F 5) (s 1).toNatClampNeg g &&& g = 0 then 0 else 1))
    rw [if_neg h]
def c_X0_followersOf : sCtr := ((yX0_followersOf, cX0_followersOf, 2, (some .int)), (1, 1, 2, 45), true,
  bkfp,
  fun vs L => ∃ (s : Nat → Int32) (F : Nat → Nat → Int32) (g : Int32) (n : Nat), vs = [.ref 0, .int g] ∧ L = bkW s F ∧ s 1 = nI n ∧ n ≤ 8,
  fun vs L r _ => r = some (.int (p_ga (bF L 6) (bS L 1).toNatClampNeg (vI vs 1))))
theorem sta_X0_followersOf : s_Sta c_X0_followersOf := ⟨⟨by decide +kernel, by decide +kernel, by decide +kernel⟩, List.mem_of_getElem? (i := 685) (by decide +kernel), List.mem_of_getElem? (i := 67) (by decide +kernel), ⟨List.mem_of_getElem? (i := 683) (by decide +kernel), List.mem_of_getElem? (i := 684) (by decide +kernel), Or.inl ⟨_, rfl, rfl⟩⟩⟩

def k_X0_followersOf : List sBk := [
  (0, false, [true, true], [o0 0 (.aload_n 0), o0 1 (.aload_n 0), oN 2 (.getfield 27) [0, 12, 154], o0 5 (.iload_n 1), oC 6 (.invokevirtual 84) [481] c_X0_gather, o0 9 .ireturn])]
set_option maxRecDepth 100000 in
theorem ck_X0_followersOf : s_ck RX0 cX0_followersOf 2 2 45 k_X0_followersOf = true := by decide +kernel

set_option maxRecDepth 100000 in
set_option maxHeartbeats 1000000 in
theorem ok_X0_followersOf : s_Ok c_X0_followersOf := by
  refine s_ok_of k_X0_followersOf (by decide +kernel) sta_X0_followersOf ck_X0_followersOf (And.intro ok_X0_gather trivial) ?_
  rintro vs L ⟨s, F, g, n, rfl, rfl, hn, hn8⟩
  refine ⟨rfl, fun G hG => ?_⟩
  refine hG 0 _ _ _ (And.intro ⟨_, _, n, _, _, _, _, rfl, rfl, hn, hn8, Nat.le_refl _⟩ ?_)
  intro r hr
  obtain rfl : r = some (.int (p_ga (F 6) (s 1).toNatClampNeg g)) := hr
  exact ⟨rfl, rfl, fun _ => rfl⟩
def c_X0_wantedBy : sCtr := ((yX0_wantedBy, cX0_wantedBy, 2, (some .int)), (1, 1, 2, 45), true,
  bkfp,
  fun vs L => ∃ (s : Nat → Int32) (F : Nat → Nat → Int32) (g : Int32) (n : Nat), vs = [.ref 0, .int g] ∧ L = bkW s F ∧ s 1 = nI n ∧ n ≤ 8,
  fun vs L r _ => r = some (.int (p_ga (bF L 7) (bS L 1).toNatClampNeg (vI vs 1))))
theorem sta_X0_wantedBy : s_Sta c_X0_wantedBy := ⟨⟨by decide +kernel, by decide +kernel, by decide +kernel⟩, List.mem_of_getElem? (i := 733) (by decide +kernel), List.mem_of_getElem? (i := 67) (by decide +kernel), ⟨List.mem_of_getElem? (i := 731) (by decide +kernel), List.mem_of_getElem? (i := 732) (by decide +kernel), Or.inl ⟨_, rfl, rfl⟩⟩⟩

def k_X0_wantedBy : List sBk := [
  (0, false, [true, true], [o0 0 (.aload_n 0), o0 1 (.aload_n 0), oN 2 (.getfield 30) [0, 13, 157], o0 5 (.iload_n 1), oC 6 (.invokevirtual 84) [481] c_X0_gather, o0 9 .ireturn])]
set_option maxRecDepth 100000 in
theorem ck_X0_wantedBy : s_ck RX0 cX0_wantedBy 2 2 45 k_X0_wantedBy = true := by decide +kernel

set_option maxRecDepth 100000 in
set_option maxHeartbeats 1000000 in
theorem ok_X0_wantedBy : s_Ok c_X0_wantedBy := by
  refine s_ok_of k_X0_wantedBy (by decide +kernel) sta_X0_wantedBy ck_X0_wantedBy (And.intro ok_X0_gather trivial) ?_
  rintro vs L ⟨s, F, g, n, rfl, rfl, hn, hn8⟩
  refine ⟨rfl, fun G hG => ?_⟩
  refine hG 0 _ _ _ (And.intro ⟨_, _, n, _, _, _, _, rfl, rfl, hn, hn8, Nat.le_refl _⟩ ?_)
  intro r hr
  obtain rfl : r = some (.int (p_ga (F 7) (s 1).toNatClampNeg g)) := hr
  exact ⟨rfl, rfl, fun _ => rfl⟩
/-- those of the held of which one of the group follows, below k -/
def p_ro (fo : Nat → Int32) (g h : Int32) : Nat → Int32
  | 0 => 0
  | k + 1 => if p_hb h (nI k) = 0 then p_ro fo g h k else if fo k &&& g = 0 then p_ro fo g h k else p_ro fo g h k ||| ((1 : Int32) <<< (nI k &&& 31))
def c_X0_restingOn : sCtr := ((yX0_restingOn, cX0_restingOn, 5, (some .int)), (1, 2, 1, 21), true,
  bkfp,
  fun vs L => ∃ (s : Nat → Int32) (F : Nat → Nat → Int32) (g h : Int32) (n : Nat), vs = [.ref 0, .int g, .int h] ∧ L = bkW s F ∧ s 1 = nI n ∧ n ≤ 8,
  fun vs L r _ => r = some (.int (p_ro (bF L 6) (vI vs 1) (vI vs 2) (bS L 1).toNatClampNeg)))
theorem sta_X0_restingOn : s_Sta c_X0_restingOn := ⟨⟨by decide +kernel, by decide +kernel, by decide +kernel⟩, List.mem_of_getElem? (i := 587) (by decide +kernel), List.mem_of_getElem? (i := 67) (by decide +kernel), ⟨List.mem_of_getElem? (i := 585) (by decide +kernel), List.mem_of_getElem? (i := 586) (by decide +kernel), Or.inl ⟨_, rfl, rfl⟩⟩⟩

def k_X0_restingOn : List sBk := [
  (0, false, [true, true, true, false, false], [oK 0 (.iconst 0) (.int 0), o0 1 (.istore_n 3), oK 2 (.iconst 0) (.int 0), o0 3 (.istore 4), oN 5 .nop [1]]),
  (5, true, [true, true, true, true, true], [o0 5 (.iload 4), o0 7 (.aload_n 0), oN 8 (.getfield 43) [0, 1, 119], oN 11 (.if_icmp .ge 37) [3], o0 14 (.iload_n 2), o0 15 (.iload 4), oC 17 (.invokestatic 88) [0, 0] c_X5_hasBit, oN 20 (.ifCond .eq 22) [2], o0 23 (.aload_n 0), oN 24 (.getfield 27) [0, 12, 154], o0 27 (.iload 4), o0 29 .iaload, o0 30 (.iload_n 1), o0 31 .iand, oN 32 (.ifCond .eq 10) [2], o0 35 (.iload_n 3), oK 36 (.iconst 1) (.int 1), o0 37 (.iload 4), o0 39 .ishl, o0 40 .ior, o0 41 (.istore_n 3), oN 42 .nop [2]]),
  (42, false, [true, true, true, true, true], [oK 42 (.iinc 4 1) (.int 1), oN 45 (.goto (-40)) [1]]),
  (48, false, [false, false, false, true, false], [o0 48 (.iload_n 3), o0 49 .ireturn])]
set_option maxRecDepth 100000 in
theorem ck_X0_restingOn : s_ck RX0 cX0_restingOn 5 1 21 k_X0_restingOn = true := by decide +kernel

set_option maxRecDepth 100000 in
set_option maxHeartbeats 1000000 in
theorem ok_X0_restingOn : s_Ok c_X0_restingOn := by
  refine s_ok_of k_X0_restingOn (by decide +kernel) sta_X0_restingOn ck_X0_restingOn (And.intro ok_X5_hasBit trivial) ?_
  rintro vs L ⟨s, F, g, h, n, rfl, rfl, hn, hn8⟩
  refine ⟨rfl, fun G hG => ?_⟩
  have loop : ∀ (k i : Nat) (x a : Int32), i + k = n → x = nI i → a = p_ro (F 6) g h i → G 1 [some (.ref 0), some (.int g), some (.int h), some (.int a), some (.int x)] [] (bkW s F) := by
    intro k
    induction k with
    | zero =>
      intro i x a hi hx ha
      refine hG 1 _ _ _ (And.intro (fun h2 => ?_) (fun h2 => ?_))
      · have h2 : x < s 1 := h2
        rw [hx, hn, nI_ltI (by omega) (by omega)] at h2; omega
      · refine ⟨rfl, ?_, fun _ => rfl⟩
        show some (Value.int a) = some (Value.int (p_ro (F 6) g h (s 1).toNatClampNeg))
        rw [hn, nI_clamp (by omega), ha, show i = n by omega]
    | succ k ih =>
      intro i x a hi hx ha
      refine hG 1 _ _ _ (And.intro (fun h2 => ?_) (fun h2 => ?_))
      · refine And.intro ⟨h, x, rfl⟩ ?_
        intro r hr
        obtain rfl : r = some (.int (p_hb h x)) := hr
        refine And.intro (fun h3 => ?_) (fun h3 => ?_)
        · exact ih (i + 1) _ _ (by omega) (by rw [hx, nI_1]) (by rw [p_ro, ← hx, if_pos h3, ha])
        · refine And.intro (by rw [hx]; exact vp_in_nI (by omega) (by omega)) ?_
          refine And.intro (fun h4 => ?_) (fun h4 => ?_)
          · have h4 : F 6 x.toNatClampNeg &&& g = 0 := h4
            rw [hx, nI_clamp (by omega)] at h4
            exact ih (i + 1) _ _ (by omega) (by rw [hx, nI_1]) (by rw [p_ro, ← hx, if_neg h3, if_pos h4, ha])
          · have h4 : ¬ F 6 x.toNatClampNeg &&& g = 0 := h4
            rw [hx, nI_clamp (by omega)] at h4
            exact ih (i + 1) _ _ (by omega) (by rw [hx, nI_1]) (by rw [p_ro, ← hx, if_neg h3, if_neg h4, ha])
      · have h2 : ¬ x < s 1 := h2
        rw [hx, hn, nI_ltI (by omega) (by omega)] at h2; omega
  exact hG 0 _ _ _ (loop n 0 _ _ (by omega) nI_0.symm rfl)

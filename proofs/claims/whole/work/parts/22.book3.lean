/-! ===== Book: rounds, what is seen, followers worked out, emptied, copied ===== -/
def p_rd (nd fo : Nat → Int32) (n : Nat) (g : Int32) : Nat → Bool
  | 0 => false
  | k + 1 => p_rd nd fo n g k || (!(decide (p_hb g (nI k) = 0)) && !(decide (p_hb (p_ga fo n (nd k)) (nI k) = 0)))
theorem p_rd_mono {nd fo : Nat → Int32} {n : Nat} {g : Int32} {i : Nat} (h : p_rd nd fo n g i = true) : ∀ d, p_rd nd fo n g (i + d) = true
  | 0 => h
  | d + 1 => by
    show (p_rd nd fo n g (i + d) || _) = true
    rw [p_rd_mono h d]; rfl
def c_X0_goesRound : sCtr := ((yX0_goesRound, cX0_goesRound, 3, (some .boolean)), (1, 1, 3, 66), true,
  bkfp,
  fun vs L => ∃ (s : Nat → Int32) (F : Nat → Nat → Int32) (g : Int32) (n : Nat), vs = [.ref 0, .int g] ∧ L = bkW s F ∧ s 1 = nI n ∧ n ≤ 8,
  fun vs L r _ => r = some (.int (if p_rd (bF L 4) (bF L 6) (bS L 1).toNatClampNeg (vI vs 1) (bS L 1).toNatClampNeg = true then 1 else 0)))
theorem sta_X0_goesRound : s_Sta c_X0_goesRound := ⟨⟨by decide +kernel, by decide +kernel, by decide +kernel⟩, List.mem_of_getElem? (i := 705) (by decide +kernel), List.mem_of_getElem? (i := 67) (by decide +kernel), ⟨List.mem_of_getElem? (i := 703) (by decide +kernel), List.mem_of_getElem? (i := 704) (by decide +kernel), Or.inl ⟨_, rfl, rfl⟩⟩⟩

def k_X0_goesRound : List sBk := [
  (0, false, [true, true, false], [oK 0 (.iconst 0) (.int 0), o0 1 (.istore_n 2), oN 2 .nop [1]]),
  (2, true, [true, true, true], [o0 2 (.iload_n 2), o0 3 (.aload_n 0), oN 4 (.getfield 43) [0, 1, 119], oN 7 (.if_icmp .ge 36) [3], o0 10 (.iload_n 1), o0 11 (.iload_n 2), oC 12 (.invokestatic 88) [0, 0] c_X5_hasBit, oN 15 (.ifCond .eq 22) [2], o0 18 (.aload_n 0), o0 19 (.aload_n 0), oN 20 (.getfield 21) [0, 10, 148], o0 23 (.iload_n 2), o0 24 .iaload, oC 25 (.invokevirtual 92) [706] c_X0_followersOf, o0 28 (.iload_n 2), oC 29 (.invokestatic 88) [0, 0] c_X5_hasBit, oN 32 (.ifCond .eq 5) [2], oK 35 (.iconst 1) (.int 1), o0 36 .ireturn]),
  (37, false, [true, true, true], [oK 37 (.iinc 2 1) (.int 1), oN 40 (.goto (-38)) [1]]),
  (43, false, [false, false, false], [oK 43 (.iconst 0) (.int 0), o0 44 .ireturn])]
set_option maxRecDepth 100000 in
theorem ck_X0_goesRound : s_ck RX0 cX0_goesRound 3 3 66 k_X0_goesRound = true := by decide +kernel

set_option maxRecDepth 100000 in
set_option maxHeartbeats 1000000 in
theorem ok_X0_goesRound : s_Ok c_X0_goesRound := by
  refine s_ok_of k_X0_goesRound (by decide +kernel) sta_X0_goesRound ck_X0_goesRound (And.intro ok_X5_hasBit (And.intro ok_X0_followersOf (And.intro ok_X5_hasBit trivial))) ?_
  rintro vs L ⟨s, F, g, n, rfl, rfl, hn, hn8⟩
  refine ⟨rfl, fun G hG => ?_⟩
  have loop : ∀ (k i : Nat) (x : Int32), i + k = n → x = nI i → p_rd (F 4) (F 6) n g i = false → G 1 [some (.ref 0), some (.int g), some (.int x)] [] (bkW s F) := by
    intro k
    induction k with
    | zero =>
      intro i x hi hx ha
      refine hG 1 _ _ _ (And.intro (fun h2 => ?_) (fun h2 => ?_))
      · have h2 : x < s 1 := h2
        rw [hx, hn, nI_ltI (by omega) (by omega)] at h2; omega
      · refine And.intro (Or.inl rfl) ⟨rfl, ?_, fun _ => rfl⟩
        show some (Value.int 0) = some (Value.int (if p_rd (F 4) (F 6) (s 1).toNatClampNeg g (s 1).toNatClampNeg = true then 1 else 0))
        rw [hn, nI_clamp (by omega), ← show i = n by omega, if_neg (by rw [show i = n by omega] at ha ⊢; rw [ha]; exact fun q => by cases q)]
    | succ k ih =>
      intro i x hi hx ha
      refine hG 1 _ _ _ (And.intro (fun h2 => ?_) (fun h2 => ?_))
      · refine And.intro ⟨g, x, rfl⟩ ?_
        intro r hr
        obtain rfl : r = some (.int (p_hb g x)) := hr
        refine And.intro (fun h3 => ?_) (fun h3 => ?_)
        · exact ih (i + 1) _ (by omega) (by rw [hx, nI_1]) (by rw [p_rd, ha, ← hx, h3]; rfl)
        · refine And.intro (by rw [hx]; exact vp_in_nI (by omega) (by omega)) ?_
          refine And.intro ⟨s, F, _, n, rfl, rfl, hn, hn8⟩ ?_
          intro r hr
          obtain rfl : r = some (.int (p_ga (F 6) (s 1).toNatClampNeg (F 4 x.toNatClampNeg))) := hr
          refine And.intro ⟨_, x, rfl⟩ ?_
          intro r hr
          obtain rfl : r = some (.int (p_hb (p_ga (F 6) (s 1).toNatClampNeg (F 4 x.toNatClampNeg)) x)) := hr
          refine And.intro (fun h4 => ?_) (fun h4 => ?_)
          · have h4 : p_hb (p_ga (F 6) (s 1).toNatClampNeg (F 4 x.toNatClampNeg)) x = 0 := h4
            rw [hn, nI_clamp (by omega), hx, nI_clamp (by omega)] at h4
            exact ih (i + 1) _ (by omega) (by rw [hx, nI_1]) (by rw [p_rd, ha, h4]; simp)
          · have h4 : ¬ p_hb (p_ga (F 6) (s 1).toNatClampNeg (F 4 x.toNatClampNeg)) x = 0 := h4
            rw [hn, nI_clamp (by omega), hx, nI_clamp (by omega)] at h4
            refine And.intro (Or.inr rfl) ⟨rfl, ?_, fun _ => rfl⟩
            show some (Value.int 1) = some (Value.int (if p_rd (F 4) (F 6) (s 1).toNatClampNeg g (s 1).toNatClampNeg = true then 1 else 0))
            have h5 : p_rd (F 4) (F 6) n g (i + 1) = true := by
              rw [p_rd, ha]
              rw [hx] at h3
              simp [h3, h4]
            rw [hn, nI_clamp (by omega), if_pos (by have := p_rd_mono h5 k; rwa [show i + 1 + k = n by omega] at this)]
      · have h2 : ¬ x < s 1 := h2
        rw [hx, hn, nI_ltI (by omega) (by omega)] at h2; omega
  exact hG 0 _ _ _ (loop n 0 _ (by omega) nI_0.symm rfl)
/-- the ones seen as z, below k -/
def p_so (so : Nat → Int32) (sa z : Int32) : Nat → Int32
  | 0 => 0
  | k + 1 => if p_hb sa (nI k) = z then p_so so sa z k ||| ((1 : Int32) <<< (so k &&& 31)) else p_so so sa z k
def c_X0_seenOnes : sCtr := ((yX0_seenOnes, cX0_seenOnes, 4, (some .int)), (1, 1, 1, 21), true,
  bkfp,
  fun vs L => ∃ (s : Nat → Int32) (F : Nat → Nat → Int32) (z : Int32) (n : Nat), vs = [.ref 0, .int z] ∧ L = bkW s F ∧ s 18 = nI n ∧ n ≤ 8,
  fun vs L r _ => r = some (.int (p_so (bF L 9) (bS L 17) (vI vs 1) (bS L 18).toNatClampNeg)))
theorem sta_X0_seenOnes : s_Sta c_X0_seenOnes := ⟨⟨by decide +kernel, by decide +kernel, by decide +kernel⟩, List.mem_of_getElem? (i := 729) (by decide +kernel), List.mem_of_getElem? (i := 67) (by decide +kernel), ⟨List.mem_of_getElem? (i := 727) (by decide +kernel), List.mem_of_getElem? (i := 728) (by decide +kernel), Or.inl ⟨_, rfl, rfl⟩⟩⟩

def k_X0_seenOnes : List sBk := [
  (0, false, [true, true, false, false], [oK 0 (.iconst 0) (.int 0), o0 1 (.istore_n 2), oK 2 (.iconst 0) (.int 0), o0 3 (.istore_n 3), oN 4 .nop [1]]),
  (4, true, [true, true, true, true], [o0 4 (.iload_n 3), o0 5 (.aload_n 0), oN 6 (.getfield 71) [0, 18, 170], oN 9 (.if_icmp .ge 32) [3], o0 12 (.aload_n 0), oN 13 (.getfield 68) [0, 17, 168], o0 16 (.iload_n 3), oC 17 (.invokestatic 88) [0, 0] c_X5_hasBit, o0 20 (.iload_n 1), oN 21 (.if_icmp .ne 14) [2], o0 24 (.iload_n 2), oK 25 (.iconst 1) (.int 1), o0 26 (.aload_n 0), oN 27 (.getfield 36) [0, 16, 166], o0 30 (.iload_n 3), o0 31 .iaload, o0 32 .ishl, o0 33 .ior, o0 34 (.istore_n 2), oN 35 .nop [2]]),
  (35, false, [true, true, true, true], [oK 35 (.iinc 3 1) (.int 1), oN 38 (.goto (-34)) [1]]),
  (41, false, [false, false, true, false], [o0 41 (.iload_n 2), o0 42 .ireturn])]
set_option maxRecDepth 100000 in
theorem ck_X0_seenOnes : s_ck RX0 cX0_seenOnes 4 1 21 k_X0_seenOnes = true := by decide +kernel

set_option maxRecDepth 100000 in
set_option maxHeartbeats 1000000 in
theorem ok_X0_seenOnes : s_Ok c_X0_seenOnes := by
  refine s_ok_of k_X0_seenOnes (by decide +kernel) sta_X0_seenOnes ck_X0_seenOnes (And.intro ok_X5_hasBit trivial) ?_
  rintro vs L ⟨s, F, z, n, rfl, rfl, hn, hn8⟩
  refine ⟨rfl, fun G hG => ?_⟩
  have loop : ∀ (k i : Nat) (x a : Int32), i + k = n → x = nI i → a = p_so (F 9) (s 17) z i → G 1 [some (.ref 0), some (.int z), some (.int a), some (.int x)] [] (bkW s F) := by
    intro k
    induction k with
    | zero =>
      intro i x a hi hx ha
      refine hG 1 _ _ _ (And.intro (fun h2 => ?_) (fun h2 => ?_))
      · have h2 : x < s 18 := h2
        rw [hx, hn, nI_ltI (by omega) (by omega)] at h2; omega
      · refine ⟨rfl, ?_, fun _ => rfl⟩
        show some (Value.int a) = some (Value.int (p_so (F 9) (s 17) z (s 18).toNatClampNeg))
        rw [hn, nI_clamp (by omega), ha, show i = n by omega]
    | succ k ih =>
      intro i x a hi hx ha
      refine hG 1 _ _ _ (And.intro (fun h2 => ?_) (fun h2 => ?_))
      · refine And.intro ⟨s 17, x, rfl⟩ ?_
        intro r hr
        obtain rfl : r = some (.int (p_hb (s 17) x)) := hr
        refine And.intro (fun h3 => ?_) (fun h3 => ?_)
        · refine And.intro (by rw [hx]; exact vp_in_nI (by omega) (by omega)) ?_
          exact ih (i + 1) _ _ (by omega) (by rw [hx, nI_1]) (by rw [p_so, ← hx, if_pos h3, ha, hx, nI_clamp (by omega)])
        · exact ih (i + 1) _ _ (by omega) (by rw [hx, nI_1]) (by rw [p_so, ← hx, if_neg h3, ha])
      · have h2 : ¬ x < s 18 := h2
        rw [hx, hn, nI_ltI (by omega) (by omega)] at h2; omega
  exact hG 0 _ _ _ (loop n 0 _ _ (by omega) nI_0.symm rfl)
def p_in (y p : Int32) : Int32 := if p < 0 then 0 else if p < y then 1 else 0
def p_two (y w v : Int32) : Int32 := if p_in y w = 0 then 0 else if p_in y v = 0 then 0 else if w = v then 0 else 1
def c_X0_hasTwoWishes : sCtr := ((yX0_hasTwoWishes, cX0_hasTwoWishes, 3, (some .boolean)), (1, 2, 1, 21), true,
  fun vs _ => match vs with
    | .ref b :: _ => [b]
    | _ => [],
  fun vs L => ∃ (v0 : Value) (y w v : Int32) (rest : List Value), vs = [.ref 0, .int w, .int v] ∧ L = [.inr (.inr (0, v0 :: .int y :: rest))],
  fun vs L r _ => r = some (.int (p_two (bS L 1) (vI vs 1) (vI vs 2))))
theorem sta_X0_hasTwoWishes : s_Sta c_X0_hasTwoWishes := ⟨⟨by decide +kernel, by decide +kernel, by decide +kernel⟩, List.mem_of_getElem? (i := 542) (by decide +kernel), List.mem_of_getElem? (i := 67) (by decide +kernel), ⟨List.mem_of_getElem? (i := 540) (by decide +kernel), List.mem_of_getElem? (i := 541) (by decide +kernel), Or.inl ⟨_, rfl, rfl⟩⟩⟩

def k_X0_hasTwoWishes : List sBk := [
  (0, false, [true, true, true], [o0 0 (.aload_n 0), o0 1 (.iload_n 1), oC 2 (.invokevirtual 46) [543] c_X0_hasWish, oN 5 (.ifCond .eq 20) [1], o0 8 (.aload_n 0), o0 9 (.iload_n 2), oC 10 (.invokevirtual 46) [543] c_X0_hasWish, oN 13 (.ifCond .eq 12) [1], o0 16 (.iload_n 1), o0 17 (.iload_n 2), oN 18 (.if_icmp .eq 7) [1], oK 21 (.iconst 1) (.int 1), oN 22 (.goto 4) [2]]),
  (25, false, [false, false, false], [oK 25 (.iconst 0) (.int 0), oN 26 .nop [2]]),
  (26, false, [false, false, false], [o0 26 .ireturn])]
set_option maxRecDepth 100000 in
theorem ck_X0_hasTwoWishes : s_ck RX0 cX0_hasTwoWishes 3 1 21 k_X0_hasTwoWishes = true := by decide +kernel

set_option maxRecDepth 100000 in
set_option maxHeartbeats 1000000 in
theorem ok_X0_hasTwoWishes : s_Ok c_X0_hasTwoWishes := by
  refine s_ok_of k_X0_hasTwoWishes (by decide +kernel) sta_X0_hasTwoWishes ck_X0_hasTwoWishes (And.intro ok_X0_hasWish (And.intro ok_X0_hasWish trivial)) ?_
  rintro vs L ⟨v0, y, w, v, rest, rfl, rfl⟩
  refine ⟨rfl, fun G hG => ?_⟩
  have fin : ∀ a : Int32, a = 0 ∨ a = 1 → a = p_two y w v → (a = 0 ∨ a = 1) ∧ s_PP (some .boolean) true c_X0_hasTwoWishes.2.2.2.2.2 [.ref 0, .int w, .int v] [.inr (.inr (0, v0 :: .int y :: rest))] (some (.int a)) [.inr (.inr (0, v0 :: .int y :: rest))] := by
    intro a h01 ha
    exact ⟨h01, rfl, by rw [ha]; rfl, fun _ => rfl⟩
  refine hG 0 _ _ _ (And.intro ⟨_, _, _, _, rfl, rfl⟩ ?_)
  intro r hr
  obtain rfl : r = some (.int (p_in y w)) := hr
  refine And.intro (fun h => ?_) (fun h => ?_)
  · exact fin 0 (Or.inl rfl) (by rw [p_two, if_pos h])
  · refine And.intro ⟨_, _, _, _, rfl, rfl⟩ ?_
    intro r hr
    obtain rfl : r = some (.int (p_in y v)) := hr
    refine And.intro (fun h2 => ?_) (fun h2 => ?_)
    · exact fin 0 (Or.inl rfl) (by rw [p_two, if_neg h, if_pos h2])
    · refine And.intro (fun h3 => ?_) (fun h3 => ?_)
      · exact fin 0 (Or.inl rfl) (by rw [p_two, if_neg h, if_neg h2, if_pos h3])
      · exact fin 1 (Or.inr rfl) (by rw [p_two, if_neg h, if_neg h2, if_neg h3])
def c_X0_sets : sCtr := ((yX0_sets, cX0_sets, 1, (some .int)), (1, 0, 0, 0), true,
  fun vs _ => match vs with
    | .ref b :: _ => [b]
    | _ => [],
  fun vs L => ∃ (v0 : Value) (y : Int32) (rest : List Value), vs = [.ref 0] ∧ L = [.inr (.inr (0, v0 :: .int y :: rest))],
  fun _ L r _ => r = some (.int ((1 : Int32) <<< (bS L 1 &&& 31))))
theorem sta_X0_sets : s_Sta c_X0_sets := ⟨⟨by decide +kernel, by decide +kernel, by decide +kernel⟩, List.mem_of_getElem? (i := 607) (by decide +kernel), List.mem_of_getElem? (i := 67) (by decide +kernel), ⟨List.mem_of_getElem? (i := 605) (by decide +kernel), List.mem_of_getElem? (i := 606) (by decide +kernel), Or.inl ⟨_, rfl, rfl⟩⟩⟩

def k_X0_sets : List sBk := [
  (0, false, [true], [oK 0 (.iconst 1) (.int 1), o0 1 (.aload_n 0), oN 2 (.getfield 43) [0, 1, 119], o0 5 .ishl, o0 6 .ireturn])]
set_option maxRecDepth 100000 in
theorem ck_X0_sets : s_ck RX0 cX0_sets 1 0 0 k_X0_sets = true := by decide +kernel

set_option maxRecDepth 100000 in
set_option maxHeartbeats 1000000 in
theorem ok_X0_sets : s_Ok c_X0_sets := by
  refine s_ok_of k_X0_sets (by decide +kernel) sta_X0_sets ck_X0_sets trivial ?_
  rintro vs L ⟨v0, y, rest, rfl, rfl⟩
  refine ⟨rfl, fun G hG => ?_⟩
  exact hG 0 _ _ _ ⟨rfl, rfl, fun _ => rfl⟩
/-- a row filled below i -/
def p_fi (f g : Nat → Int32) (i : Nat) : Nat → Int32 := fun k => if k < i then f k else g k
theorem p_fi_0 (f g : Nat → Int32) : p_fi f g 0 = g := by funext k; simp [p_fi]
theorem p_fi_s (f g : Nat → Int32) (i : Nat) : upd (p_fi f g i) i (f i) = p_fi f g (i + 1) := by
  funext k
  unfold upd p_fi
  by_cases h : k = i
  · subst h; simp
  · by_cases h2 : k < i
    · simp [h, h2, show k < i + 1 by omega]
    · simp [h, h2, show ¬ k < i + 1 by omega]
theorem p_fi_in {f g : Nat → Int32} {i k : Nat} (h : k < i) : p_fi f g i k = f k := by simp [p_fi, h]
/-- what follows of each wish, as it is kept at hand -/
def p_fo (nd : Nat → Int32) (n : Nat) : Nat → Int32 := fun k => p_it nd n 0 ((1 : Int32) <<< (nI k &&& 31)) n
def p_wa (on nd : Nat → Int32) (n : Nat) : Nat → Int32 := fun k => p_ga on n (p_fo nd n k)
def c_X0_workOutFollowers : sCtr := ((yX0_workOutFollowers, cX0_workOutFollowers, 2, none), (1, 0, 3, 71), false,
  bkfp,
  fun vs L => ∃ (s : Nat → Int32) (F : Nat → Nat → Int32) (n : Nat), vs = [.ref 0] ∧ L = bkW s F ∧ s 1 = nI n ∧ n ≤ 8,
  fun _ L r L' => r = none ∧ L' = bkW (bS L) (va_up (va_up (bF L) 6 (p_fi (p_fo (bF L 4) (bS L 1).toNatClampNeg) (bF L 6) (bS L 1).toNatClampNeg)) 7 (p_fi (p_wa (bF L 3) (bF L 4) (bS L 1).toNatClampNeg) (bF L 7) (bS L 1).toNatClampNeg)))
theorem sta_X0_workOutFollowers : s_Sta c_X0_workOutFollowers := ⟨⟨by decide +kernel, by decide +kernel, by decide +kernel⟩, List.mem_of_getElem? (i := 476) (by decide +kernel), List.mem_of_getElem? (i := 67) (by decide +kernel), ⟨List.mem_of_getElem? (i := 474) (by decide +kernel), List.mem_of_getElem? (i := 475) (by decide +kernel), Or.inl ⟨_, rfl, rfl⟩⟩⟩

def k_X0_workOutFollowers : List sBk := [
  (0, false, [true, false], [oK 0 (.iconst 0) (.int 0), o0 1 (.istore_n 1), oN 2 .nop [1]]),
  (2, true, [true, true], [o0 2 (.iload_n 1), o0 3 (.aload_n 0), oN 4 (.getfield 43) [0, 1, 119], oN 7 (.if_icmp .ge 25) [2], o0 10 (.aload_n 0), oN 11 (.getfield 27) [0, 12, 154], o0 14 (.iload_n 1), o0 15 (.aload_n 0), o0 16 (.iload_n 1), oK 17 (.iconst 0) (.int 0), o0 18 (.aload_n 0), oN 19 (.getfield 43) [0, 1, 119], oC 22 (.invokevirtual 80) [477] c_X0_lookedAt, o0 25 .iastore, oK 26 (.iinc 1 1) (.int 1), oN 29 (.goto (-27)) [1]]),
  (32, false, [true, false], [oK 32 (.iconst 0) (.int 0), o0 33 (.istore_n 1), oN 34 .nop [3]]),
  (34, true, [true, true], [o0 34 (.iload_n 1), o0 35 (.aload_n 0), oN 36 (.getfield 43) [0, 1, 119], oN 39 (.if_icmp .ge 29) [4], o0 42 (.aload_n 0), oN 43 (.getfield 30) [0, 13, 157], o0 46 (.iload_n 1), o0 47 (.aload_n 0), o0 48 (.aload_n 0), oN 49 (.getfield 18) [0, 9, 145], o0 52 (.aload_n 0), oN 53 (.getfield 27) [0, 12, 154], o0 56 (.iload_n 1), o0 57 .iaload, oC 58 (.invokevirtual 84) [481] c_X0_gather, o0 61 .iastore, oK 62 (.iinc 1 1) (.int 1), oN 65 (.goto (-31)) [3]]),
  (68, false, [false, false], [o0 68 .return_])]
set_option maxRecDepth 100000 in
theorem ck_X0_workOutFollowers : s_ck RX0 cX0_workOutFollowers 2 3 71 k_X0_workOutFollowers = true := by decide +kernel

set_option maxRecDepth 100000 in
set_option maxHeartbeats 1000000 in
theorem ok_X0_workOutFollowers : s_Ok c_X0_workOutFollowers := by
  refine s_ok_of k_X0_workOutFollowers (by decide +kernel) sta_X0_workOutFollowers ck_X0_workOutFollowers (And.intro ok_X0_lookedAt (And.intro ok_X0_gather trivial)) ?_
  rintro vs L ⟨s, F, n, rfl, rfl, hn, hn8⟩
  refine ⟨rfl, fun G hG => ?_⟩
  have loop2 : ∀ (k i : Nat) (x : Int32) (f7 : Nat → Int32), i + k = n → x = nI i → f7 = p_fi (p_wa (F 3) (F 4) n) (F 7) i → G 3 [some (.ref 0), some (.int x)] [] (bkW s (va_up (va_up F 6 (p_fi (p_fo (F 4) n) (F 6) n)) 7 f7)) := by
    intro k
    induction k with
    | zero =>
      intro i x f7 hi hx hf
      refine hG 3 _ _ _ (And.intro (fun h2 => ?_) (fun h2 => ?_))
      · have h2 : x < s 1 := h2
        rw [hx, hn, nI_ltI (by omega) (by omega)] at h2; omega
      · refine ⟨rfl, ⟨rfl, ?_⟩, fun h => by cases h⟩
        show _ = bkW s (va_up (va_up F 6 (p_fi (p_fo (F 4) (s 1).toNatClampNeg) (F 6) (s 1).toNatClampNeg)) 7 (p_fi (p_wa (F 3) (F 4) (s 1).toNatClampNeg) (F 7) (s 1).toNatClampNeg))
        rw [hn, nI_clamp (by omega), hf, show i = n by omega]
    | succ k ih =>
      intro i x f7 hi hx hf
      refine hG 3 _ _ _ (And.intro (fun h2 => ?_) (fun h2 => ?_))
      · refine And.intro (by rw [hx]; exact vp_in_nI (by omega) (by omega)) ?_
        refine And.intro ⟨_, _, n, _, _, _, _, rfl, rfl, hn, hn8, Nat.le_refl _⟩ ?_
        intro r hr
        obtain rfl : r = some (.int (p_ga (F 3) (s 1).toNatClampNeg (p_fi (p_fo (F 4) n) (F 6) n x.toNatClampNeg))) := hr
        refine And.intro (by rw [hx]; exact vp_in_nI (by omega) (by omega)) ?_
        refine ih (i + 1) _ (upd f7 x.toNatClampNeg (p_ga (F 3) (s 1).toNatClampNeg (p_fi (p_fo (F 4) n) (F 6) n x.toNatClampNeg))) (by omega) (by rw [hx, nI_1]) ?_
        rw [hx, nI_clamp (by omega), hn, nI_clamp (by omega), p_fi_in (by omega), hf, ← p_fi_s]
        rfl
      · have h2 : ¬ x < s 1 := h2
        rw [hx, hn, nI_ltI (by omega) (by omega)] at h2; omega
  have loop1 : ∀ (k i : Nat) (x : Int32) (f6 : Nat → Int32), i + k = n → x = nI i → f6 = p_fi (p_fo (F 4) n) (F 6) i → G 1 [some (.ref 0), some (.int x)] [] (bkW s (va_up F 6 f6)) := by
    intro k
    induction k with
    | zero =>
      intro i x f6 hi hx hf
      refine hG 1 _ _ _ (And.intro (fun h2 => ?_) (fun h2 => ?_))
      · have h2 : x < s 1 := h2
        rw [hx, hn, nI_ltI (by omega) (by omega)] at h2; omega
      · have e1 : f6 = p_fi (p_fo (F 4) n) (F 6) n := by rw [hf, show i = n by omega]
        subst e1
        exact loop2 n 0 _ (F 7) (by omega) nI_0.symm (p_fi_0 _ _).symm
    | succ k ih =>
      intro i x f6 hi hx hf
      refine hG 1 _ _ _ (And.intro (fun h2 => ?_) (fun h2 => ?_))
      · refine And.intro ⟨s, va_up F 6 f6, x, 0, s 1, n, n, rfl, rfl, hn, hn8, hn, hn8⟩ ?_
        intro r hr
        obtain rfl : r = some (.int (p_it (F 4) (s 1).toNatClampNeg 0 ((1 : Int32) <<< (x &&& 31)) (s 1).toNatClampNeg)) := hr
        refine And.intro (by rw [hx]; exact vp_in_nI (by omega) (by omega)) ?_
        refine ih (i + 1) _ (upd f6 x.toNatClampNeg (p_it (F 4) (s 1).toNatClampNeg 0 ((1 : Int32) <<< (x &&& 31)) (s 1).toNatClampNeg)) (by omega) (by rw [hx, nI_1]) ?_
        rw [hx, nI_clamp (by omega), hn, nI_clamp (by omega), hf, ← p_fi_s]
        rfl
      · have h2 : ¬ x < s 1 := h2
        rw [hx, hn, nI_ltI (by omega) (by omega)] at h2; omega
  exact hG 0 _ _ _ (loop1 n 0 _ (F 6) (by omega) nI_0.symm (p_fi_0 _ _).symm)

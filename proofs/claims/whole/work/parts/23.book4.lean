/-! ===== Book: emptied, copied ===== -/
def c_X0_makeEmpty : sCtr := ((yX0_makeEmpty, cX0_makeEmpty, 2, none), (1, 0, 0, 0), false,
  bkfp,
  fun vs L => ∃ (s : Nat → Int32) (F : Nat → Nat → Int32), vs = [.ref 0] ∧ L = bkW s F,
  fun _ L r L' => r = none ∧ L' = bkW (fun _ => 0) (va_up (va_up (va_up (bF L) 3 (p_fi (fun _ => 0) (bF L 3) 8)) 4 (p_fi (fun _ => 0) (bF L 4) 8)) 5 (p_fi (fun _ => 0) (bF L 5) 8)))
theorem sta_X0_makeEmpty : s_Sta c_X0_makeEmpty := ⟨⟨by decide +kernel, by decide +kernel, by decide +kernel⟩, List.mem_of_getElem? (i := 348) (by decide +kernel), List.mem_of_getElem? (i := 67) (by decide +kernel), ⟨List.mem_of_getElem? (i := 346) (by decide +kernel), List.mem_of_getElem? (i := 347) (by decide +kernel), Or.inl ⟨_, rfl, rfl⟩⟩⟩

def k_X0_makeEmpty : List sBk := [
  (0, false, [true, false], [o0 0 (.aload_n 0), oK 1 (.iconst 0) (.int 0), oN 2 (.putfield 39) [0, 0, 115], o0 5 (.aload_n 0), oK 6 (.iconst 0) (.int 0), oN 7 (.putfield 43) [0, 1, 119], o0 10 (.aload_n 0), oK 11 (.iconst 0) (.int 0), oN 12 (.putfield 50) [0, 2, 122], o0 15 (.aload_n 0), oK 16 (.iconst 0) (.int 0), oN 17 (.putfield 53) [0, 3, 126], o0 20 (.aload_n 0), oK 21 (.iconst 0) (.int 0), oN 22 (.putfield 56) [0, 4, 129], o0 25 (.aload_n 0), oK 26 (.iconst 0) (.int 0), oN 27 (.putfield 59) [0, 5, 133], o0 30 (.aload_n 0), oK 31 (.iconst 0) (.int 0), oN 32 (.putfield 62) [0, 6, 135], o0 35 (.aload_n 0), oK 36 (.iconst 0) (.int 0), oN 37 (.putfield 65) [0, 15, 163], o0 40 (.aload_n 0), oK 41 (.iconst 0) (.int 0), oN 42 (.putfield 68) [0, 17, 168], o0 45 (.aload_n 0), oK 46 (.iconst 0) (.int 0), oN 47 (.putfield 71) [0, 18, 170], oK 50 (.iconst 0) (.int 0), o0 51 (.istore_n 1), oN 52 .nop [1]]),
  (52, true, [true, true], [o0 52 (.iload_n 1), oK 53 (.bipush 8) (.int 8), oN 55 (.if_icmp .ge 30) [2], o0 58 (.aload_n 0), oN 59 (.getfield 18) [0, 9, 145], o0 62 (.iload_n 1), oK 63 (.iconst 0) (.int 0), o0 64 .iastore, o0 65 (.aload_n 0), oN 66 (.getfield 21) [0, 10, 148], o0 69 (.iload_n 1), oK 70 (.iconst 0) (.int 0), o0 71 .iastore, o0 72 (.aload_n 0), oN 73 (.getfield 24) [0, 11, 151], o0 76 (.iload_n 1), oK 77 (.iconst 0) (.int 0), o0 78 .iastore, oK 79 (.iinc 1 1) (.int 1), oN 82 (.goto (-30)) [1]]),
  (85, false, [false, false], [o0 85 .return_])]
set_option maxRecDepth 100000 in
theorem ck_X0_makeEmpty : s_ck RX0 cX0_makeEmpty 2 0 0 k_X0_makeEmpty = true := by decide +kernel

set_option maxRecDepth 100000 in
set_option maxHeartbeats 1000000 in
theorem ok_X0_makeEmpty : s_Ok c_X0_makeEmpty := by
  refine s_ok_of k_X0_makeEmpty (by decide +kernel) sta_X0_makeEmpty ck_X0_makeEmpty trivial ?_
  rintro vs L ⟨s, F, rfl, rfl⟩
  refine ⟨rfl, fun G hG => ?_⟩
  have loop : ∀ (k i : Nat) (x : Int32) (f3 f4 f5 : Nat → Int32), i + k = 8 → x = nI i → f3 = p_fi (fun _ => 0) (F 3) i → f4 = p_fi (fun _ => 0) (F 4) i → f5 = p_fi (fun _ => 0) (F 5) i → G 1 [some (.ref 0), some (.int x)] [] (bkW (fun _ => 0) (va_up (va_up (va_up F 3 f3) 4 f4) 5 f5)) := by
    intro k
    induction k with
    | zero =>
      intro i x f3 f4 f5 hi hx h3 h4 h5
      refine hG 1 _ _ _ (And.intro (fun h2 => ?_) (fun h2 => ?_))
      · rw [hx, show (8 : Int32) = nI 8 from rfl, nI_ltI (by omega) (by omega)] at h2; omega
      · refine ⟨rfl, ⟨rfl, ?_⟩, fun h => by cases h⟩
        show _ = bkW (fun _ => 0) (va_up (va_up (va_up F 3 (p_fi (fun _ => 0) (F 3) 8)) 4 (p_fi (fun _ => 0) (F 4) 8)) 5 (p_fi (fun _ => 0) (F 5) 8))
        rw [h3, h4, h5, show i = 8 by omega]
    | succ k ih =>
      intro i x f3 f4 f5 hi hx h3 h4 h5
      have hin : vp_in x 8 := by rw [hx]; exact vp_in_nI (by omega) (by omega)
      refine hG 1 _ _ _ (And.intro (fun h2 => ?_) (fun h2 => ?_))
      · refine And.intro hin (And.intro hin (And.intro hin ?_))
        have hc : x.toNatClampNeg = i := by rw [hx, nI_clamp (by omega)]
        refine ih (i + 1) _ (upd f3 x.toNatClampNeg 0) (upd f4 x.toNatClampNeg 0) (upd f5 x.toNatClampNeg 0) (by omega) (by rw [hx, nI_1]) ?_ ?_ ?_
        · rw [hc, h3, ← p_fi_s]
        · rw [hc, h4, ← p_fi_s]
        · rw [hc, h5, ← p_fi_s]
      · rw [hx, show (8 : Int32) = nI 8 from rfl, nI_ltI (by omega) (by omega)] at h2; omega
  exact hG 0 _ _ _ (loop 8 0 _ (F 3) (F 4) (F 5) (by omega) nI_0.symm (p_fi_0 _ _).symm (p_fi_0 _ _).symm (p_fi_0 _ _).symm)
def bkV (s : Nat → Int32) (F : Nat → Nat → Int32) : sH := [.inr (.inr (0, [.int (s 0), .int (s 1), .int (s 2), .int (s 3), .int (s 4), .int (s 5), .int (s 6), .ref 11, .ref 12, .ref 13, .ref 14, .ref 15, .ref 16, .ref 17, .ref 18, .int (s 15), .ref 19, .int (s 17), .int (s 18)])), .inl (0, 8, F 1), .inl (0, 8, F 2), .inl (0, 8, F 3), .inl (0, 8, F 4), .inl (0, 8, F 5), .inl (0, 8, F 6), .inl (0, 8, F 7), .inl (0, 6, F 8), .inl (0, 8, F 9)]
/-- a field of the object at cell 10 -/
def bS2 (L : sH) (k : Nat) : Int32 := match s_nth L 10 with
  | some (.inr (.inr (_, fs))) => vI fs k
  | _ => 0
def p_cpB (F F2 : Nat → Nat → Int32) : Nat → Nat → Int32 := fun i => if i = 8 then va_cpy (F2 8) (F 8) 0 0 6 else va_cpy (F2 i) (F i) 0 0 8
def c_X0_copyFrom : sCtr := ((yX0_copyFrom, cX0_copyFrom, 2, none), (1, 1, 1, 44), false,
  fun vs L => match vs with
    | .ref b :: .ref o :: _ => bkP L b ++ bkP L o
    | _ => [],
  fun vs L => ∃ (s s2 : Nat → Int32) (F F2 : Nat → Nat → Int32), vs = [.ref 0, .ref 10] ∧ L = bkW s F ++ bkV s2 F2,
  fun _ L r L' => r = none ∧ L' = bkW (bS2 L) (p_cpB (bF L) (fun i => bF L (10 + i))) ++ bkV (bS2 L) (fun i => bF L (10 + i)))
theorem sta_X0_copyFrom : s_Sta c_X0_copyFrom := ⟨⟨by decide +kernel, by decide +kernel, by decide +kernel⟩, List.mem_of_getElem? (i := 762) (by decide +kernel), List.mem_of_getElem? (i := 67) (by decide +kernel), ⟨List.mem_of_getElem? (i := 760) (by decide +kernel), List.mem_of_getElem? (i := 761) (by decide +kernel), Or.inl ⟨_, rfl, rfl⟩⟩⟩

def k_X0_copyFrom : List sBk := [
  (0, false, [true, true], [o0 0 (.aload_n 0), o0 1 (.aload_n 1), oN 2 (.getfield 39) [0, 0, 115], oN 5 (.putfield 39) [0, 0, 115], o0 8 (.aload_n 0), o0 9 (.aload_n 1), oN 10 (.getfield 43) [0, 1, 119], oN 13 (.putfield 43) [0, 1, 119], o0 16 (.aload_n 0), o0 17 (.aload_n 1), oN 18 (.getfield 50) [0, 2, 122], oN 21 (.putfield 50) [0, 2, 122], o0 24 (.aload_n 0), o0 25 (.aload_n 1), oN 26 (.getfield 53) [0, 3, 126], oN 29 (.putfield 53) [0, 3, 126], o0 32 (.aload_n 0), o0 33 (.aload_n 1), oN 34 (.getfield 56) [0, 4, 129], oN 37 (.putfield 56) [0, 4, 129], o0 40 (.aload_n 0), o0 41 (.aload_n 1), oN 42 (.getfield 59) [0, 5, 133], oN 45 (.putfield 59) [0, 5, 133], o0 48 (.aload_n 0), o0 49 (.aload_n 1), oN 50 (.getfield 62) [0, 6, 135], oN 53 (.putfield 62) [0, 6, 135], o0 56 (.aload_n 0), o0 57 (.aload_n 1), oN 58 (.getfield 65) [0, 15, 163], oN 61 (.putfield 65) [0, 15, 163], o0 64 (.aload_n 0), o0 65 (.aload_n 1), oN 66 (.getfield 68) [0, 17, 168], oN 69 (.putfield 68) [0, 17, 168], o0 72 (.aload_n 0), o0 73 (.aload_n 1), oN 74 (.getfield 71) [0, 18, 170], oN 77 (.putfield 71) [0, 18, 170], o0 80 (.aload_n 1), oN 81 (.getfield 9) [0, 7, 138], oK 84 (.iconst 0) (.int 0), o0 85 (.aload_n 0), oN 86 (.getfield 9) [0, 7, 138], oK 89 (.iconst 0) (.int 0), oK 90 (.bipush 8) (.int 8), oN 92 (.invokestatic 74) [763], o0 95 (.aload_n 1), oN 96 (.getfield 15) [0, 8, 141], oK 99 (.iconst 0) (.int 0), o0 100 (.aload_n 0), oN 101 (.getfield 15) [0, 8, 141], oK 104 (.iconst 0) (.int 0), oK 105 (.bipush 8) (.int 8), oN 107 (.invokestatic 74) [763], o0 110 (.aload_n 1), oN 111 (.getfield 18) [0, 9, 145], oK 114 (.iconst 0) (.int 0), o0 115 (.aload_n 0), oN 116 (.getfield 18) [0, 9, 145], oK 119 (.iconst 0) (.int 0), oK 120 (.bipush 8) (.int 8), oN 122 (.invokestatic 74) [763], o0 125 (.aload_n 1), oN 126 (.getfield 21) [0, 10, 148], oK 129 (.iconst 0) (.int 0), o0 130 (.aload_n 0), oN 131 (.getfield 21) [0, 10, 148], oK 134 (.iconst 0) (.int 0), oK 135 (.bipush 8) (.int 8), oN 137 (.invokestatic 74) [763], o0 140 (.aload_n 1), oN 141 (.getfield 24) [0, 11, 151], oK 144 (.iconst 0) (.int 0), o0 145 (.aload_n 0), oN 146 (.getfield 24) [0, 11, 151], oK 149 (.iconst 0) (.int 0), oK 150 (.bipush 8) (.int 8), oN 152 (.invokestatic 74) [763], o0 155 (.aload_n 1), oN 156 (.getfield 27) [0, 12, 154], oK 159 (.iconst 0) (.int 0), o0 160 (.aload_n 0), oN 161 (.getfield 27) [0, 12, 154], oK 164 (.iconst 0) (.int 0), oK 165 (.bipush 8) (.int 8), oN 167 (.invokestatic 74) [763], o0 170 (.aload_n 1), oN 171 (.getfield 30) [0, 13, 157], oK 174 (.iconst 0) (.int 0), o0 175 (.aload_n 0), oN 176 (.getfield 30) [0, 13, 157], oK 179 (.iconst 0) (.int 0), oK 180 (.bipush 8) (.int 8), oN 182 (.invokestatic 74) [763], o0 185 (.aload_n 1), oN 186 (.getfield 33) [0, 14, 160], oK 189 (.iconst 0) (.int 0), o0 190 (.aload_n 0), oN 191 (.getfield 33) [0, 14, 160], oK 194 (.iconst 0) (.int 0), oK 195 (.bipush 6) (.int 6), oN 197 (.invokestatic 74) [763], o0 200 (.aload_n 1), oN 201 (.getfield 36) [0, 16, 166], oK 204 (.iconst 0) (.int 0), o0 205 (.aload_n 0), oN 206 (.getfield 36) [0, 16, 166], oK 209 (.iconst 0) (.int 0), oK 210 (.bipush 8) (.int 8), oN 212 (.invokestatic 74) [763], o0 215 .return_])]
set_option maxRecDepth 100000 in
theorem ck_X0_copyFrom : s_ck RX0 cX0_copyFrom 2 1 44 k_X0_copyFrom = true := by decide +kernel

set_option maxRecDepth 100000 in
set_option maxHeartbeats 1000000 in
theorem ok_X0_copyFrom : s_Ok c_X0_copyFrom := by
  refine s_ok_of k_X0_copyFrom (by decide +kernel) sta_X0_copyFrom ck_X0_copyFrom trivial ?_
  rintro vs L ⟨s, s2, F, F2, rfl, rfl⟩
  refine ⟨rfl, fun G hG => ?_⟩
  have z8 : ((¬ (0 : Int32) < 0) ∧ (¬ (0 : Int32) < 0) ∧ (¬ (8 : Int32) < 0) ∧ (0 : Int32).toNatClampNeg + (8 : Int32).toNatClampNeg ≤ 8 ∧ (0 : Int32).toNatClampNeg + (8 : Int32).toNatClampNeg ≤ 8) := by decide
  have z6 : ((¬ (0 : Int32) < 0) ∧ (¬ (0 : Int32) < 0) ∧ (¬ (6 : Int32) < 0) ∧ (0 : Int32).toNatClampNeg + (6 : Int32).toNatClampNeg ≤ 6 ∧ (0 : Int32).toNatClampNeg + (6 : Int32).toNatClampNeg ≤ 6) := by decide
  refine hG 0 _ _ _ ?_
  refine And.intro z8 (And.intro z8 (And.intro z8 (And.intro z8 (And.intro z8 (And.intro z8 (And.intro z8 (And.intro z6 (And.intro z8 ?_))))))))
  exact ⟨rfl, ⟨rfl, rfl⟩, fun h => by cases h⟩

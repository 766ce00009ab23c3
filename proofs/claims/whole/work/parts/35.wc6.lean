/-! ===== WishClerk: what fits, by a seed, odds ===== -/
def p_fit (wa : Nat → Int32) (n : Nat) (lv ml mn g : Int32) : Prop := ml &&& ((lv ||| p_ga wa n g) ^^^ (-1)) = 0 ∧ mn &&& (lv ||| p_ga wa n g) = 0
def p_fS (wa : Nat → Int32) (n : Nat) (lv ml mn g : Int32) (q : Int32 × Int32 × Int32 × Int32) : Int32 × Int32 × Int32 × Int32 :=
  if ml &&& ((lv ||| p_ga wa n g) ^^^ (-1)) = 0 ∧ mn &&& (lv ||| p_ga wa n g) = 0 then (q.1 + 1, (if q.2.1 < 0 then g else q.2.1), q.2.2.1 &&& g, q.2.2.2 ||| g) else q
def p_fs (wa : Nat → Int32) (n : Nat) (lv ml mn : Int32) : Nat → Int32 × Int32 × Int32 × Int32
  | 0 => (0, -4, ((1 : Int32) <<< (nI n &&& 31)) - 1, 0)
  | k + 1 => p_fS wa n lv ml mn (nI k) (p_fs wa n lv ml mn k)
def p_fq (s : Nat → Int32) (F : Nat → Nat → Int32) : Int32 × Int32 × Int32 × Int32 := p_fs (F 7) (s 1).toNatClampNeg (s 3) (p_so (F 9) (s 17) 1 (s 18).toNatClampNeg) (p_so (F 9) (s 17) 0 (s 18).toNatClampNeg) (2 ^ (s 1).toNatClampNeg)
def r_fits (s : Nat → Int32) (F : Nat → Nat → Int32) (z : Int32) : Int32 := if z < 0 then -1 else if 3 < z then -1 else if z = 0 then (p_fq s F).1 else if (p_fq s F).1 = 0 then (p_fq s F).2.1 else if z = 1 then (p_fq s F).2.1 else if z = 2 then (p_fq s F).2.2.1 else (((1 : Int32) <<< (s 1 &&& 31)) - 1) &&& ((p_fq s F).2.2.2 ^^^ (-1))
def c_X5_fits : sCtr := ((yX5_fits, cX5_fits, 10, (some .int)), (6, 1, 3, 66), true,
  w1fp,
  fun vs L => ∃ (x0 x1 x2 x3 x4 x5 : Nat) (y7 y8 y9 : Int32) (s : Nat → Int32) (F : Nat → Nat → Int32) (z : Int32) (n m : Nat), vs = [.ref 0, .int z] ∧ L = w1 x0 x1 x2 x3 x4 x5 y7 y8 y9 s F ∧ s 1 = nI n ∧ n ≤ 8 ∧ s 18 = nI m ∧ m ≤ 8,
  fun vs L r _ => r = some (.int (r_fits (oI L 1) (bG 1 L) (vI vs 1))))
theorem sta_X5_fits : s_Sta c_X5_fits := ⟨⟨by decide +kernel, by decide +kernel, by decide +kernel⟩, List.mem_of_getElem? (i := 725) (by decide +kernel), List.mem_of_getElem? (i := 64) (by decide +kernel), ⟨List.mem_of_getElem? (i := 723) (by decide +kernel), List.mem_of_getElem? (i := 724) (by decide +kernel), Or.inl ⟨_, rfl, rfl⟩⟩⟩

def k_X5_fits : List sBk := [
  (0, false, [true, true, false, false, false, false, false, false, false, false], [o0 0 (.iload_n 1), oN 1 (.ifCond .lt 8) [1], o0 4 (.iload_n 1), oK 5 (.iconst 3) (.int 3), oN 6 (.if_icmp .le 5) [2], oN 9 .nop [1]]),
  (9, false, [false, false, false, false, false, false, false, false, false, false], [oK 9 (.iconst (-1)) (.int (-1)), o0 10 .ireturn]),
  (11, false, [true, true, false, false, false, false, false, false, false, false], [oK 11 (.iconst 0) (.int 0), o0 12 (.istore_n 2), oK 13 (.bipush (-4)) (.int (-4)), o0 15 (.istore_n 3), o0 16 (.aload_n 0), oN 17 (.getfield 49) [5, 6, 304], oC 20 (.invokevirtual 194) [662] c_X0_sets, oK 23 (.iconst 1) (.int 1), o0 24 .isub, o0 25 (.istore 4), oK 27 (.iconst 0) (.int 0), o0 28 (.istore 5), o0 30 (.aload_n 0), oN 31 (.getfield 49) [5, 6, 304], oK 34 (.iconst 1) (.int 1), oC 35 (.invokevirtual 229) [726] c_X0_seenOnes, o0 38 (.istore 6), o0 40 (.aload_n 0), oN 41 (.getfield 49) [5, 6, 304], oK 44 (.iconst 0) (.int 0), oC 45 (.invokevirtual 229) [726] c_X0_seenOnes, o0 48 (.istore 7), oK 50 (.iconst 0) (.int 0), o0 51 (.istore 8), oN 53 .nop [3]]),
  (53, true, [true, true, true, true, true, true, true, true, true, false], [o0 53 (.iload 8), o0 55 (.aload_n 0), oN 56 (.getfield 49) [5, 6, 304], oC 59 (.invokevirtual 194) [662] c_X0_sets, oN 62 (.if_icmp .ge 74) [7], o0 65 (.aload_n 0), oN 66 (.getfield 49) [5, 6, 304], oN 69 (.getfield 88) [0, 3, 127], o0 72 (.aload_n 0), oN 73 (.getfield 49) [5, 6, 304], o0 76 (.iload 8), oC 78 (.invokevirtual 233) [730] c_X0_wantedBy, o0 81 .ior, o0 82 (.istore 9), o0 84 (.iload 6), o0 86 (.iload 9), oK 88 (.iconst (-1)) (.int (-1)), o0 89 .ixor, o0 90 .iand, oN 91 (.ifCond .ne 39) [6], o0 94 (.iload 7), o0 96 (.iload 9), o0 98 .iand, oN 99 (.ifCond .ne 31) [6], oK 102 (.iinc 2 1) (.int 1), o0 105 (.iload_n 3), oN 106 (.ifCond .ge 8) [4], o0 109 (.iload 8), oN 111 (.goto 4) [5]]),
  (114, false, [true, true, true, true, true, true, true, true, true, false], [o0 114 (.iload_n 3), oN 115 .nop [5]]),
  (115, false, [true, true, true, false, true, true, true, true, true, false], [o0 115 (.istore_n 3), o0 116 (.iload 4), o0 118 (.iload 8), o0 120 .iand, o0 121 (.istore 4), o0 123 (.iload 5), o0 125 (.iload 8), o0 127 .ior, o0 128 (.istore 5), oN 130 .nop [6]]),
  (130, false, [true, true, true, true, true, true, true, true, true, false], [oK 130 (.iinc 8 1) (.int 1), oN 133 (.goto (-80)) [3]]),
  (136, false, [true, true, true, true, true, true, false, false, false, false], [o0 136 (.iload_n 1), oN 137 (.ifCond .ne 5) [8], o0 140 (.iload_n 2), o0 141 .ireturn]),
  (142, false, [true, true, true, true, true, true, false, false, false, false], [o0 142 (.iload_n 2), oN 143 (.ifCond .eq 8) [9], o0 146 (.iload_n 1), oK 147 (.iconst 1) (.int 1), oN 148 (.if_icmp .ne 5) [10], oN 151 .nop [9]]),
  (151, false, [false, false, false, true, false, false, false, false, false, false], [o0 151 (.iload_n 3), o0 152 .ireturn]),
  (153, false, [true, true, false, false, true, true, false, false, false, false], [o0 153 (.iload_n 1), oK 154 (.iconst 2) (.int 2), oN 155 (.if_icmp .ne 8) [11], o0 158 (.iload 4), oN 160 (.goto 17) [12]]),
  (163, false, [true, false, false, false, false, true, false, false, false, false], [o0 163 (.aload_n 0), oN 164 (.getfield 49) [5, 6, 304], oC 167 (.invokevirtual 194) [662] c_X0_sets, oK 170 (.iconst 1) (.int 1), o0 171 .isub, o0 172 (.iload 5), oK 174 (.iconst (-1)) (.int (-1)), o0 175 .ixor, o0 176 .iand, oN 177 .nop [12]]),
  (177, false, [false, false, false, false, false, false, false, false, false, false], [o0 177 .ireturn])]
set_option maxRecDepth 100000 in
theorem ck_X5_fits : s_ck RX5 cX5_fits 10 3 66 k_X5_fits = true := by decide +kernel

set_option maxRecDepth 100000 in
set_option maxHeartbeats 1000000 in
theorem ok_X5_fits : s_Ok c_X5_fits := by
  refine s_ok_of k_X5_fits (by decide +kernel) sta_X5_fits ck_X5_fits (And.intro ok_X0_sets (And.intro ok_X0_seenOnes (And.intro ok_X0_seenOnes (And.intro ok_X0_sets (And.intro ok_X0_wantedBy (And.intro ok_X0_sets trivial)))))) ?_
  rintro vs L ⟨x0, x1, x2, x3, x4, x5, y7, y8, y9, s, F, z, n, m, rfl, rfl, hn, hn8, hm, hm8⟩
  refine ⟨rfl, fun G hG => ?_⟩
  have h28 := p_2le n hn8
  have e : (s 1).toNatClampNeg = n := by rw [hn, nI_clamp (by omega)]
  have fin : ∀ a : Int32, a = r_fits s F z → s_PP (some .int) true c_X5_fits.2.2.2.2.2 [.ref 0, .int z] (w1 x0 x1 x2 x3 x4 x5 y7 y8 y9 s F) (some (.int a)) (w1 x0 x1 x2 x3 x4 x5 y7 y8 y9 s F) := fun a ha => ⟨rfl, by rw [ha]; rfl, fun _ => rfl⟩
  refine hG 0 _ _ _ (And.intro (fun h => ?_) (fun h => ?_))
  · exact fin _ (by rw [r_fits, if_pos h])
  · refine And.intro (fun h2 => ?_) (fun h2 => ?_)
    · exact fin _ (by rw [r_fits, if_neg h, if_pos h2])
    · have h1 : ∀ r, r = r_fits s F z ↔ r = (if z = 0 then (p_fq s F).1 else if (p_fq s F).1 = 0 then (p_fq s F).2.1 else if z = 1 then (p_fq s F).2.1 else if z = 2 then (p_fq s F).2.2.1 else (((1 : Int32) <<< (s 1 &&& 31)) - 1) &&& ((p_fq s F).2.2.2 ^^^ (-1))) := fun r => by rw [r_fits, if_neg h, if_neg h2]
      obtain ⟨ml, hml⟩ : ∃ ml, ml = p_so (F 9) (s 17) 1 (s 18).toNatClampNeg := ⟨_, rfl⟩
      obtain ⟨mn, hmn⟩ : ∃ mn, mn = p_so (F 9) (s 17) 0 (s 18).toNatClampNeg := ⟨_, rfl⟩
      have loop : ∀ (k i : Nat) (x a1 a2 a3 a4 : Int32), i + k = 2 ^ n → x = nI i → (a1, a2, a3, a4) = p_fs (F 7) n (s 3) ml mn i → G 3 [some (.ref 0), some (.int z), some (.int a1), some (.int a2), some (.int a3), some (.int a4), some (.int ml), some (.int mn), some (.int x), none] [] (w1 x0 x1 x2 x3 x4 x5 y7 y8 y9 s F) := by
        intro k
        induction k with
        | zero =>
          intro i x a1 a2 a3 a4 hi hx ha
          refine hG 3 _ _ _ (And.intro ⟨_, _, _, rfl, rfl⟩ ?_)
          intro r hr
          obtain rfl : r = some (.int ((1 : Int32) <<< (s 1 &&& 31))) := hr
          have hq : (a1, a2, a3, a4) = p_fq s F := by rw [ha, p_fq, e, ← hml, ← hmn, show i = 2 ^ n by omega]
          have q1 : a1 = (p_fq s F).1 := by rw [← hq]
          have q2 : a2 = (p_fq s F).2.1 := by rw [← hq]
          have q3 : a3 = (p_fq s F).2.2.1 := by rw [← hq]
          have q4 : a4 = (p_fq s F).2.2.2 := by rw [← hq]
          refine And.intro (fun h3 => ?_) (fun h3 => ?_)
          · have h3 : x < (1 : Int32) <<< (s 1 &&& 31) := h3
            rw [hx, hn, p_2n n (by omega), nI_ltI (by omega) (by omega)] at h3; omega
          · refine And.intro (fun h4 => ?_) (fun h4 => ?_)
            · exact fin _ ((h1 _).mpr (by rw [if_pos h4, q1]))
            · refine And.intro (fun h5 => ?_) (fun h5 => ?_)
              · exact fin _ ((h1 _).mpr (by rw [if_neg h4, if_pos (by rw [← q1]; exact h5), q2]))
              · have h5' : ¬ (p_fq s F).1 = 0 := by rw [← q1]; exact h5
                refine And.intro (fun h6 => ?_) (fun h6 => ?_)
                · exact fin _ ((h1 _).mpr (by rw [if_neg h4, if_neg h5', if_pos h6, q2]))
                · refine And.intro (fun h7 => ?_) (fun h7 => ?_)
                  · exact fin _ ((h1 _).mpr (by rw [if_neg h4, if_neg h5', if_neg h6, if_pos h7, q3]))
                  · refine And.intro ⟨_, _, _, rfl, rfl⟩ ?_
                    intro r hr
                    obtain rfl : r = some (.int ((1 : Int32) <<< (s 1 &&& 31))) := hr
                    exact fin _ ((h1 _).mpr (by rw [if_neg h4, if_neg h5', if_neg h6, if_neg h7, q4]))
        | succ k ih =>
          intro i x a1 a2 a3 a4 hi hx ha
          refine hG 3 _ _ _ (And.intro ⟨_, _, _, rfl, rfl⟩ ?_)
          intro r hr
          obtain rfl : r = some (.int ((1 : Int32) <<< (s 1 &&& 31))) := hr
          have next : ∀ b1 b2 b3 b4 : Int32, (b1, b2, b3, b4) = p_fS (F 7) n (s 3) ml mn x (a1, a2, a3, a4) → G 3 [some (.ref 0), some (.int z), some (.int b1), some (.int b2), some (.int b3), some (.int b4), some (.int ml), some (.int mn), some (.int (x + 1)), none] [] (w1 x0 x1 x2 x3 x4 x5 y7 y8 y9 s F) := fun b1 b2 b3 b4 hb => ih (i + 1) _ _ _ _ _ (by omega) (by rw [hx, nI_1]) (by rw [hb, p_fs, ← ha, ← hx])
          refine And.intro (fun h3 => ?_) (fun h3 => ?_)
          · refine And.intro ⟨s, F, x, n, rfl, rfl, hn, hn8⟩ ?_
            intro r hr
            obtain ⟨al, hal⟩ : ∃ al, al = p_ga (F 7) n x := ⟨_, rfl⟩
            obtain rfl : r = some (.int al) := by rw [hal, ← e]; exact hr
            refine And.intro (fun h4 => ?_) (fun h4 => ?_)
            · refine And.intro (fun h5 => ?_) (fun h5 => ?_)
              · refine And.intro (fun h6 => ?_) (fun h6 => ?_)
                · exact next _ _ _ _ (by rw [p_fS, ← hal, if_pos ⟨h4, h5⟩, if_pos h6])
                · exact next _ _ _ _ (by rw [p_fS, ← hal, if_pos ⟨h4, h5⟩, if_neg h6])
              · exact next _ _ _ _ (by rw [p_fS, ← hal, if_neg (fun q => h5 q.2)])
            · exact next _ _ _ _ (by rw [p_fS, ← hal, if_neg (fun q => h4 q.1)])
          · have h3 : ¬ x < (1 : Int32) <<< (s 1 &&& 31) := h3
            rw [hx, hn, p_2n n (by omega), nI_ltI (by omega) (by omega)] at h3; omega
      refine And.intro ⟨_, _, _, rfl, rfl⟩ ?_
      intro r hr
      obtain rfl : r = some (.int ((1 : Int32) <<< (s 1 &&& 31))) := hr
      refine And.intro ⟨s, F, 1, m, rfl, rfl, hm, hm8⟩ ?_
      intro r hr
      obtain rfl : r = some (.int ml) := by rw [hml]; exact hr
      refine And.intro ⟨s, F, 0, m, rfl, rfl, hm, hm8⟩ ?_
      intro r hr
      obtain rfl : r = some (.int mn) := by rw [hmn]; exact hr
      exact loop (2 ^ n) 0 _ _ _ _ _ (by omega) nI_0.symm (by rw [p_fs, ← hn])
/-- the weight of a plan with these asleep -/
def p_wt (v m : Int32) : Nat → Int64
  | 0 => 1
  | k + 1 => if p_hb m (nI k) = 0 then p_wt v m k * (10 - v).toInt64 else p_wt v m k * v.toInt64
def c_X5_weightOf : sCtr := ((yX5_weightOf, cX5_weightOf, 6, (some .long)), (6, 2, 1, 21), true,
  w1fp,
  fun vs L => ∃ (x0 x1 x2 x3 x4 x5 : Nat) (y7 y8 y9 : Int32) (s : Nat → Int32) (F : Nat → Nat → Int32) (m v : Int32) (n : Nat), vs = [.ref 0, .int m, .int v] ∧ L = w1 x0 x1 x2 x3 x4 x5 y7 y8 y9 s F ∧ s 15 = nI n ∧ n ≤ 6,
  fun vs L r _ => r = some (.long (p_wt (vI vs 2) (vI vs 1) (oI L 1 15).toNatClampNeg)))
theorem sta_X5_weightOf : s_Sta c_X5_weightOf := ⟨⟨by decide +kernel, by decide +kernel, by decide +kernel⟩, List.mem_of_getElem? (i := 742) (by decide +kernel), List.mem_of_getElem? (i := 64) (by decide +kernel), ⟨List.mem_of_getElem? (i := 741) (by decide +kernel), List.mem_of_getElem? (i := 25) (by decide +kernel), Or.inl ⟨_, rfl, rfl⟩⟩⟩

def k_X5_weightOf : List sBk := [
  (0, false, [true, true, true, false, false, false], [oK 0 (.lconst 1) (.long 1), o0 1 (.lstore_n 3), oK 2 (.iconst 0) (.int 0), o0 3 (.istore 5), oN 5 .nop [1]]),
  (5, true, [true, true, true, true, false, true], [o0 5 (.iload 5), o0 7 (.aload_n 0), oN 8 (.getfield 49) [5, 6, 304], oN 11 (.getfield 100) [0, 15, 164], oN 14 (.if_icmp .ge 31) [4], o0 17 (.lload_n 3), o0 18 (.iload_n 1), o0 19 (.iload 5), oC 21 (.invokestatic 157) [573] c_X5_hasBit, oN 24 (.ifCond .eq 8) [2], o0 27 (.iload_n 2), o0 28 .i2l, oN 29 (.goto 8) [3]]),
  (32, false, [true, true, true, false, false, true], [oK 32 (.bipush 10) (.int 10), o0 34 (.iload_n 2), o0 35 .isub, o0 36 .i2l, oN 37 .nop [3]]),
  (37, false, [true, true, true, false, false, true], [o0 37 .lmul, o0 38 (.lstore_n 3), oK 39 (.iinc 5 1) (.int 1), oN 42 (.goto (-37)) [1]]),
  (45, false, [false, false, false, true, false, false], [o0 45 (.lload_n 3), o0 46 .lreturn])]
set_option maxRecDepth 100000 in
theorem ck_X5_weightOf : s_ck RX5 cX5_weightOf 6 1 21 k_X5_weightOf = true := by decide +kernel

set_option maxRecDepth 100000 in
set_option maxHeartbeats 1000000 in
theorem ok_X5_weightOf : s_Ok c_X5_weightOf := by
  refine s_ok_of k_X5_weightOf (by decide +kernel) sta_X5_weightOf ck_X5_weightOf (And.intro ok_X5_hasBit trivial) ?_
  rintro vs L ⟨x0, x1, x2, x3, x4, x5, y7, y8, y9, s, F, m, v, n, rfl, rfl, hn, hn8⟩
  refine ⟨rfl, fun G hG => ?_⟩
  have loop : ∀ (k i : Nat) (x : Int32) (a : Int64), i + k = n → x = nI i → a = p_wt v m i → G 1 [some (.ref 0), some (.int m), some (.int v), some (.long a), none, some (.int x)] [] (w1 x0 x1 x2 x3 x4 x5 y7 y8 y9 s F) := by
    intro k
    induction k with
    | zero =>
      intro i x a hi hx ha
      refine hG 1 _ _ _ (And.intro (fun h2 => ?_) (fun h2 => ?_))
      · have h2 : x < s 15 := h2
        rw [hx, hn, nI_ltI (by omega) (by omega)] at h2; omega
      · refine ⟨rfl, ?_, fun _ => rfl⟩
        show some (Value.long a) = some (Value.long (p_wt v m (s 15).toNatClampNeg))
        rw [hn, nI_clamp (by omega), ha, show i = n by omega]
    | succ k ih =>
      intro i x a hi hx ha
      refine hG 1 _ _ _ (And.intro (fun h2 => ?_) (fun h2 => ?_))
      · refine And.intro ⟨_, _, rfl⟩ ?_
        intro r hr
        obtain rfl : r = some (.int (p_hb m x)) := hr
        refine And.intro (fun h3 => ?_) (fun h3 => ?_)
        · exact ih (i + 1) _ _ (by omega) (by rw [hx, nI_1]) (by rw [p_wt, ← hx, if_pos h3, ha])
        · exact ih (i + 1) _ _ (by omega) (by rw [hx, nI_1]) (by rw [p_wt, ← hx, if_neg h3, ha])
      · have h2 : ¬ x < s 15 := h2
        rw [hx, hn, nI_ltI (by omega) (by omega)] at h2; omega
  exact hG 0 _ _ _ (loop n 0 _ _ (by omega) nI_0.symm rfl)
/-- one wish of the plan asked, the clerk asleep by m's bit; what holds and who lives -/
def p_aS (on nd cl fo wa pw : Nat → Int32) (n : Nat) (li ba : Int32) (d : Nat) (m : Int32) (i : Nat) (q : Int32 × Int32) : Int32 × Int32 :=
  if p_hb q.1 (pw i) = 0 then
    (if p_hb m (nI i) = 0 then (if p_re on nd cl n li ba (pw i) q.1 q.2 d = 0 then (q.1 ||| fo (pw i).toNatClampNeg, q.2 ||| wa (pw i).toNatClampNeg) else q) else (q.1 ||| fo (pw i).toNatClampNeg, q.2 ||| wa (pw i).toNatClampNeg))
  else q
def p_apR (on nd cl fo wa pw : Nat → Int32) (n : Nat) (li ba : Int32) (d : Nat) (h l m : Int32) : Nat → Int32 × Int32
  | 0 => (h, l)
  | k + 1 => p_aS on nd cl fo wa pw n li ba d m k (p_apR on nd cl fo wa pw n li ba d h l m k)
def p_ap (s : Nat → Int32) (F : Nat → Nat → Int32) (m : Int32) (k : Nat) : Int32 × Int32 := p_apR (F 3) (F 4) (F 5) (F 6) (F 7) (F 8) (s 1).toNatClampNeg (s 6) (s 4) (s 2).toNatClampNeg (s 5) (s 3) m k
def p_aB (s : Nat → Int32) (F : Nat → Nat → Int32) (m : Int32) (i : Nat) (q : Int32 × Int32) : Int32 × Int32 := p_aS (F 3) (F 4) (F 5) (F 6) (F 7) (F 8) (s 1).toNatClampNeg (s 6) (s 4) (s 2).toNatClampNeg m i q
def c_X5_aliveAfterPlan : sCtr := ((yX5_aliveAfterPlan, cX5_aliveAfterPlan, 6, (some .int)), (6, 1, 4, 96), true,
  w1fp,
  fun vs L => ∃ (x0 x1 x2 x3 x4 x5 : Nat) (y7 y8 y9 : Int32) (s : Nat → Int32) (F : Nat → Nat → Int32) (m : Int32) (n pl d : Nat), vs = [.ref 0, .int m] ∧ L = w1 x0 x1 x2 x3 x4 x5 y7 y8 y9 s F ∧ s 15 = nI pl ∧ pl ≤ 6 ∧ s 1 = nI n ∧ n ≤ 8 ∧ s 2 = nI d ∧ d ≤ 8 ∧ ∀ i, i < pl → ∃ j, j < n ∧ F 8 i = nI j,
  fun vs L r _ => r = some (.int (p_ap (oI L 1) (bG 1 L) (vI vs 1) (oI L 1 15).toNatClampNeg).2))
theorem sta_X5_aliveAfterPlan : s_Sta c_X5_aliveAfterPlan := ⟨⟨by decide +kernel, by decide +kernel, by decide +kernel⟩, List.mem_of_getElem? (i := 746) (by decide +kernel), List.mem_of_getElem? (i := 64) (by decide +kernel), ⟨List.mem_of_getElem? (i := 745) (by decide +kernel), List.mem_of_getElem? (i := 26) (by decide +kernel), Or.inl ⟨_, rfl, rfl⟩⟩⟩

def k_X5_aliveAfterPlan : List sBk := [
  (0, false, [true, true, false, false, false, false], [o0 0 (.aload_n 0), oN 1 (.getfield 49) [5, 6, 304], oN 4 (.getfield 94) [0, 5, 134], o0 7 (.istore_n 2), o0 8 (.aload_n 0), oN 9 (.getfield 49) [5, 6, 304], oN 12 (.getfield 88) [0, 3, 127], o0 15 (.istore_n 3), oK 16 (.iconst 0) (.int 0), o0 17 (.istore 4), oN 19 .nop [1]]),
  (19, true, [true, true, true, true, true, false], [o0 19 (.iload 4), o0 21 (.aload_n 0), oN 22 (.getfield 49) [5, 6, 304], oN 25 (.getfield 100) [0, 15, 164], oN 28 (.if_icmp .ge 89) [5], o0 31 (.aload_n 0), oN 32 (.getfield 49) [5, 6, 304], oN 35 (.getfield 128) [0, 14, 161], o0 38 (.iload 4), o0 40 .iaload, o0 41 (.istore 5), o0 43 (.iload_n 2), o0 44 (.iload 5), oC 46 (.invokestatic 157) [573] c_X5_hasBit, oN 49 (.ifCond .eq 6) [2], oN 52 (.goto 59) [4]]),
  (55, false, [true, true, true, true, true, true], [o0 55 (.iload_n 1), o0 56 (.iload 4), oC 58 (.invokestatic 157) [573] c_X5_hasBit, oN 61 (.ifCond .ne 24) [3], o0 64 (.aload_n 0), oN 65 (.getfield 49) [5, 6, 304], o0 68 (.iload 5), o0 70 (.iload_n 2), o0 71 (.iload_n 3), o0 72 (.aload_n 0), oN 73 (.getfield 49) [5, 6, 304], oN 76 (.getfield 85) [0, 2, 123], oC 79 (.invokevirtual 153) [565] c_X0_refusal, oN 82 (.ifCond .ne 29) [4], oN 85 .nop [3]]),
  (85, false, [true, true, true, true, true, true], [o0 85 (.iload_n 2), o0 86 (.aload_n 0), oN 87 (.getfield 49) [5, 6, 304], oN 90 (.getfield 122) [0, 12, 156], o0 93 (.iload 5), o0 95 .iaload, o0 96 .ior, o0 97 (.istore_n 2), o0 98 (.iload_n 3), o0 99 (.aload_n 0), oN 100 (.getfield 49) [5, 6, 304], oN 103 (.getfield 125) [0, 13, 159], o0 106 (.iload 5), o0 108 .iaload, o0 109 .ior, o0 110 (.istore_n 3), oN 111 .nop [4]]),
  (111, false, [true, true, true, true, true, false], [oK 111 (.iinc 4 1) (.int 1), oN 114 (.goto (-95)) [1]]),
  (117, false, [false, false, false, true, false, false], [o0 117 (.iload_n 3), o0 118 .ireturn])]
set_option maxRecDepth 100000 in
theorem ck_X5_aliveAfterPlan : s_ck RX5 cX5_aliveAfterPlan 6 4 96 k_X5_aliveAfterPlan = true := by decide +kernel

set_option maxRecDepth 100000 in
set_option maxHeartbeats 1000000 in
theorem ok_X5_aliveAfterPlan : s_Ok c_X5_aliveAfterPlan := by
  refine s_ok_of k_X5_aliveAfterPlan (by decide +kernel) sta_X5_aliveAfterPlan ck_X5_aliveAfterPlan (And.intro ok_X5_hasBit (And.intro ok_X5_hasBit (And.intro ok_X0_refusal trivial))) ?_
  rintro vs L ⟨x0, x1, x2, x3, x4, x5, y7, y8, y9, s, F, m, n, pl, d, rfl, rfl, hpl, hpl6, hn, hn8, hd, hd8, hF⟩
  refine ⟨rfl, fun G hG => ?_⟩
  have loop : ∀ (k i : Nat) (x a b : Int32), i + k = pl → x = nI i → (a, b) = p_ap s F m i → G 1 [some (.ref 0), some (.int m), some (.int a), some (.int b), some (.int x), none] [] (w1 x0 x1 x2 x3 x4 x5 y7 y8 y9 s F) := by
    intro k
    induction k with
    | zero =>
      intro i x a b hi hx ha
      refine hG 1 _ _ _ (And.intro (fun h2 => ?_) (fun h2 => ?_))
      · have h2 : x < s 15 := h2
        rw [hx, hpl, nI_ltI (by omega) (by omega)] at h2; omega
      · refine ⟨rfl, ?_, fun _ => rfl⟩
        show some (Value.int b) = some (Value.int (p_ap s F m (s 15).toNatClampNeg).2)
        rw [hpl, nI_clamp (by omega), ← show i = pl by omega, ← ha]
    | succ k ih =>
      intro i x a b hi hx ha
      have hc : x.toNatClampNeg = i := by rw [hx, nI_clamp (by omega)]
      have hi6 : vp_in x 6 := by rw [hx]; exact vp_in_nI (by omega) (by omega)
      obtain ⟨j, hj, hFj⟩ := hF i (by omega)
      have hw : vp_in (F 8 x.toNatClampNeg) 8 := by rw [hc, hFj]; exact vp_in_nI (by omega) (by omega)
      have next : ∀ b1 b2 : Int32, (b1, b2) = p_aB s F m i (a, b) → G 1 [some (.ref 0), some (.int m), some (.int b1), some (.int b2), some (.int (x + 1)), none] [] (w1 x0 x1 x2 x3 x4 x5 y7 y8 y9 s F) := fun b1 b2 hb => ih (i + 1) _ _ _ (by omega) (by rw [hx, nI_1]) (by rw [hb, ha]; rfl)
      refine hG 1 _ _ _ (And.intro (fun h2 => ?_) (fun h2 => ?_))
      · refine And.intro hi6 (And.intro ⟨_, _, rfl⟩ ?_)
        intro r hr
        obtain rfl : r = some (.int (p_hb a (F 8 x.toNatClampNeg))) := hr
        refine And.intro (fun h3 => ?_) (fun h3 => ?_)
        · have h3 : p_hb a (F 8 x.toNatClampNeg) = 0 := h3
          rw [hc] at h3
          refine And.intro ⟨_, _, rfl⟩ ?_
          intro r hr
          obtain rfl : r = some (.int (p_hb m x)) := hr
          refine And.intro (fun h4 => ?_) (fun h4 => ?_)
          · have h4 : p_hb m x = 0 := h4
            rw [hx] at h4
            refine And.intro ⟨s, F, _, _, _, _, n, d, rfl, rfl, hn, hn8, hd, hd8⟩ ?_
            intro r hr
            obtain rfl : r = some (.int (p_reB s F (F 8 x.toNatClampNeg) a b)) := hr
            refine And.intro (fun h5 => ?_) (fun h5 => ?_)
            · have h5 : p_reB s F (F 8 x.toNatClampNeg) a b = 0 := h5
              refine And.intro hw (And.intro hw ?_)
              refine next _ _ ?_
              rw [hc] at h5 ⊢
              rw [p_reB] at h5
              rw [p_aB, p_aS, if_pos h3, if_pos h4, if_pos h5]
            · have h5 : ¬ p_reB s F (F 8 x.toNatClampNeg) a b = 0 := h5
              refine next _ _ ?_
              rw [hc] at h5
              rw [p_reB] at h5
              rw [p_aB, p_aS, if_pos h3, if_pos h4, if_neg h5]
          · have h4 : ¬ p_hb m x = 0 := h4
            rw [hx] at h4
            refine And.intro hw (And.intro hw ?_)
            refine next _ _ ?_
            rw [hc, p_aB, p_aS, if_pos h3, if_neg h4]
        · have h3 : ¬ p_hb a (F 8 x.toNatClampNeg) = 0 := h3
          rw [hc] at h3
          exact next _ _ (by rw [p_aB, p_aS, if_neg h3])
      · have h2 : ¬ x < s 15 := h2
        rw [hx, hpl, nI_ltI (by omega) (by omega)] at h2; omega
  exact hG 0 _ _ _ (loop pl 0 _ _ _ (by omega) nI_0.symm rfl)
def p_gd : Nat → Int64 → Int64 → Int64
  | 0, b, _ => b
  | k + 1, b, t => if t = 0 then b else p_gd k t (b - b / t * t)
def vJ (vs : sS) (k : Nat) : Int64 := match s_nth vs k with
  | some (.long v) => v
  | _ => 0
def c_X5_greatestDivisor : sCtr := ((yX5_greatestDivisor, cX5_greatestDivisor, 11, (some .long)), (0, 2, 0, 0), true,
  fun _ _ => [],
  fun vs _ => ∃ a b : Int64, vs = [.long a, .long b],
  fun vs _ r _ => r = some (.long (p_gd 100 (vJ vs 0) (vJ vs 1))))
theorem sta_X5_greatestDivisor : s_Sta c_X5_greatestDivisor := ⟨⟨by decide +kernel, by decide +kernel, by decide +kernel⟩, List.mem_of_getElem? (i := 749) (by decide +kernel), List.mem_of_getElem? (i := 64) (by decide +kernel), List.mem_of_getElem? (i := 748) (by decide +kernel)⟩

def k_X5_greatestDivisor : List sBk := [
  (0, false, [true, false, true, false, false, false, false, false, false, false, false], [o0 0 (.lload_n 0), o0 1 (.lstore 4), o0 3 (.lload_n 2), o0 4 (.lstore 6), oK 6 (.iconst 0) (.int 0), o0 7 (.istore 8), oN 9 .nop [1]]),
  (9, true, [false, false, false, false, true, false, true, false, true, false, false], [o0 9 (.iload 8), oK 11 (.bipush 100) (.int 100), oN 13 (.if_icmp .ge 31) [2], o0 16 (.lload 6), oK 18 (.lconst 0) (.long 0), o0 19 .lcmp, oN 20 (.ifCond .eq 24) [2], o0 23 (.lload 4), o0 25 (.lload 6), o0 27 .lrem, o0 28 (.lstore 9), o0 30 (.lload 6), o0 32 (.lstore 4), o0 34 (.lload 9), o0 36 (.lstore 6), oK 38 (.iinc 8 1) (.int 1), oN 41 (.goto (-32)) [1]]),
  (44, false, [false, false, false, false, true, false, false, false, false, false, false], [o0 44 (.lload 4), o0 46 .lreturn])]
set_option maxRecDepth 100000 in
theorem ck_X5_greatestDivisor : s_ck RX5 cX5_greatestDivisor 11 0 0 k_X5_greatestDivisor = true := by decide +kernel

set_option maxRecDepth 100000 in
set_option maxHeartbeats 1000000 in
theorem ok_X5_greatestDivisor : s_Ok c_X5_greatestDivisor := by
  refine s_ok_of k_X5_greatestDivisor (by decide +kernel) sta_X5_greatestDivisor ck_X5_greatestDivisor trivial ?_
  rintro vs L ⟨a0, b0, rfl⟩
  refine ⟨rfl, fun G hG => ?_⟩
  have loop : ∀ (k i : Nat) (x : Int32) (a b : Int64), i + k = 100 → x = nI i → p_gd k a b = p_gd 100 a0 b0 → G 1 [none, none, none, none, some (.long a), none, some (.long b), none, some (.int x), none, none] [] L := by
    intro k
    induction k with
    | zero =>
      intro i x a b hi hx ha
      refine hG 1 _ _ _ (And.intro (fun h2 => ?_) (fun h2 => ?_))
      · rw [hx, show (100 : Int32) = nI 100 from rfl, nI_ltI (by omega) (by omega)] at h2; omega
      · refine ⟨rfl, ?_, fun _ => rfl⟩
        show some (Value.long a) = some (Value.long (p_gd 100 a0 b0))
        rw [← ha]; rfl
    | succ k ih =>
      intro i x a b hi hx ha
      refine hG 1 _ _ _ (And.intro (fun h2 => ?_) (fun h2 => ?_))
      · refine And.intro (fun h3 => ?_) (fun h3 => ?_)
        · have h3 : b = 0 := (lg_cmp_eq _ _).mp h3
          refine ⟨rfl, ?_, fun _ => rfl⟩
          show some (Value.long a) = some (Value.long (p_gd 100 a0 b0))
          rw [← ha, p_gd, if_pos h3]
        · have h3 : ¬ b = 0 := fun q => h3 ((lg_cmp_eq _ _).mpr q)
          refine And.intro h3 ?_
          exact ih (i + 1) _ _ _ (by omega) (by rw [hx, nI_1]) (by rw [← ha, p_gd, if_neg h3])
      · rw [hx, show (100 : Int32) = nI 100 from rfl, nI_ltI (by omega) (by omega)] at h2; omega
  exact hG 0 _ _ _ (loop 100 0 _ _ _ (by omega) nI_0.symm rfl)
def p_oS (w : Int64) (al p : Int32) (q : Int64 × Int64) : Int64 × Int64 := ((if 0 < w then (if p_hb al p = 0 then q.1 else q.1 + w) else q.1), q.2 + w)
def p_od (wt : Nat → Int64) (al : Nat → Int32) (p : Int32) : Nat → Int64 × Int64
  | 0 => (0, 0)
  | k + 1 => p_oS (wt k) (al k) p (p_od wt al p k)
def p_oW (s : Nat → Int32) (v : Int32) : Nat → Int64 := fun k => p_wt v (nI k) (s 15).toNatClampNeg
def p_oA (s : Nat → Int32) (F : Nat → Nat → Int32) : Nat → Int32 := fun k => (p_ap s F (nI k) (s 15).toNatClampNeg).2
def p_oq (s : Nat → Int32) (F : Nat → Nat → Int32) (v p : Int32) : Int64 × Int64 := p_od (p_oW s v) (p_oA s F) p (2 ^ (s 15).toNatClampNeg)
def r_odds (s : Nat → Int32) (F : Nat → Nat → Int32) (v p z : Int32) : Int64 := if v < 0 then -1 else if 10 < v then -1 else if p_in (s 0) p = 0 then -1 else if z < 0 then -1 else if 1 < z then -1 else
  if p_gd 100 (p_oq s F v p).2 (p_oq s F v p).1 = 0 then -1 else if z = 0 then (p_oq s F v p).1 / p_gd 100 (p_oq s F v p).2 (p_oq s F v p).1 else (p_oq s F v p).2 / p_gd 100 (p_oq s F v p).2 (p_oq s F v p).1
def c_X5_odds : sCtr := ((yX5_odds, cX5_odds, 11, (some .long)), (6, 3, 5, 121), true,
  w1fp,
  fun vs L => ∃ (x0 x1 x2 x3 x4 x5 : Nat) (y7 y8 y9 : Int32) (s : Nat → Int32) (F : Nat → Nat → Int32) (v p z : Int32) (n pl d : Nat), vs = [.ref 0, .int v, .int p, .int z] ∧ L = w1 x0 x1 x2 x3 x4 x5 y7 y8 y9 s F ∧ s 15 = nI pl ∧ pl ≤ 6 ∧ s 1 = nI n ∧ n ≤ 8 ∧ s 2 = nI d ∧ d ≤ 8 ∧ ∀ i, i < pl → ∃ j, j < n ∧ F 8 i = nI j,
  fun vs L r _ => r = some (.long (r_odds (oI L 1) (bG 1 L) (vI vs 1) (vI vs 2) (vI vs 3))))
theorem sta_X5_odds : s_Sta c_X5_odds := ⟨⟨by decide +kernel, by decide +kernel, by decide +kernel⟩, List.mem_of_getElem? (i := 737) (by decide +kernel), List.mem_of_getElem? (i := 64) (by decide +kernel), ⟨List.mem_of_getElem? (i := 735) (by decide +kernel), List.mem_of_getElem? (i := 736) (by decide +kernel), Or.inl ⟨_, rfl, rfl⟩⟩⟩

def k_X5_odds : List sBk := [
  (0, false, [true, true, true, true, false, false, false, false, false, false, false], [o0 0 (.iload_n 1), oN 1 (.ifCond .lt 29) [1], o0 4 (.iload_n 1), oK 5 (.bipush 10) (.int 10), oN 7 (.if_icmp .gt 23) [1], o0 10 (.aload_n 0), oN 11 (.getfield 49) [5, 6, 304], o0 14 (.iload_n 2), oC 15 (.invokevirtual 131) [510] c_X0_hasOne, oN 18 (.ifCond .eq 12) [1], o0 21 (.iload_n 3), oN 22 (.ifCond .lt 8) [1], o0 25 (.iload_n 3), oK 26 (.iconst 1) (.int 1), oN 27 (.if_icmp .le 7) [2], oN 30 .nop [1]]),
  (30, false, [false, false, false, false, false, false, false, false, false, false, false], [oV 30 (.ldc2_w 236) [738] (.long (-1)), o0 33 .lreturn]),
  (34, false, [true, true, true, true, false, false, false, false, false, false, false], [oK 34 (.lconst 0) (.long 0), o0 35 (.lstore 4), oK 37 (.lconst 0) (.long 0), o0 38 (.lstore 6), oK 40 (.iconst 0) (.int 0), o0 41 (.istore 8), oN 43 .nop [3]]),
  (43, true, [true, true, true, true, true, false, true, false, true, false, false], [o0 43 (.iload 8), oK 45 (.iconst 1) (.int 1), o0 46 (.aload_n 0), oN 47 (.getfield 49) [5, 6, 304], oN 50 (.getfield 100) [0, 15, 164], o0 53 .ishl, oN 54 (.if_icmp .ge 52) [5], o0 57 (.aload_n 0), o0 58 (.iload 8), o0 60 (.iload_n 1), oC 61 (.invokevirtual 238) [739] c_X5_weightOf, o0 64 (.lstore 9), o0 66 (.lload 6), o0 68 (.lload 9), o0 70 .ladd, o0 71 (.lstore 6), o0 73 (.lload 9), oK 75 (.lconst 0) (.long 0), o0 76 .lcmp, oN 77 (.ifCond .le 23) [4], o0 80 (.aload_n 0), o0 81 (.iload 8), oC 83 (.invokevirtual 242) [743] c_X5_aliveAfterPlan, o0 86 (.iload_n 2), oC 87 (.invokestatic 157) [573] c_X5_hasBit, oN 90 (.ifCond .eq 10) [4], o0 93 (.lload 4), o0 95 (.lload 9), o0 97 .ladd, o0 98 (.lstore 4), oN 100 .nop [4]]),
  (100, false, [true, true, true, true, true, false, true, false, true, false, false], [oK 100 (.iinc 8 1) (.int 1), oN 103 (.goto (-60)) [3]]),
  (106, false, [false, false, false, true, true, false, true, false, false, false, false], [o0 106 (.lload 6), o0 108 (.lload 4), oC 110 (.invokestatic 245) [747] c_X5_greatestDivisor, o0 113 (.lstore 8), o0 115 (.lload 8), oK 117 (.lconst 0) (.long 0), o0 118 .lcmp, oN 119 (.ifCond .ne 7) [6], oV 122 (.ldc2_w 236) [738] (.long (-1)), o0 125 .lreturn]),
  (126, false, [false, false, false, true, true, false, true, false, true, false, false], [o0 126 (.iload_n 3), oN 127 (.ifCond .ne 11) [7], o0 130 (.lload 4), o0 132 (.lload 8), o0 134 .ldiv, oN 135 (.goto 8) [8]]),
  (138, false, [false, false, false, false, false, false, true, false, true, false, false], [o0 138 (.lload 6), o0 140 (.lload 8), o0 142 .ldiv, oN 143 .nop [8]]),
  (143, false, [false, false, false, false, false, false, false, false, false, false, false], [o0 143 .lreturn])]
set_option maxRecDepth 100000 in
theorem ck_X5_odds : s_ck RX5 cX5_odds 11 5 121 k_X5_odds = true := by decide +kernel

set_option maxRecDepth 100000 in
set_option maxHeartbeats 1000000 in
theorem ok_X5_odds : s_Ok c_X5_odds := by
  refine s_ok_of k_X5_odds (by decide +kernel) sta_X5_odds ck_X5_odds (And.intro ok_X0_hasOne (And.intro ok_X5_weightOf (And.intro ok_X5_aliveAfterPlan (And.intro ok_X5_hasBit (And.intro ok_X5_greatestDivisor trivial))))) ?_
  rintro vs L ⟨x0, x1, x2, x3, x4, x5, y7, y8, y9, s, F, v, p, z, n, pl, d, rfl, rfl, hpl, hpl6, hn, hn8, hd, hd8, hF⟩
  refine ⟨rfl, fun G hG => ?_⟩
  have e : (s 15).toNatClampNeg = pl := by rw [hpl, nI_clamp (by omega)]
  have h2p : 2 ^ pl ≤ 256 := p_2le pl (by omega)
  have fin : ∀ a : Int64, a = r_odds s F v p z → s_PP (some .long) true c_X5_odds.2.2.2.2.2 [.ref 0, .int v, .int p, .int z] (w1 x0 x1 x2 x3 x4 x5 y7 y8 y9 s F) (some (.long a)) (w1 x0 x1 x2 x3 x4 x5 y7 y8 y9 s F) := fun a ha => ⟨rfl, by rw [ha]; rfl, fun _ => rfl⟩
  refine hG 0 _ _ _ (And.intro (fun h => ?_) (fun h => ?_))
  · exact fin _ (by rw [r_odds, if_pos h])
  refine And.intro (fun h2 => ?_) (fun h2 => ?_)
  · exact fin _ (by rw [r_odds, if_neg h, if_pos h2])
  refine And.intro ⟨_, _, _, rfl, rfl⟩ ?_
  intro r hr
  obtain rfl : r = some (.int (p_in (s 0) p)) := hr
  refine And.intro (fun h3 => ?_) (fun h3 => ?_)
  · exact fin _ (by rw [r_odds, if_neg h, if_neg h2, if_pos h3])
  refine And.intro (fun h4 => ?_) (fun h4 => ?_)
  · exact fin _ (by rw [r_odds, if_neg h, if_neg h2, if_neg h3, if_pos h4])
  refine And.intro (fun h5 => ?_) (fun h5 => ?_)
  · exact fin _ (by rw [r_odds, if_neg h, if_neg h2, if_neg h3, if_neg h4, if_pos h5])
  have h1 : ∀ r, r = r_odds s F v p z ↔ r = (if p_gd 100 (p_oq s F v p).2 (p_oq s F v p).1 = 0 then -1 else if z = 0 then (p_oq s F v p).1 / p_gd 100 (p_oq s F v p).2 (p_oq s F v p).1 else (p_oq s F v p).2 / p_gd 100 (p_oq s F v p).2 (p_oq s F v p).1) := fun r => by rw [r_odds, if_neg h, if_neg h2, if_neg h3, if_neg h4, if_neg h5]
  have loop : ∀ (k i : Nat) (x : Int32) (a b : Int64), i + k = 2 ^ pl → x = nI i → (a, b) = p_od (p_oW s v) (p_oA s F) p i → G 3 [some (.ref 0), some (.int v), some (.int p), some (.int z), some (.long a), none, some (.long b), none, some (.int x), none, none] [] (w1 x0 x1 x2 x3 x4 x5 y7 y8 y9 s F) := by
    intro k
    induction k with
    | zero =>
      intro i x a b hi hx ha
      have hq : (a, b) = p_oq s F v p := by rw [ha, p_oq, e, show i = 2 ^ pl by omega]
      have qa : a = (p_oq s F v p).1 := by rw [← hq]
      have qb : b = (p_oq s F v p).2 := by rw [← hq]
      refine hG 3 _ _ _ (And.intro (fun h6 => ?_) (fun h6 => ?_))
      · have h6 : x < (1 : Int32) <<< (s 15 &&& 31) := h6
        rw [hx, hpl, p_2n pl (by omega), nI_ltI (by omega) (by omega)] at h6; omega
      · refine And.intro ⟨_, _, rfl⟩ ?_
        intro r hr
        obtain ⟨gg, hgg⟩ : ∃ gg, gg = p_gd 100 b a := ⟨_, rfl⟩
        obtain rfl : r = some (.long gg) := by rw [hgg]; exact hr
        have hg2 : p_gd 100 (p_oq s F v p).2 (p_oq s F v p).1 = gg := by rw [hgg, qa, qb]
        refine And.intro (fun h7 => ?_) (fun h7 => ?_)
        · have h7 : gg = 0 := (lg_cmp_eq _ _).mp h7
          exact fin _ ((h1 _).mpr (by rw [hg2, if_pos h7]))
        · have h7 : ¬ gg = 0 := fun q => h7 ((lg_cmp_eq _ _).mpr q)
          refine And.intro (fun h8 => ?_) (fun h8 => ?_)
          · exact And.intro h7 (fin _ ((h1 _).mpr (by rw [hg2, if_neg h7, if_pos h8, qa])))
          · exact And.intro h7 (fin _ ((h1 _).mpr (by rw [hg2, if_neg h7, if_neg h8, qb])))
    | succ k ih =>
      intro i x a b hi hx ha
      have next : ∀ b1 b2 : Int64, (b1, b2) = p_oS (p_wt v x (s 15).toNatClampNeg) (p_ap s F x (s 15).toNatClampNeg).2 p (a, b) → G 3 [some (.ref 0), some (.int v), some (.int p), some (.int z), some (.long b1), none, some (.long b2), none, some (.int (x + 1)), none, none] [] (w1 x0 x1 x2 x3 x4 x5 y7 y8 y9 s F) := fun b1 b2 hb => ih (i + 1) _ _ _ (by omega) (by rw [hx, nI_1]) (by rw [hb, p_od, ← ha, p_oW, p_oA, ← hx])
      refine hG 3 _ _ _ (And.intro (fun h6 => ?_) (fun h6 => ?_))
      · refine And.intro ⟨_, _, _, _, _, _, _, _, _, s, F, x, v, pl, rfl, rfl, hpl, hpl6⟩ ?_
        intro r hr
        obtain ⟨wt, hwt⟩ : ∃ wt, wt = p_wt v x (s 15).toNatClampNeg := ⟨_, rfl⟩
        obtain rfl : r = some (.long wt) := by rw [hwt]; exact hr
        refine And.intro (fun h7 => ?_) (fun h7 => ?_)
        · have h7 : 0 < wt := (lg_cmp_gt _ _).mp h7
          refine And.intro ⟨_, _, _, _, _, _, _, _, _, s, F, x, n, pl, d, rfl, rfl, hpl, hpl6, hn, hn8, hd, hd8, hF⟩ ?_
          intro r hr
          obtain rfl : r = some (.int (p_ap s F x (s 15).toNatClampNeg).2) := hr
          refine And.intro ⟨_, _, rfl⟩ ?_
          intro r hr
          obtain rfl : r = some (.int (p_hb (p_ap s F x (s 15).toNatClampNeg).2 p)) := hr
          refine And.intro (fun h8 => ?_) (fun h8 => ?_)
          · exact next _ _ (by rw [p_oS, ← hwt, if_pos h7, if_pos h8])
          · exact next _ _ (by rw [p_oS, ← hwt, if_pos h7, if_neg h8])
        · have h7 : ¬ 0 < wt := fun q => h7 ((lg_cmp_gt _ _).mpr q)
          exact next _ _ (by rw [p_oS, ← hwt, if_neg h7])
      · have h6 : ¬ x < (1 : Int32) <<< (s 15 &&& 31) := h6
        rw [hx, hpl, p_2n pl (by omega), nI_ltI (by omega) (by omega)] at h6; omega
  exact loop (2 ^ pl) 0 _ _ _ (by omega) nI_0.symm rfl

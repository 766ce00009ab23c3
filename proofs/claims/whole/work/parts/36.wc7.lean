/-! ===== WishClerk: by a seed, dates ===== -/
def p_nx (x : Int32) : Int32 := x * 1103515245 + 12345
/-- the wish that a seed names -/
def p_ww (x y : Int32) : Int32 := (p_ush x 16 &&& 32767) - (p_ush x 16 &&& 32767) / y * y
/-- seed, what holds, who lives, how many were refused -/
def p_wS (on nd cl fo wa : Nat → Int32) (n : Nat) (li ba : Int32) (d : Nat) (y : Int32) (q : Int32 × Int32 × Int32 × Int32) : Int32 × Int32 × Int32 × Int32 :=
  if p_hb q.2.1 (p_ww (p_nx q.1) y) = 0 then
    (if p_re on nd cl n li ba (p_ww (p_nx q.1) y) q.2.1 q.2.2.1 d = 0 then (p_nx q.1, q.2.1 ||| fo (p_ww (p_nx q.1) y).toNatClampNeg, q.2.2.1 ||| wa (p_ww (p_nx q.1) y).toNatClampNeg, q.2.2.2) else (p_nx q.1, q.2.1, q.2.2.1, q.2.2.2 + 1))
  else (p_nx q.1, q.2.1 &&& (p_ro fo ((1 : Int32) <<< (p_ww (p_nx q.1) y &&& 31)) q.2.1 n ^^^ (-1)), q.2.2.1, q.2.2.2)
def p_wR (on nd cl fo wa : Nat → Int32) (n : Nat) (li ba : Int32) (d : Nat) (y : Int32) (q0 : Int32 × Int32 × Int32 × Int32) : Nat → Int32 × Int32 × Int32 × Int32
  | 0 => q0
  | k + 1 => p_wS on nd cl fo wa n li ba d y (p_wR on nd cl fo wa n li ba d y q0 k)
def p_wq (s : Nat → Int32) (F : Nat → Nat → Int32) (x : Int32) (k : Nat) : Int32 × Int32 × Int32 × Int32 := p_wR (F 3) (F 4) (F 5) (F 6) (F 7) (s 1).toNatClampNeg (s 6) (s 4) (s 2).toNatClampNeg (s 1) (x, s 5, s 3, 0) k
def r_wild (s : Nat → Int32) (F : Nat → Nat → Int32) (x k z : Int32) : Int32 := if k < 1 then -1 else if 60 < k then -1 else if z < 0 then -1 else if 1 < z then -1 else if 0 < s 1 then (if z = 0 then (p_wq s F x k.toNatClampNeg).2.2.1 else (p_wq s F x k.toNatClampNeg).2.2.2) else -2
theorem p_ww_in (x : Int32) {n : Nat} (h0 : 0 < n) (hn : n ≤ 8) : ∃ j, j < n ∧ p_ww x (nI n) = nI j := by
  obtain ⟨j, hj, he⟩ := pk_andE (p_ush x 16) (m := 32767) 15 (by decide)
  refine ⟨j % n, Nat.mod_lt _ h0, ?_⟩
  rw [p_ww, he]
  exact pk_rem (by omega) h0 (by omega)
def c_X5_wild : sCtr := ((yX5_wild, cX5_wild, 10, (some .int)), (6, 3, 4, 96), true,
  w1fp,
  fun vs L => ∃ (x0 x1 x2 x3 x4 x5 : Nat) (y7 y8 y9 : Int32) (s : Nat → Int32) (F : Nat → Nat → Int32) (x k z : Int32) (n d : Nat), vs = [.ref 0, .int x, .int k, .int z] ∧ L = w1 x0 x1 x2 x3 x4 x5 y7 y8 y9 s F ∧ s 1 = nI n ∧ n ≤ 8 ∧ s 2 = nI d ∧ d ≤ 8,
  fun vs L r _ => r = some (.int (r_wild (oI L 1) (bG 1 L) (vI vs 1) (vI vs 2) (vI vs 3))))
theorem sta_X5_wild : s_Sta c_X5_wild := ⟨⟨by decide +kernel, by decide +kernel, by decide +kernel⟩, List.mem_of_getElem? (i := 753) (by decide +kernel), List.mem_of_getElem? (i := 64) (by decide +kernel), ⟨List.mem_of_getElem? (i := 751) (by decide +kernel), List.mem_of_getElem? (i := 752) (by decide +kernel), Or.inl ⟨_, rfl, rfl⟩⟩⟩

def k_X5_wild : List sBk := [
  (0, false, [true, true, true, true, false, false, false, false, false, false], [o0 0 (.iload_n 2), oK 1 (.iconst 1) (.int 1), oN 2 (.if_icmp .lt 18) [1], o0 5 (.iload_n 2), oK 6 (.bipush 60) (.int 60), oN 8 (.if_icmp .gt 12) [1], o0 11 (.iload_n 3), oN 12 (.ifCond .lt 8) [1], o0 15 (.iload_n 3), oK 16 (.iconst 1) (.int 1), oN 17 (.if_icmp .le 5) [2], oN 20 .nop [1]]),
  (20, false, [false, false, false, false, false, false, false, false, false, false], [oK 20 (.iconst (-1)) (.int (-1)), o0 21 .ireturn]),
  (22, false, [true, true, true, true, false, false, false, false, false, false], [o0 22 (.aload_n 0), oN 23 (.getfield 49) [5, 6, 304], oN 26 (.getfield 82) [0, 1, 121], oN 29 (.ifCond .gt 6) [3], oK 32 (.bipush (-2)) (.int (-2)), o0 34 .ireturn]),
  (35, false, [true, true, true, true, false, false, false, false, false, false], [o0 35 (.iload_n 1), o0 36 (.istore 4), o0 38 (.aload_n 0), oN 39 (.getfield 49) [5, 6, 304], oN 42 (.getfield 94) [0, 5, 134], o0 45 (.istore 5), o0 47 (.aload_n 0), oN 48 (.getfield 49) [5, 6, 304], oN 51 (.getfield 88) [0, 3, 127], o0 54 (.istore 6), oK 56 (.iconst 0) (.int 0), o0 57 (.istore 7), oK 59 (.iconst 0) (.int 0), o0 60 (.istore 8), oN 62 .nop [4]]),
  (62, true, [true, false, true, true, true, true, true, true, true, false], [o0 62 (.iload 8), o0 64 (.iload_n 2), oN 65 (.if_icmp .ge 131) [8], o0 68 (.iload 4), oV 70 (.ldc 249) [754] (.int 1103515245), o0 72 .imul, oK 73 (.sipush 12345) (.int 12345), o0 76 .iadd, o0 77 (.istore 4), o0 79 (.iload 4), oK 81 (.bipush 16) (.int 16), o0 83 .iushr, oK 84 (.sipush 32767) (.int 32767), o0 87 .iand, o0 88 (.aload_n 0), oN 89 (.getfield 49) [5, 6, 304], oN 92 (.getfield 82) [0, 1, 121], o0 95 .irem, o0 96 (.istore 9), o0 98 (.iload 5), o0 100 (.iload 9), oC 102 (.invokestatic 157) [573] c_X5_hasBit, oN 105 (.ifCond .eq 26) [5], o0 108 (.iload 5), o0 110 (.aload_n 0), oN 111 (.getfield 49) [5, 6, 304], oK 114 (.iconst 1) (.int 1), o0 115 (.iload 9), o0 117 .ishl, o0 118 (.iload 5), oC 120 (.invokevirtual 166) [584] c_X0_restingOn, oK 123 (.iconst (-1)) (.int (-1)), o0 124 .ixor, o0 125 .iand, o0 126 (.istore 5), oN 128 (.goto 62) [7]]),
  (131, false, [true, false, true, true, true, true, true, true, true, true], [o0 131 (.aload_n 0), oN 132 (.getfield 49) [5, 6, 304], o0 135 (.iload 9), o0 137 (.iload 5), o0 139 (.iload 6), o0 141 (.aload_n 0), oN 142 (.getfield 49) [5, 6, 304], oN 145 (.getfield 85) [0, 2, 123], oC 148 (.invokevirtual 153) [565] c_X0_refusal, oN 151 (.ifCond .eq 9) [6], oK 154 (.iinc 7 1) (.int 1), oN 157 (.goto 33) [7]]),
  (160, false, [true, false, true, true, true, true, true, true, true, true], [o0 160 (.iload 5), o0 162 (.aload_n 0), oN 163 (.getfield 49) [5, 6, 304], oN 166 (.getfield 122) [0, 12, 156], o0 169 (.iload 9), o0 171 .iaload, o0 172 .ior, o0 173 (.istore 5), o0 175 (.iload 6), o0 177 (.aload_n 0), oN 178 (.getfield 49) [5, 6, 304], oN 181 (.getfield 125) [0, 13, 159], o0 184 (.iload 9), o0 186 .iaload, o0 187 .ior, o0 188 (.istore 6), oN 190 .nop [7]]),
  (190, false, [true, false, true, true, true, true, true, true, true, false], [oK 190 (.iinc 8 1) (.int 1), oN 193 (.goto (-131)) [4]]),
  (196, false, [false, false, false, true, false, false, true, true, false, false], [o0 196 (.iload_n 3), oN 197 (.ifCond .ne 8) [9], o0 200 (.iload 6), oN 202 (.goto 5) [10]]),
  (205, false, [false, false, false, false, false, false, false, true, false, false], [o0 205 (.iload 7), oN 207 .nop [10]]),
  (207, false, [false, false, false, false, false, false, false, false, false, false], [o0 207 .ireturn])]
set_option maxRecDepth 100000 in
theorem ck_X5_wild : s_ck RX5 cX5_wild 10 4 96 k_X5_wild = true := by decide +kernel

set_option maxRecDepth 100000 in
set_option maxHeartbeats 1000000 in
theorem ok_X5_wild : s_Ok c_X5_wild := by
  refine s_ok_of k_X5_wild (by decide +kernel) sta_X5_wild ck_X5_wild (And.intro ok_X5_hasBit (And.intro ok_X0_restingOn (And.intro ok_X0_refusal trivial))) ?_
  rintro vs L ⟨x0, x1, x2, x3, x4, x5, y7, y8, y9, s, F, sd, kk, z, n, d, rfl, rfl, hn, hn8, hd, hd8⟩
  refine ⟨rfl, fun G hG => ?_⟩
  have fin : ∀ a : Int32, a = r_wild s F sd kk z → s_PP (some .int) true c_X5_wild.2.2.2.2.2 [.ref 0, .int sd, .int kk, .int z] (w1 x0 x1 x2 x3 x4 x5 y7 y8 y9 s F) (some (.int a)) (w1 x0 x1 x2 x3 x4 x5 y7 y8 y9 s F) := fun a ha => ⟨rfl, by rw [ha]; rfl, fun _ => rfl⟩
  refine hG 0 _ _ _ (And.intro (fun h => ?_) (fun h => ?_))
  · exact fin _ (by rw [r_wild, if_pos h])
  refine And.intro (fun h2 => ?_) (fun h2 => ?_)
  · exact fin _ (by rw [r_wild, if_neg h, if_pos h2])
  refine And.intro (fun h3 => ?_) (fun h3 => ?_)
  · exact fin _ (by rw [r_wild, if_neg h, if_neg h2, if_pos h3])
  refine And.intro (fun h4 => ?_) (fun h4 => ?_)
  · exact fin _ (by rw [r_wild, if_neg h, if_neg h2, if_neg h3, if_pos h4])
  refine And.intro (fun h5 => ?_) (fun h5 => ?_)
  · have h5 : 0 < s 1 := h5
    have hn0 : 0 < n := by
      rw [hn] at h5
      exact (nI_ltI (a := 0) (by omega) (by omega)).mp h5
    have hk0 : ¬ kk < 0 := fun q => h (by
      rw [Int32.lt_iff_toInt_lt] at q ⊢
      have e1 : (1 : Int32).toInt = 1 := by decide
      have e0 : (0 : Int32).toInt = 0 := by decide
      omega)
    obtain ⟨K, hK31, rfl⟩ := nI_of hk0
    have hK60 : K ≤ 60 := by
      rcases Nat.lt_or_ge 60 K with q | q
      · exact absurd ((nI_ltI (a := 60) (by omega) (by omega)).mpr q) h2
      · exact q
    have h1 : ∀ r, r = r_wild s F sd (nI K) z ↔ r = (if z = 0 then (p_wq s F sd K).2.2.1 else (p_wq s F sd K).2.2.2) := fun r => by rw [r_wild, if_neg h, if_neg h2, if_neg h3, if_neg h4, if_pos h5, nI_clamp hK31]
    have loop : ∀ (k i : Nat) (x a1 a2 a3 a4 : Int32), i + k = K → x = nI i → (a1, a2, a3, a4) = p_wq s F sd i → G 4 [some (.ref 0), none, some (.int (nI K)), some (.int z), some (.int a1), some (.int a2), some (.int a3), some (.int a4), some (.int x), none] [] (w1 x0 x1 x2 x3 x4 x5 y7 y8 y9 s F) := by
      intro k
      induction k with
      | zero =>
        intro i x a1 a2 a3 a4 hi hx ha
        have hq : (a1, a2, a3, a4) = p_wq s F sd K := by rw [ha, show i = K by omega]
        have q3 : a3 = (p_wq s F sd K).2.2.1 := by rw [← hq]
        have q4 : a4 = (p_wq s F sd K).2.2.2 := by rw [← hq]
        refine hG 4 _ _ _ (And.intro (fun h6 => ?_) (fun h6 => ?_))
        · rw [hx, nI_ltI (by omega) (by omega)] at h6; omega
        · refine And.intro (fun h7 => ?_) (fun h7 => ?_)
          · exact fin _ ((h1 _).mpr (by rw [if_pos h7, q3]))
          · exact fin _ ((h1 _).mpr (by rw [if_neg h7, q4]))
      | succ k ih =>
        intro i x a1 a2 a3 a4 hi hx ha
        have next : ∀ b1 b2 b3 b4 : Int32, (b1, b2, b3, b4) = p_wS (F 3) (F 4) (F 5) (F 6) (F 7) (s 1).toNatClampNeg (s 6) (s 4) (s 2).toNatClampNeg (s 1) (a1, a2, a3, a4) → G 4 [some (.ref 0), none, some (.int (nI K)), some (.int z), some (.int b1), some (.int b2), some (.int b3), some (.int b4), some (.int (x + 1)), none] [] (w1 x0 x1 x2 x3 x4 x5 y7 y8 y9 s F) := fun b1 b2 b3 b4 hb => ih (i + 1) _ _ _ _ _ (by omega) (by rw [hx, nI_1]) (by rw [hb, ha]; rfl)
        obtain ⟨j, hj, hwj⟩ := p_ww_in (p_nx a1) hn0 hn8
        rw [← hn] at hwj
        have hin : vp_in (p_ww (p_nx a1) (s 1)) 8 := by rw [hwj]; exact vp_in_nI (by omega) (by omega)
        refine hG 4 _ _ _ (And.intro (fun h6 => ?_) (fun h6 => ?_))
        · refine And.intro (fun q => ?_) (And.intro ⟨_, _, rfl⟩ ?_)
          · have q : s 1 = 0 := q
            rw [q] at h5; exact absurd h5 (by decide)
          intro r hr
          obtain rfl : r = some (.int (p_hb a2 (p_ww (p_nx a1) (s 1)))) := hr
          refine And.intro (fun h7 => ?_) (fun h7 => ?_)
          · have h7 : p_hb a2 (p_ww (p_nx a1) (s 1)) = 0 := h7
            refine And.intro ⟨s, F, _, _, _, _, n, d, rfl, rfl, hn, hn8, hd, hd8⟩ ?_
            intro r hr
            obtain rfl : r = some (.int (p_reB s F (p_ww (p_nx a1) (s 1)) a2 a3)) := hr
            refine And.intro (fun h8 => ?_) (fun h8 => ?_)
            · have h8 : p_reB s F (p_ww (p_nx a1) (s 1)) a2 a3 = 0 := h8
              rw [p_reB] at h8
              exact And.intro hin (And.intro hin (next _ _ _ _ (by rw [p_wS, if_pos h7, if_pos h8]; rfl)))
            · have h8 : ¬ p_reB s F (p_ww (p_nx a1) (s 1)) a2 a3 = 0 := h8
              rw [p_reB] at h8
              exact next _ _ _ _ (by rw [p_wS, if_pos h7, if_neg h8]; rfl)
          · have h7 : ¬ p_hb a2 (p_ww (p_nx a1) (s 1)) = 0 := h7
            refine And.intro ⟨s, F, _, _, n, rfl, rfl, hn, hn8⟩ ?_
            intro r hr
            obtain rfl : r = some (.int (p_ro (F 6) ((1 : Int32) <<< (p_ww (p_nx a1) (s 1) &&& 31)) a2 (s 1).toNatClampNeg)) := hr
            exact next _ _ _ _ (by rw [p_wS, if_neg h7]; rfl)
        · rw [hx, nI_ltI (by omega) (by omega)] at h6; omega
    exact loop K 0 _ _ _ _ _ (by omega) nI_0.symm rfl
  · have h5 : ¬ 0 < s 1 := h5
    exact fin _ (by rw [r_wild, if_neg h, if_neg h2, if_neg h3, if_neg h4, if_neg h5])
/-- the world of date(): the dates behind the book -/
def w2 (x0 x1 x2 x3 x4 : Nat) (y7 y8 y9 : Int32) (s : Nat → Int32) (F : Nat → Nat → Int32) (dt : Nat → Int32) : sH := .inr (.inr (5, [.ref x0, .ref x1, .ref x2, .ref x3, .ref x4, .ref 11, .ref 1, .int y7, .int y8, .int y9])) :: (bkK 1 s F ++ [.inl (0, 8, dt)])
def w2fp (vs : sS) (L : sH) : List Nat := match vs with
  | .ref b :: _ => b :: (bkP L (s_rf L b 6) ++ [s_rf L b 5])
  | _ => []
def p_la (dt : Nat → Int32) (g : Int32) : Nat → Int32
  | 0 => 0
  | k + 1 => if p_hb g (nI k) = 0 then p_la dt g k else (if p_la dt g k < dt k then dt k else p_la dt g k)
def c_X5_latest : sCtr := ((yX5_latest, cX5_latest, 4, (some .int)), (6, 1, 1, 21), true,
  w2fp,
  fun vs L => ∃ (x0 x1 x2 x3 x4 : Nat) (y7 y8 y9 : Int32) (s : Nat → Int32) (F : Nat → Nat → Int32) (dt : Nat → Int32) (g : Int32) (n : Nat), vs = [.ref 0, .int g] ∧ L = w2 x0 x1 x2 x3 x4 y7 y8 y9 s F dt ∧ s 1 = nI n ∧ n ≤ 8,
  fun vs L r _ => r = some (.int (p_la (bF L 11) (vI vs 1) (oI L 1 1).toNatClampNeg)))
theorem sta_X5_latest : s_Sta c_X5_latest := ⟨⟨by decide +kernel, by decide +kernel, by decide +kernel⟩, List.mem_of_getElem? (i := 710) (by decide +kernel), List.mem_of_getElem? (i := 64) (by decide +kernel), ⟨List.mem_of_getElem? (i := 709) (by decide +kernel), List.mem_of_getElem? (i := 24) (by decide +kernel), Or.inl ⟨_, rfl, rfl⟩⟩⟩

def k_X5_latest : List sBk := [
  (0, false, [true, true, false, false], [oK 0 (.iconst 0) (.int 0), o0 1 (.istore_n 2), oK 2 (.iconst 0) (.int 0), o0 3 (.istore_n 3), oN 4 .nop [1]]),
  (4, true, [true, true, true, true], [o0 4 (.iload_n 3), o0 5 (.aload_n 0), oN 6 (.getfield 49) [5, 6, 304], oN 9 (.getfield 82) [0, 1, 121], oN 12 (.if_icmp .ge 28) [3], o0 15 (.iload_n 1), o0 16 (.iload_n 3), oC 17 (.invokestatic 157) [573] c_X5_hasBit, oN 20 (.ifCond .eq 14) [2], o0 23 (.iload_n 2), o0 24 (.aload_n 0), oN 25 (.getfield 44) [5, 5, 303], o0 28 (.iload_n 3), o0 29 .iaload, oN 30 (.invokestatic 215) [711, 1], o0 33 (.istore_n 2), oN 34 .nop [2]]),
  (34, false, [true, true, true, true], [oK 34 (.iinc 3 1) (.int 1), oN 37 (.goto (-33)) [1]]),
  (40, false, [false, false, true, false], [o0 40 (.iload_n 2), o0 41 .ireturn])]
set_option maxRecDepth 100000 in
theorem ck_X5_latest : s_ck RX5 cX5_latest 4 1 21 k_X5_latest = true := by decide +kernel

set_option maxRecDepth 100000 in
set_option maxHeartbeats 1000000 in
theorem ok_X5_latest : s_Ok c_X5_latest := by
  refine s_ok_of k_X5_latest (by decide +kernel) sta_X5_latest ck_X5_latest (And.intro ok_X5_hasBit trivial) ?_
  rintro vs L ⟨x0, x1, x2, x3, x4, y7, y8, y9, s, F, dt, g, n, rfl, rfl, hn, hn8⟩
  refine ⟨rfl, fun G hG => ?_⟩
  have loop : ∀ (k i : Nat) (x a : Int32), i + k = n → x = nI i → a = p_la dt g i → G 1 [some (.ref 0), some (.int g), some (.int a), some (.int x)] [] (w2 x0 x1 x2 x3 x4 y7 y8 y9 s F dt) := by
    intro k
    induction k with
    | zero =>
      intro i x a hi hx ha
      refine hG 1 _ _ _ (And.intro (fun h2 => ?_) (fun h2 => ?_))
      · have h2 : x < s 1 := h2
        rw [hx, hn, nI_ltI (by omega) (by omega)] at h2; omega
      · refine ⟨rfl, ?_, fun _ => rfl⟩
        show some (Value.int a) = some (Value.int (p_la dt g (s 1).toNatClampNeg))
        rw [hn, nI_clamp (by omega), ha, show i = n by omega]
    | succ k ih =>
      intro i x a hi hx ha
      have hw : vp_in x 8 := by rw [hx]; exact vp_in_nI (by omega) (by omega)
      refine hG 1 _ _ _ (And.intro (fun h2 => ?_) (fun h2 => ?_))
      · refine And.intro ⟨_, _, rfl⟩ ?_
        intro r hr
        obtain rfl : r = some (.int (p_hb g x)) := hr
        refine And.intro (fun h3 => ?_) (fun h3 => ?_)
        · exact ih (i + 1) _ _ (by omega) (by rw [hx, nI_1]) (by rw [p_la, ← hx, if_pos h3, ha])
        · refine And.intro hw ?_
          exact ih (i + 1) _ _ (by omega) (by rw [hx, nI_1]) (by rw [p_la, ← hx, if_neg h3, ← ha, hx, nI_clamp (by omega)])
      · have h2 : ¬ x < s 1 := h2
        rw [hx, hn, nI_ltI (by omega) (by omega)] at h2; omega
  exact hG 0 _ _ _ (loop n 0 _ _ (by omega) nI_0.symm rfl)
/-- one turn over the dates, up to a wish -/
def p_dr (ye nd : Nat → Int32) (n : Nat) (fw : Int32) (dt : Nat → Int32) : Nat → Nat → Int32
  | 0 => dt
  | k + 1 => if p_hb fw (nI k) = 0 then p_dr ye nd n fw dt k else upd (p_dr ye nd n fw dt k) k (ye k + p_la (p_dr ye nd n fw dt k) (nd k) n)
def p_dt (ye nd : Nat → Int32) (n : Nat) (fw : Int32) (dt : Nat → Int32) : Nat → Nat → Int32
  | 0 => dt
  | t + 1 => p_dr ye nd n fw (p_dt ye nd n fw dt t) n
def r_date (s : Nat → Int32) (F : Nat → Nat → Int32) (dt : Nat → Int32) (w : Int32) : Int32 := if p_in (s 1) w = 0 then -1 else if p_rd (F 4) (F 6) (s 1).toNatClampNeg (F 6 w.toNatClampNeg) (s 1).toNatClampNeg = true then -4 else p_dt (F 1) (F 4) (s 1).toNatClampNeg (F 6 w.toNatClampNeg) dt (s 1).toNatClampNeg w.toNatClampNeg
def c_X5_date : sCtr := ((yX5_date, cX5_date, 4, (some .int)), (6, 1, 4, 88), false,
  w2fp,
  fun vs L => ∃ (x0 x1 x2 x3 x4 : Nat) (y7 y8 y9 : Int32) (s : Nat → Int32) (F : Nat → Nat → Int32) (dt : Nat → Int32) (w : Int32) (n : Nat), vs = [.ref 0, .int w] ∧ L = w2 x0 x1 x2 x3 x4 y7 y8 y9 s F dt ∧ s 1 = nI n ∧ n ≤ 8,
  fun vs L r L' => r = some (.int (r_date (oI L 1) (bG 1 L) (bF L 11) (vI vs 1))) ∧ ∃ dt', L' = s_hd L :: (bkK 1 (oI L 1) (bG 1 L) ++ [.inl (0, 8, dt')]))
theorem sta_X5_date : s_Sta c_X5_date := ⟨⟨by decide +kernel, by decide +kernel, by decide +kernel⟩, List.mem_of_getElem? (i := 701) (by decide +kernel), List.mem_of_getElem? (i := 64) (by decide +kernel), ⟨List.mem_of_getElem? (i := 699) (by decide +kernel), List.mem_of_getElem? (i := 700) (by decide +kernel), Or.inl ⟨_, rfl, rfl⟩⟩⟩

def k_X5_date : List sBk := [
  (0, false, [true, true, false, false], [o0 0 (.aload_n 0), oN 1 (.getfield 49) [5, 6, 304], o0 4 (.iload_n 1), oC 5 (.invokevirtual 103) [498] c_X0_hasWish, oN 8 (.ifCond .ne 5) [1], oK 11 (.iconst (-1)) (.int (-1)), o0 12 .ireturn]),
  (13, false, [true, true, false, false], [o0 13 (.aload_n 0), oN 14 (.getfield 49) [5, 6, 304], o0 17 (.aload_n 0), oN 18 (.getfield 49) [5, 6, 304], oN 21 (.getfield 122) [0, 12, 156], o0 24 (.iload_n 1), o0 25 .iaload, oC 26 (.invokevirtual 209) [702] c_X0_goesRound, oN 29 (.ifCond .eq 6) [2], oK 32 (.bipush (-4)) (.int (-4)), o0 34 .ireturn]),
  (35, false, [true, true, false, false], [oK 35 (.iconst 0) (.int 0), o0 36 (.istore_n 2), oN 37 .nop [3]]),
  (37, true, [true, true, true, false], [o0 37 (.iload_n 2), o0 38 (.aload_n 0), oN 39 (.getfield 49) [5, 6, 304], oN 42 (.getfield 82) [0, 1, 121], oN 45 (.if_icmp .ge 73) [7], oK 48 (.iconst 0) (.int 0), o0 49 (.istore_n 3), oN 50 .nop [4]]),
  (50, true, [true, true, true, true], [o0 50 (.iload_n 3), o0 51 (.aload_n 0), oN 52 (.getfield 49) [5, 6, 304], oN 55 (.getfield 82) [0, 1, 121], oN 58 (.if_icmp .ge 54) [6], o0 61 (.aload_n 0), oN 62 (.getfield 49) [5, 6, 304], oN 65 (.getfield 122) [0, 12, 156], o0 68 (.iload_n 1), o0 69 .iaload, o0 70 (.iload_n 3), oC 71 (.invokestatic 157) [573] c_X5_hasBit, oN 74 (.ifCond .eq 32) [5], o0 77 (.aload_n 0), oN 78 (.getfield 44) [5, 5, 303], o0 81 (.iload_n 3), o0 82 (.aload_n 0), oN 83 (.getfield 49) [5, 6, 304], oN 86 (.getfield 107) [0, 7, 139], o0 89 (.iload_n 3), o0 90 .iaload, o0 91 (.aload_n 0), o0 92 (.aload_n 0), oN 93 (.getfield 49) [5, 6, 304], oN 96 (.getfield 116) [0, 10, 149], o0 99 (.iload_n 3), o0 100 .iaload, oC 101 (.invokevirtual 212) [707] c_X5_latest, o0 104 .iadd, o0 105 .iastore, oN 106 .nop [5]]),
  (106, false, [true, true, true, true], [oK 106 (.iinc 3 1) (.int 1), oN 109 (.goto (-59)) [4]]),
  (112, false, [true, true, true, false], [oK 112 (.iinc 2 1) (.int 1), oN 115 (.goto (-78)) [3]]),
  (118, false, [true, true, false, false], [o0 118 (.aload_n 0), oN 119 (.getfield 44) [5, 5, 303], o0 122 (.iload_n 1), o0 123 .iaload, o0 124 .ireturn])]
set_option maxRecDepth 100000 in
theorem ck_X5_date : s_ck RX5 cX5_date 4 4 88 k_X5_date = true := by decide +kernel

set_option maxRecDepth 100000 in
set_option maxHeartbeats 1000000 in
theorem ok_X5_date : s_Ok c_X5_date := by
  refine s_ok_of k_X5_date (by decide +kernel) sta_X5_date ck_X5_date (And.intro ok_X0_hasWish (And.intro ok_X0_goesRound (And.intro ok_X5_hasBit (And.intro ok_X5_latest trivial)))) ?_
  rintro vs L ⟨x0, x1, x2, x3, x4, y7, y8, y9, s, F, dt, w, n, rfl, rfl, hn, hn8⟩
  refine ⟨rfl, fun G hG => ?_⟩
  have e : (s 1).toNatClampNeg = n := by rw [hn, nI_clamp (by omega)]
  have fin : ∀ (a : Int32) (d2 : Nat → Int32), a = r_date s F dt w → s_PP (some .int) false c_X5_date.2.2.2.2.2 [.ref 0, .int w] (w2 x0 x1 x2 x3 x4 y7 y8 y9 s F dt) (some (.int a)) (w2 x0 x1 x2 x3 x4 y7 y8 y9 s F d2) := fun a d2 ha => ⟨rfl, ⟨by rw [ha]; rfl, d2, rfl⟩, fun h => by cases h⟩
  refine hG 0 _ _ _ (And.intro ⟨_, _, _, _, rfl, rfl⟩ ?_)
  intro r hr
  obtain rfl : r = some (.int (p_in (s 1) w)) := hr
  refine And.intro (fun h => ?_) (fun h => ?_)
  · exact fin _ dt (by rw [r_date, if_pos h])
  have hwj := h
  rw [hn] at hwj
  obtain ⟨j, hj, hw⟩ := p_in_ne hn8 hwj
  have hin : vp_in w 8 := by rw [hw]; exact vp_in_nI (by omega) (by omega)
  refine And.intro hin (And.intro ⟨s, F, _, n, rfl, rfl, hn, hn8⟩ ?_)
  intro r hr
  obtain rfl : r = some (.int (if p_rd (F 4) (F 6) (s 1).toNatClampNeg (F 6 w.toNatClampNeg) (s 1).toNatClampNeg = true then 1 else 0)) := hr
  by_cases hrd : p_rd (F 4) (F 6) (s 1).toNatClampNeg (F 6 w.toNatClampNeg) (s 1).toNatClampNeg = true
  · refine And.intro (fun q => ?_) (fun _ => ?_)
    · rw [if_pos hrd] at q; exact absurd q (by decide)
    · exact fin _ dt (by rw [r_date, if_neg h, if_pos hrd])
  refine And.intro (fun _ => ?_) (fun q => ?_)
  rotate_left
  · rw [if_neg hrd] at q; exact absurd rfl q
  obtain ⟨fw, hfw⟩ : ∃ fw, fw = F 6 w.toNatClampNeg := ⟨_, rfl⟩
  have outer : ∀ (kt t : Nat) (xt : Int32) (d1 : Nat → Int32), t + kt = n → xt = nI t → d1 = p_dt (F 1) (F 4) n fw dt t → G 3 [some (.ref 0), some (.int w), some (.int xt), none] [] (w2 x0 x1 x2 x3 x4 y7 y8 y9 s F d1) := by
    intro kt
    induction kt with
    | zero =>
      intro t xt d1 ht hxt hd
      refine hG 3 _ _ _ (And.intro (fun h2 => ?_) (fun h2 => ?_))
      · have h2 : xt < s 1 := h2
        rw [hxt, hn, nI_ltI (by omega) (by omega)] at h2; omega
      · refine And.intro hin ?_
        exact fin _ d1 (by rw [r_date, if_neg h, if_neg hrd, e, ← hfw, hd, show t = n by omega])
    | succ kt iht =>
      intro t xt d1 ht hxt hd
      have inner : ∀ (k i : Nat) (x : Int32) (d2 : Nat → Int32), i + k = n → x = nI i → d2 = p_dr (F 1) (F 4) n fw d1 i → G 4 [some (.ref 0), some (.int w), some (.int xt), some (.int x)] [] (w2 x0 x1 x2 x3 x4 y7 y8 y9 s F d2) := by
        intro k
        induction k with
        | zero =>
          intro i x d2 hi hx hd2
          refine hG 4 _ _ _ (And.intro (fun h2 => ?_) (fun h2 => ?_))
          · have h2 : x < s 1 := h2
            rw [hx, hn, nI_ltI (by omega) (by omega)] at h2; omega
          · exact iht (t + 1) _ d2 (by omega) (by rw [hxt, nI_1]) (by rw [hd2, p_dt, ← hd, show i = n by omega])
        | succ k ih =>
          intro i x d2 hi hx hd2
          have hx8 : vp_in x 8 := by rw [hx]; exact vp_in_nI (by omega) (by omega)
          have hc : x.toNatClampNeg = i := by rw [hx, nI_clamp (by omega)]
          refine hG 4 _ _ _ (And.intro (fun h2 => ?_) (fun h2 => ?_))
          · refine And.intro hin (And.intro ⟨_, _, rfl⟩ ?_)
            intro r hr
            obtain rfl : r = some (.int (p_hb fw x)) := by rw [hfw]; exact hr
            refine And.intro (fun h3 => ?_) (fun h3 => ?_)
            · exact ih (i + 1) _ d2 (by omega) (by rw [hx, nI_1]) (by rw [p_dr, ← hx, if_pos h3, hd2])
            · refine And.intro hx8 (And.intro hx8 (And.intro ⟨_, _, _, _, _, _, _, _, s, F, d2, _, n, rfl, rfl, hn, hn8⟩ ?_))
              intro r hr
              obtain rfl : r = some (.int (p_la d2 (F 4 x.toNatClampNeg) (s 1).toNatClampNeg)) := hr
              refine And.intro hx8 ?_
              exact ih (i + 1) _ (upd d2 x.toNatClampNeg (F 1 x.toNatClampNeg + p_la d2 (F 4 x.toNatClampNeg) (s 1).toNatClampNeg)) (by omega) (by rw [hx, nI_1]) (by rw [p_dr, ← hx, if_neg h3, hc, e, hd2])
          · have h2 : ¬ x < s 1 := h2
            rw [hx, hn, nI_ltI (by omega) (by omega)] at h2; omega
      refine hG 3 _ _ _ (And.intro (fun h2 => ?_) (fun h2 => ?_))
      · exact inner n 0 _ d1 (by omega) nI_0.symm rfl
      · have h2 : ¬ xt < s 1 := h2
        rw [hxt, hn, nI_ltI (by omega) (by omega)] at h2; omega
  exact outer n 0 _ dt (by omega) nI_0.symm rfl

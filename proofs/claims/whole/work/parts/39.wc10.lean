/-! ===== WishClerk: read, images, counts ===== -/
def w5 (x0 x1 x2 x3 x5 : Nat) (y7 y8 y9 : Int32) (s : Nat → Int32) (F : Nat → Nat → Int32) (ln sz : Nat → Int32) (cf : Nat → Nat → Int32) : sH := .inr (.inr (5, [.ref x0, .ref x1, .ref x2, .ref x3, .ref 11, .ref x5, .ref 1, .int y7, .int y8, .int y9])) :: (bkK 1 s F ++ .inr (.inl (4, [some 12, some 14, some 16, some 18])) :: shs 12 ln sz cf)
def w5fp (vs : sS) (L : sH) : List Nat := match vs with
  | .ref b :: _ => b :: (bkP L (s_rf L b 6) ++ shP L (s_rf L b 4))
  | _ => []
/-- ask(), over what holds and who lives -/
def p_ak (on nd cl wa : Nat → Int32) (n : Nat) (li ba : Int32) (d : Nat) (y h l w : Int32) : Int32 := if p_in y w = 0 then -1 else if p_hb h w = 0 then (if p_re on nd cl n li ba w h l d = 0 then p_bc (wa w.toNatClampNeg &&& (l ^^^ (-1))) else -4) else -2
/-- answer, what holds, who lives, the fault (none: it stays) -/
def p_rR (on nd cl fo wa : Nat → Int32) (n : Nat) (li ba : Int32) (d : Nat) (y h0 l0 ln sz la f : Int32) (cf : Nat → Int32) : Nat → Nat → Int32 → Int32 → Int32 × Int32 × Int32 × Option Int32
  | 0, c, h, l => (nI c, h, l, some 0)
  | k + 1, c, h, l =>
    if p_fa ln sz la (f + nI c) = 0 then
      (if p_ak on nd cl wa n li ba d y h l (cf (f + nI c).toNatClampNeg) < 0 then (-20 - nI c, h0, l0, none)
       else p_rR on nd cl fo wa n li ba d y h0 l0 ln sz la f cf k (c + 1) (h ||| fo (cf (f + nI c).toNatClampNeg).toNatClampNeg) (l ||| wa (cf (f + nI c).toNatClampNeg).toNatClampNeg))
    else (nI c, h, l, some (p_fa ln sz la (f + nI c)))
def p_rq (s : Nat → Int32) (F : Nat → Nat → Int32) (ln sz la f : Int32) (cf : Nat → Int32) (k : Nat) : Int32 × Int32 × Int32 × Option Int32 := p_rR (F 3) (F 4) (F 5) (F 6) (F 7) (s 1).toNatClampNeg (s 6) (s 4) (s 2).toNatClampNeg (s 1) (s 5) (s 3) ln sz la f cf k 0 (s 5) (s 3)
def p_rok (k l n : Int32) : Prop := ¬ k < 0 ∧ k < 4 ∧ ¬ l < 0 ∧ l < 3 ∧ ¬ n < 0 ∧ ¬ 20 < n
theorem q_ask_ye {s : Nat → Int32} {F : Nat → Nat → Int32} {w : Int32} (h : ¬ r_ask s F w < 0) : q_ask s F w = upd (upd s 5 (s 5 ||| F 6 w.toNatClampNeg)) 3 (s 3 ||| F 7 w.toNatClampNeg) := by
  unfold r_ask at h
  by_cases h1 : p_in (s 1) w = 0
  · rw [if_pos h1] at h; exact absurd (by decide) h
  rw [if_neg h1] at h
  by_cases h2 : p_hb (s 5) w = 0
  · rw [if_pos h2] at h
    by_cases h3 : p_reB s F w (s 5) (s 3) = 0
    · funext j; rw [q_ask, if_neg h1, if_pos h2, if_pos h3]
    · rw [if_neg h3] at h; exact absurd (by decide) h
  · rw [if_neg h2] at h; exact absurd (by decide) h
theorem q_ask_no {s : Nat → Int32} {F : Nat → Nat → Int32} {w : Int32} : ∃ h l, q_ask s F w = upd (upd s 5 h) 3 l := by
  have e : s = upd (upd s 5 (s 5)) 3 (s 3) := by
    funext j
    unfold upd
    by_cases h3 : j = 3
    · simp [h3]
    · by_cases h5 : j = 5
      · simp [h5]
      · simp [h3, h5]
  by_cases h1 : p_in (s 1) w = 0
  · exact ⟨s 5, s 3, by rw [← e]; funext j; rw [q_ask, if_pos h1]⟩
  by_cases h2 : p_hb (s 5) w = 0
  · by_cases h3 : p_reB s F w (s 5) (s 3) = 0
    · exact ⟨_, _, by funext j; rw [q_ask, if_neg h1, if_pos h2, if_pos h3]⟩
    · exact ⟨s 5, s 3, by rw [← e]; funext j; rw [q_ask, if_neg h1, if_pos h2, if_neg h3]⟩
  · exact ⟨s 5, s 3, by rw [← e]; funext j; rw [q_ask, if_neg h1, if_neg h2]⟩
theorem upd_53 (s : Nat → Int32) (a b c d : Int32) : upd (upd (upd (upd s 5 a) 3 b) 5 c) 3 d = upd (upd s 5 c) 3 d := by
  funext j
  unfold upd
  by_cases h3 : j = 3
  · simp [h3]
  · by_cases h5 : j = 5
    · simp [h5]
    · simp [h3, h5]
theorem upd_53s (s : Nat → Int32) : upd (upd s 5 (s 5)) 3 (s 3) = s := by
  funext j
  unfold upd
  by_cases h3 : j = 3
  · simp [h3]
  · by_cases h5 : j = 5
    · simp [h5]
    · simp [h3, h5]
theorem s_pk_conv {fp0 fp : List Nat} {cs L L2 : sH} {k : sH → Prop} (h : s_put fp0 fp cs L = L2) (hk : k L2) : s_pk fp0 fp cs L k := by
  rw [s_pk_eq, h]
  exact hk
/-- the answer of read(), the fields behind it, the fault of the latest -/
def r_read (s : Nat → Int32) (F : Nat → Nat → Int32) (ln sz : Nat → Int32) (cf : Nat → Nat → Int32) (k l f n : Int32) : Int32 := if k < 0 then -1 else if k < 4 then (if l < 0 then -1 else if l < 3 then (if n < 0 then -1 else if 20 < n then -1 else (p_rq s F (ln k.toNatClampNeg) (sz k.toNatClampNeg) l f (cf k.toNatClampNeg) n.toNatClampNeg).1) else -1) else -1
def q_read (s : Nat → Int32) (F : Nat → Nat → Int32) (ln sz : Nat → Int32) (cf : Nat → Nat → Int32) (k l f n : Int32) : Nat → Int32 := fun j => if k < 0 then s j else if k < 4 then (if l < 0 then s j else if l < 3 then (if n < 0 then s j else if 20 < n then s j else upd (upd s 5 (p_rq s F (ln k.toNatClampNeg) (sz k.toNatClampNeg) l f (cf k.toNatClampNeg) n.toNatClampNeg).2.1) 3 (p_rq s F (ln k.toNatClampNeg) (sz k.toNatClampNeg) l f (cf k.toNatClampNeg) n.toNatClampNeg).2.2.1 j) else s j) else s j
def t_read (s : Nat → Int32) (F : Nat → Nat → Int32) (ln sz : Nat → Int32) (cf : Nat → Nat → Int32) (k l f n y9 : Int32) : Int32 := if k < 0 then y9 else if k < 4 then (if l < 0 then y9 else if l < 3 then (if n < 0 then y9 else if 20 < n then y9 else ((p_rq s F (ln k.toNatClampNeg) (sz k.toNatClampNeg) l f (cf k.toNatClampNeg) n.toNatClampNeg).2.2.2).getD y9) else y9) else y9
def s_r9 (c : sC) (v : Int32) : sC := match c with
  | .inr (.inr (a, fs)) => .inr (.inr (a, s_set fs 9 (.int v)))
  | x => x
def c_X5_read : sCtr := ((yX5_read, cX5_read, 11, (some .int)), (6, 4, 5, 118), false,
  w5fp,
  fun vs L => ∃ (x0 x1 x2 x3 x5 : Nat) (y7 y8 y9 : Int32) (s : Nat → Int32) (F : Nat → Nat → Int32) (ln sz : Nat → Int32) (cf : Nat → Nat → Int32) (k l f m : Int32) (n d : Nat), vs = [.ref 0, .int k, .int l, .int f, .int m] ∧ L = w5 x0 x1 x2 x3 x5 y7 y8 y9 s F ln sz cf ∧ s 1 = nI n ∧ n ≤ 8 ∧ s 2 = nI d ∧ d ≤ 8 ∧ ∀ j, j < 4 → ∃ N, sz j = nI N ∧ N ≤ 40,
  fun vs L r L' => r = some (.int (r_read (oI L 1) (bG 1 L) (shL 12 L) (shZ 12 L) (shF 12 L) (vI vs 1) (vI vs 2) (vI vs 3) (vI vs 4))) ∧ L' = s_r9 (s_hd L) (t_read (oI L 1) (bG 1 L) (shL 12 L) (shZ 12 L) (shF 12 L) (vI vs 1) (vI vs 2) (vI vs 3) (vI vs 4) (oI L 0 9)) :: (bkK 1 (q_read (oI L 1) (bG 1 L) (shL 12 L) (shZ 12 L) (shF 12 L) (vI vs 1) (vI vs 2) (vI vs 3) (vI vs 4)) (bG 1 L) ++ .inr (.inl (4, [some 12, some 14, some 16, some 18])) :: shs 12 (shL 12 L) (shZ 12 L) (shF 12 L)))
theorem sta_X5_read : s_Sta c_X5_read := ⟨⟨by decide +kernel, by decide +kernel, by decide +kernel⟩, List.mem_of_getElem? (i := 797) (by decide +kernel), List.mem_of_getElem? (i := 64) (by decide +kernel), ⟨List.mem_of_getElem? (i := 795) (by decide +kernel), List.mem_of_getElem? (i := 796) (by decide +kernel), Or.inl ⟨_, rfl, rfl⟩⟩⟩

def k_X5_read : List sBk := [
  (0, false, [true, true, true, true, true, false, false, false, false, false, false], [o0 0 (.iload_n 1), oN 1 (.ifCond .lt 29) [1], o0 4 (.iload_n 1), oK 5 (.iconst 4) (.int 4), oN 6 (.if_icmp .ge 24) [1], o0 9 (.iload_n 2), oN 10 (.ifCond .lt 20) [1], o0 13 (.iload_n 2), oK 14 (.iconst 3) (.int 3), oN 15 (.if_icmp .ge 15) [1], o0 18 (.iload 4), oN 20 (.ifCond .lt 10) [1], o0 23 (.iload 4), oK 25 (.bipush 20) (.int 20), oN 27 (.if_icmp .le 5) [2], oN 30 .nop [1]]),
  (30, false, [false, false, false, false, false, false, false, false, false, false, false], [oK 30 (.iconst (-1)) (.int (-1)), o0 31 .ireturn]),
  (32, false, [true, true, true, true, true, false, false, false, false, false, false], [o0 32 (.aload_n 0), oN 33 (.getfield 40) [5, 4, 302], o0 36 (.iload_n 1), o0 37 .aaload, o0 38 (.astore 5), o0 40 (.aload_n 0), oN 41 (.getfield 49) [5, 6, 304], oN 44 (.getfield 94) [0, 5, 134], o0 47 (.istore 6), o0 49 (.aload_n 0), oN 50 (.getfield 49) [5, 6, 304], oN 53 (.getfield 88) [0, 3, 127], o0 56 (.istore 7), oK 58 (.iconst 0) (.int 0), o0 59 (.istore 8), oK 61 (.iconst 0) (.int 0), o0 62 (.istore 9), oN 64 .nop [3]]),
  (64, true, [true, false, true, true, true, true, true, true, true, true, false], [o0 64 (.iload 8), o0 66 (.iload 4), oN 68 (.if_icmp .ge 72) [6], o0 71 (.iload_n 3), o0 72 (.iload 8), o0 74 .iadd, o0 75 (.istore 10), o0 77 (.aload 5), o0 79 (.iload_n 2), o0 80 (.iload 10), oC 82 (.invokevirtual 261) [782] c_X3_faultAt, o0 85 (.istore 9), o0 87 (.iload 9), oN 89 (.ifCond .eq 6) [4], oN 92 (.goto 48) [6]]),
  (95, false, [true, false, true, true, true, true, true, true, true, true, true], [o0 95 (.aload_n 0), o0 96 (.aload 5), oN 98 (.getfield 267) [3, 0, 286], o0 101 (.iload 10), o0 103 .iaload, oC 104 (.invokevirtual 270) [798] c_X5_ask, oN 107 (.ifCond .ge 27) [5], o0 110 (.aload_n 0), oN 111 (.getfield 49) [5, 6, 304], o0 114 (.iload 6), oN 116 (.putfield 94) [0, 5, 134], o0 119 (.aload_n 0), oN 120 (.getfield 49) [5, 6, 304], o0 123 (.iload 7), oN 125 (.putfield 88) [0, 3, 127], oK 128 (.bipush (-20)) (.int (-20)), o0 130 (.iload 8), o0 132 .isub, o0 133 .ireturn]),
  (134, false, [true, false, true, true, true, true, true, true, true, true, false], [oK 134 (.iinc 8 1) (.int 1), oN 137 (.goto (-73)) [3]]),
  (140, false, [true, false, false, false, false, false, false, false, true, true, false], [o0 140 (.aload_n 0), o0 141 (.iload 9), oN 143 (.putfield 273) [5, 9, 307], o0 146 (.iload 8), o0 148 .ireturn])]
set_option maxRecDepth 100000 in
theorem ck_X5_read : s_ck RX5 cX5_read 11 5 118 k_X5_read = true := by decide +kernel

set_option maxRecDepth 100000 in
set_option maxHeartbeats 1000000 in
theorem ok_X5_read : s_Ok c_X5_read := by
  refine s_ok_of k_X5_read (by decide +kernel) sta_X5_read ck_X5_read (And.intro ok_X3_faultAt (And.intro ok_X5_ask trivial)) ?_
  rintro vs L ⟨x0, x1, x2, x3, x5, y7, y8, y9, s, F, ln, sz, cf, k, l, f, m, n, d, rfl, rfl, hn, hn8, hd, hd8, hsz⟩
  refine ⟨rfl, fun G hG => ?_⟩
  obtain ⟨W0, hW0⟩ : ∃ W0, W0 = w5 x0 x1 x2 x3 x5 y7 y8 y9 s F ln sz cf := ⟨_, rfl⟩
  have fin : ∀ (a t : Int32) (s2 : Nat → Int32), a = r_read (oI W0 1) (bG 1 W0) (shL 12 W0) (shZ 12 W0) (shF 12 W0) k l f m → t = t_read (oI W0 1) (bG 1 W0) (shL 12 W0) (shZ 12 W0) (shF 12 W0) k l f m y9 → bkK 1 s2 F = bkK 1 (q_read (oI W0 1) (bG 1 W0) (shL 12 W0) (shZ 12 W0) (shF 12 W0) k l f m) F → s_PP (some .int) false c_X5_read.2.2.2.2.2 [.ref 0, .int k, .int l, .int f, .int m] (w5 x0 x1 x2 x3 x5 y7 y8 y9 s F ln sz cf) (some (.int a)) (w5 x0 x1 x2 x3 x5 y7 y8 t s2 F ln sz cf) := by
    intro a t s2 ha ht hs
    subst hW0
    refine ⟨rfl, ⟨by rw [ha]; rfl, ?_⟩, fun h => by cases h⟩
    have e : w5 x0 x1 x2 x3 x5 y7 y8 t s2 F ln sz cf = .inr (.inr (5, [.ref x0, .ref x1, .ref x2, .ref x3, .ref 11, .ref x5, .ref 1, .int y7, .int y8, .int t])) :: (bkK 1 s2 F ++ .inr (.inl (4, [some 12, some 14, some 16, some 18])) :: shs 12 ln sz cf) := rfl
    rw [e, hs, ht]
    rfl
  have same : bkK 1 s F = bkK 1 (oI W0 1) F := by subst hW0; rfl
  have bad : (∀ (q : Int32), r_read (oI W0 1) (bG 1 W0) (shL 12 W0) (shZ 12 W0) (shF 12 W0) k l f m = -1) → t_read (oI W0 1) (bG 1 W0) (shL 12 W0) (shZ 12 W0) (shF 12 W0) k l f m y9 = y9 → q_read (oI W0 1) (bG 1 W0) (shL 12 W0) (shZ 12 W0) (shF 12 W0) k l f m = oI W0 1 → s_PP (some .int) false c_X5_read.2.2.2.2.2 [.ref 0, .int k, .int l, .int f, .int m] (w5 x0 x1 x2 x3 x5 y7 y8 y9 s F ln sz cf) (some (.int (-1))) (w5 x0 x1 x2 x3 x5 y7 y8 y9 s F ln sz cf) := fun h1 h2 h3 => fin _ _ s (h1 0).symm h2.symm (by rw [h3, same])
  refine hG 0 _ _ _ (And.intro (fun h => ?_) (fun h => ?_))
  · exact bad (fun _ => by rw [r_read, if_pos h]) (by rw [t_read, if_pos h]) (by funext j; rw [q_read, if_pos h])
  refine And.intro (fun h2 => ?_) (fun h2 => ?_)
  rotate_left
  · exact bad (fun _ => by rw [r_read, if_neg h, if_neg h2]) (by rw [t_read, if_neg h, if_neg h2]) (by funext j; rw [q_read, if_neg h, if_neg h2])
  refine And.intro (fun h3 => ?_) (fun h3 => ?_)
  · exact bad (fun _ => by rw [r_read, if_neg h, if_pos h2, if_pos h3]) (by rw [t_read, if_neg h, if_pos h2, if_pos h3]) (by funext j; rw [q_read, if_neg h, if_pos h2, if_pos h3])
  refine And.intro (fun h4 => ?_) (fun h4 => ?_)
  rotate_left
  · exact bad (fun _ => by rw [r_read, if_neg h, if_pos h2, if_neg h3, if_neg h4]) (by rw [t_read, if_neg h, if_pos h2, if_neg h3, if_neg h4]) (by funext j; rw [q_read, if_neg h, if_pos h2, if_neg h3, if_neg h4])
  refine And.intro (fun h5 => ?_) (fun h5 => ?_)
  · exact bad (fun _ => by rw [r_read, if_neg h, if_pos h2, if_neg h3, if_pos h4, if_pos h5]) (by rw [t_read, if_neg h, if_pos h2, if_neg h3, if_pos h4, if_pos h5]) (by funext j; rw [q_read, if_neg h, if_pos h2, if_neg h3, if_pos h4, if_pos h5])
  refine And.intro (fun h6 => ?_) (fun h6 => ?_)
  · exact bad (fun _ => by rw [r_read, if_neg h, if_pos h2, if_neg h3, if_pos h4, if_neg h5, if_pos h6]) (by rw [t_read, if_neg h, if_pos h2, if_neg h3, if_pos h4, if_neg h5, if_pos h6]) (by funext j; rw [q_read, if_neg h, if_pos h2, if_neg h3, if_pos h4, if_neg h5, if_pos h6])
  obtain ⟨M, hM31, rfl⟩ := nI_of h5
  have hM20 : M ≤ 20 := by
    rcases Nat.lt_or_ge 20 M with q | q
    · exact absurd ((nI_ltI (a := 20) (by omega) hM31).mpr q) h6
    · exact q
  have fin2 : ∀ (K : Nat) (P : Int32 × Int32 × Int32 × Option Int32) (a t : Int32) (s2 : Nat → Int32), k.toNatClampNeg = K → P = p_rq (oI W0 1) (bG 1 W0) (shL 12 W0 K) (shZ 12 W0 K) l f (shF 12 W0 K) M → a = P.1 → t = P.2.2.2.getD y9 → s2 = upd (upd s 5 P.2.1) 3 P.2.2.1 → s_PP (some .int) false c_X5_read.2.2.2.2.2 [.ref 0, .int k, .int l, .int f, .int (nI M)] (w5 x0 x1 x2 x3 x5 y7 y8 y9 s F ln sz cf) (some (.int a)) (w5 x0 x1 x2 x3 x5 y7 y8 t s2 F ln sz cf) := by
    intro K P a t s2 hK hP ha ht hs
    refine fin a t s2 ?_ ?_ ?_
    · rw [r_read, if_neg h, if_pos h2, if_neg h3, if_pos h4, if_neg h5, if_neg h6, hK, nI_clamp hM31, ← hP, ha]
    · rw [t_read, if_neg h, if_pos h2, if_neg h3, if_pos h4, if_neg h5, if_neg h6, hK, nI_clamp hM31, ← hP, ht]
    · have e : q_read (oI W0 1) (bG 1 W0) (shL 12 W0) (shZ 12 W0) (shF 12 W0) k l f (nI M) = upd (upd (oI W0 1) 5 P.2.1) 3 P.2.2.1 := by
        funext j; rw [q_read, if_neg h, if_pos h2, if_neg h3, if_pos h4, if_neg h5, if_neg h6, hK, nI_clamp hM31, ← hP]
      rw [e, hs]
      subst hW0
      rfl
  subst hW0
  rcases in4 h h2 with rfl | rfl | rfl | rfl
  · refine And.intro (vp_in_nI (by decide) (by decide)) ?_
    obtain ⟨N, hsN, hN⟩ := hsz 0 (by omega)
    have loop : ∀ (r c : Nat) (x fo h9 l9 : Int32), c + r = M → x = nI c → fo = 0 → p_rR (F 3) (F 4) (F 5) (F 6) (F 7) (s 1).toNatClampNeg (s 6) (s 4) (s 2).toNatClampNeg (s 1) (s 5) (s 3) (ln 0) (sz 0) l f (cf 0) r c h9 l9 = p_rq s F (ln 0) (sz 0) l f (cf 0) M → G 3 [some (.ref 0), none, some (.int l), some (.int f), some (.int (nI M)), some (.ref 12), some (.int (s 5)), some (.int (s 3)), some (.int x), some (.int fo), none] [] (w5 x0 x1 x2 x3 x5 y7 y8 y9 (upd (upd s 5 h9) 3 l9) F ln sz cf) := by
      intro r
      induction r with
      | zero =>
        intro c x fo h9 l9 hc hx hfo hP
        refine hG 3 _ _ _ (And.intro (fun q => ?_) (fun q => ?_))
        · rw [hx, nI_ltI (by omega) (by omega)] at q; omega
        · exact fin2 0 _ _ _ _ (by decide) hP (by rw [hx]; rfl) (by rw [hfo]; rfl) rfl
      | succ r ih =>
        intro c x fo h9 l9 hc hx hfo hP
        refine hG 3 _ _ _ (And.intro (fun q => ?_) (fun q => ?_))
        · refine And.intro ⟨_, _, _, _, _, rfl, rfl⟩ ?_
          intro rr hr
          obtain ⟨fa, hfa⟩ : ∃ fa, fa = p_fa (ln 0) (sz 0) l (f + x) := ⟨_, rfl⟩
          obtain rfl : rr = some (.int fa) := by rw [hfa]; exact hr
          rw [hx] at hfa
          refine And.intro (fun h7 => ?_) (fun h7 => ?_)
          · have hf0 : p_fa (ln 0) (sz 0) l (f + nI c) = 0 := hfa.symm.trans h7
            have hin := (p_fa_0 hsN hN hf0).1
            rw [← hx] at hin
            refine And.intro hin (And.intro ⟨_, _, _, _, _, _, _, _, _, upd (upd s 5 h9) 3 l9, F, _, n, d, rfl, rfl, hn, hn8, hd, hd8⟩ ?_)
            rintro rr L' ⟨hr1, hr2⟩
            obtain ⟨ak, hak⟩ : ∃ ak, ak = r_ask (upd (upd s 5 h9) 3 l9) F (cf 0 (f + x).toNatClampNeg) := ⟨_, rfl⟩
            obtain rfl : rr = some (.int ak) := by rw [hak]; exact hr1
            obtain ⟨s3, hs3⟩ : ∃ s3, s3 = q_ask (upd (upd s 5 h9) 3 l9) F (cf 0 (f + x).toNatClampNeg) := ⟨_, rfl⟩
            obtain rfl : L' = .inr (.inr (5, [.ref (s_rho [0, 1, 2, 3, 4, 5, 6, 7, 8, 9, 10] x0), .ref (s_rho [0, 1, 2, 3, 4, 5, 6, 7, 8, 9, 10] x1), .ref (s_rho [0, 1, 2, 3, 4, 5, 6, 7, 8, 9, 10] x2), .ref (s_rho [0, 1, 2, 3, 4, 5, 6, 7, 8, 9, 10] x3), .ref 1011, .ref (s_rho [0, 1, 2, 3, 4, 5, 6, 7, 8, 9, 10] x5), .ref 1, .int y7, .int y8, .int y9])) :: bkK 1 s3 F := by rw [hs3]; exact hr2
            have hak2 : ak = p_ak (F 3) (F 4) (F 5) (F 7) (s 1).toNatClampNeg (s 6) (s 4) (s 2).toNatClampNeg (s 1) h9 l9 (cf 0 (f + nI c).toNatClampNeg) := by rw [hak, hx]; rfl
            have ue := s_un_rho [0, 1, 2, 3, 4, 5, 6, 7, 8, 9, 10] (by decide)
            refine s_pk_conv (L2 := w5 x0 x1 x2 x3 x5 y7 y8 y9 s3 F ln sz cf) ?_ ?_
            · show (.inr (.inr (5, [.ref (s_un [0, 1, 2, 3, 4, 5, 6, 7, 8, 9, 10] (s_rho [0, 1, 2, 3, 4, 5, 6, 7, 8, 9, 10] x0)), .ref (s_un [0, 1, 2, 3, 4, 5, 6, 7, 8, 9, 10] (s_rho [0, 1, 2, 3, 4, 5, 6, 7, 8, 9, 10] x1)), .ref (s_un [0, 1, 2, 3, 4, 5, 6, 7, 8, 9, 10] (s_rho [0, 1, 2, 3, 4, 5, 6, 7, 8, 9, 10] x2)), .ref (s_un [0, 1, 2, 3, 4, 5, 6, 7, 8, 9, 10] (s_rho [0, 1, 2, 3, 4, 5, 6, 7, 8, 9, 10] x3)), .ref 11, .ref (s_un [0, 1, 2, 3, 4, 5, 6, 7, 8, 9, 10] (s_rho [0, 1, 2, 3, 4, 5, 6, 7, 8, 9, 10] x5)), .ref 1, .int y7, .int y8, .int y9])) :: (bkK 1 s3 F ++ .inr (.inl (4, [some 12, some 14, some 16, some 18])) :: shs 12 ln sz cf) : sH) = _
              rw [ue x0, ue x1, ue x2, ue x3, ue x5]
              rfl
            refine And.intro (fun h8 => ?_) (fun h8 => ?_)
            · obtain ⟨hh, ll, hq⟩ := q_ask_no (s := upd (upd s 5 h9) 3 l9) (F := F) (w := cf 0 (f + x).toNatClampNeg)
              rw [← hs3, upd_53] at hq
              have h8 : ak < 0 := h8
              refine fin2 0 _ _ _ (upd (upd s3 5 (s 5)) 3 (s 3)) (by decide) hP ?_ ?_ ?_
              · rw [p_rR, if_pos hf0, ← hak2, if_pos h8, hx]
              · rw [p_rR, if_pos hf0, ← hak2, if_pos h8]; rfl
              · rw [p_rR, if_pos hf0, ← hak2, if_pos h8, hq, upd_53]
            · have h8 : ¬ ak < 0 := h8
              have hq := q_ask_ye (s := upd (upd s 5 h9) 3 l9) (F := F) (w := cf 0 (f + x).toNatClampNeg) (by rw [← hak]; exact h8)
              rw [← hs3] at hq
              have hq2 : s3 = upd (upd s 5 (h9 ||| F 6 (cf 0 (f + nI c).toNatClampNeg).toNatClampNeg)) 3 (l9 ||| F 7 (cf 0 (f + nI c).toNatClampNeg).toNatClampNeg) := by
                rw [hq, upd_53, hx]; rfl
              rw [hq2]
              refine ih (c + 1) _ _ _ _ (by omega) (by rw [hx, nI_1]) h7 ?_
              rw [← hP, p_rR, if_pos hf0, ← hak2, if_neg h8]
          · have hf0 : ¬ p_fa (ln 0) (sz 0) l (f + nI c) = 0 := fun z => h7 (hfa.trans z)
            refine fin2 0 _ _ _ _ (by decide) hP ?_ ?_ ?_
            · rw [p_rR, if_neg hf0, hx]
            · rw [p_rR, if_neg hf0, hfa]; rfl
            · rw [p_rR, if_neg hf0]
        · rw [hx, nI_ltI (by omega) (by omega)] at q; omega
    have e0 := upd_53s s
    have := loop M 0 (nI 0) 0 (s 5) (s 3) (by omega) rfl rfl rfl
    rw [e0] at this
    exact this
  · refine And.intro (vp_in_nI (by decide) (by decide)) ?_
    obtain ⟨N, hsN, hN⟩ := hsz 1 (by omega)
    have loop : ∀ (r c : Nat) (x fo h9 l9 : Int32), c + r = M → x = nI c → fo = 0 → p_rR (F 3) (F 4) (F 5) (F 6) (F 7) (s 1).toNatClampNeg (s 6) (s 4) (s 2).toNatClampNeg (s 1) (s 5) (s 3) (ln 1) (sz 1) l f (cf 1) r c h9 l9 = p_rq s F (ln 1) (sz 1) l f (cf 1) M → G 3 [some (.ref 0), none, some (.int l), some (.int f), some (.int (nI M)), some (.ref 14), some (.int (s 5)), some (.int (s 3)), some (.int x), some (.int fo), none] [] (w5 x0 x1 x2 x3 x5 y7 y8 y9 (upd (upd s 5 h9) 3 l9) F ln sz cf) := by
      intro r
      induction r with
      | zero =>
        intro c x fo h9 l9 hc hx hfo hP
        refine hG 3 _ _ _ (And.intro (fun q => ?_) (fun q => ?_))
        · rw [hx, nI_ltI (by omega) (by omega)] at q; omega
        · exact fin2 1 _ _ _ _ (by decide) hP (by rw [hx]; rfl) (by rw [hfo]; rfl) rfl
      | succ r ih =>
        intro c x fo h9 l9 hc hx hfo hP
        refine hG 3 _ _ _ (And.intro (fun q => ?_) (fun q => ?_))
        · refine And.intro ⟨_, _, _, _, _, rfl, rfl⟩ ?_
          intro rr hr
          obtain ⟨fa, hfa⟩ : ∃ fa, fa = p_fa (ln 1) (sz 1) l (f + x) := ⟨_, rfl⟩
          obtain rfl : rr = some (.int fa) := by rw [hfa]; exact hr
          rw [hx] at hfa
          refine And.intro (fun h7 => ?_) (fun h7 => ?_)
          · have hf0 : p_fa (ln 1) (sz 1) l (f + nI c) = 0 := hfa.symm.trans h7
            have hin := (p_fa_0 hsN hN hf0).1
            rw [← hx] at hin
            refine And.intro hin (And.intro ⟨_, _, _, _, _, _, _, _, _, upd (upd s 5 h9) 3 l9, F, _, n, d, rfl, rfl, hn, hn8, hd, hd8⟩ ?_)
            rintro rr L' ⟨hr1, hr2⟩
            obtain ⟨ak, hak⟩ : ∃ ak, ak = r_ask (upd (upd s 5 h9) 3 l9) F (cf 1 (f + x).toNatClampNeg) := ⟨_, rfl⟩
            obtain rfl : rr = some (.int ak) := by rw [hak]; exact hr1
            obtain ⟨s3, hs3⟩ : ∃ s3, s3 = q_ask (upd (upd s 5 h9) 3 l9) F (cf 1 (f + x).toNatClampNeg) := ⟨_, rfl⟩
            obtain rfl : L' = .inr (.inr (5, [.ref (s_rho [0, 1, 2, 3, 4, 5, 6, 7, 8, 9, 10] x0), .ref (s_rho [0, 1, 2, 3, 4, 5, 6, 7, 8, 9, 10] x1), .ref (s_rho [0, 1, 2, 3, 4, 5, 6, 7, 8, 9, 10] x2), .ref (s_rho [0, 1, 2, 3, 4, 5, 6, 7, 8, 9, 10] x3), .ref 1011, .ref (s_rho [0, 1, 2, 3, 4, 5, 6, 7, 8, 9, 10] x5), .ref 1, .int y7, .int y8, .int y9])) :: bkK 1 s3 F := by rw [hs3]; exact hr2
            have hak2 : ak = p_ak (F 3) (F 4) (F 5) (F 7) (s 1).toNatClampNeg (s 6) (s 4) (s 2).toNatClampNeg (s 1) h9 l9 (cf 1 (f + nI c).toNatClampNeg) := by rw [hak, hx]; rfl
            have ue := s_un_rho [0, 1, 2, 3, 4, 5, 6, 7, 8, 9, 10] (by decide)
            refine s_pk_conv (L2 := w5 x0 x1 x2 x3 x5 y7 y8 y9 s3 F ln sz cf) ?_ ?_
            · show (.inr (.inr (5, [.ref (s_un [0, 1, 2, 3, 4, 5, 6, 7, 8, 9, 10] (s_rho [0, 1, 2, 3, 4, 5, 6, 7, 8, 9, 10] x0)), .ref (s_un [0, 1, 2, 3, 4, 5, 6, 7, 8, 9, 10] (s_rho [0, 1, 2, 3, 4, 5, 6, 7, 8, 9, 10] x1)), .ref (s_un [0, 1, 2, 3, 4, 5, 6, 7, 8, 9, 10] (s_rho [0, 1, 2, 3, 4, 5, 6, 7, 8, 9, 10] x2)), .ref (s_un [0, 1, 2, 3, 4, 5, 6, 7, 8, 9, 10] (s_rho [0, 1, 2, 3, 4, 5, 6, 7, 8, 9, 10] x3)), .ref 11, .ref (s_un [0, 1, 2, 3, 4, 5, 6, 7, 8, 9, 10] (s_rho [0, 1, 2, 3, 4, 5, 6, 7, 8, 9, 10] x5)), .ref 1, .int y7, .int y8, .int y9])) :: (bkK 1 s3 F ++ .inr (.inl (4, [some 12, some 14, some 16, some 18])) :: shs 12 ln sz cf) : sH) = _
              rw [ue x0, ue x1, ue x2, ue x3, ue x5]
              rfl
            refine And.intro (fun h8 => ?_) (fun h8 => ?_)
            · obtain ⟨hh, ll, hq⟩ := q_ask_no (s := upd (upd s 5 h9) 3 l9) (F := F) (w := cf 1 (f + x).toNatClampNeg)
              rw [← hs3, upd_53] at hq
              have h8 : ak < 0 := h8
              refine fin2 1 _ _ _ (upd (upd s3 5 (s 5)) 3 (s 3)) (by decide) hP ?_ ?_ ?_
              · rw [p_rR, if_pos hf0, ← hak2, if_pos h8, hx]
              · rw [p_rR, if_pos hf0, ← hak2, if_pos h8]; rfl
              · rw [p_rR, if_pos hf0, ← hak2, if_pos h8, hq, upd_53]
            · have h8 : ¬ ak < 0 := h8
              have hq := q_ask_ye (s := upd (upd s 5 h9) 3 l9) (F := F) (w := cf 1 (f + x).toNatClampNeg) (by rw [← hak]; exact h8)
              rw [← hs3] at hq
              have hq2 : s3 = upd (upd s 5 (h9 ||| F 6 (cf 1 (f + nI c).toNatClampNeg).toNatClampNeg)) 3 (l9 ||| F 7 (cf 1 (f + nI c).toNatClampNeg).toNatClampNeg) := by
                rw [hq, upd_53, hx]; rfl
              rw [hq2]
              refine ih (c + 1) _ _ _ _ (by omega) (by rw [hx, nI_1]) h7 ?_
              rw [← hP, p_rR, if_pos hf0, ← hak2, if_neg h8]
          · have hf0 : ¬ p_fa (ln 1) (sz 1) l (f + nI c) = 0 := fun z => h7 (hfa.trans z)
            refine fin2 1 _ _ _ _ (by decide) hP ?_ ?_ ?_
            · rw [p_rR, if_neg hf0, hx]
            · rw [p_rR, if_neg hf0, hfa]; rfl
            · rw [p_rR, if_neg hf0]
        · rw [hx, nI_ltI (by omega) (by omega)] at q; omega
    have e0 := upd_53s s
    have := loop M 0 (nI 0) 0 (s 5) (s 3) (by omega) rfl rfl rfl
    rw [e0] at this
    exact this
  · refine And.intro (vp_in_nI (by decide) (by decide)) ?_
    obtain ⟨N, hsN, hN⟩ := hsz 2 (by omega)
    have loop : ∀ (r c : Nat) (x fo h9 l9 : Int32), c + r = M → x = nI c → fo = 0 → p_rR (F 3) (F 4) (F 5) (F 6) (F 7) (s 1).toNatClampNeg (s 6) (s 4) (s 2).toNatClampNeg (s 1) (s 5) (s 3) (ln 2) (sz 2) l f (cf 2) r c h9 l9 = p_rq s F (ln 2) (sz 2) l f (cf 2) M → G 3 [some (.ref 0), none, some (.int l), some (.int f), some (.int (nI M)), some (.ref 16), some (.int (s 5)), some (.int (s 3)), some (.int x), some (.int fo), none] [] (w5 x0 x1 x2 x3 x5 y7 y8 y9 (upd (upd s 5 h9) 3 l9) F ln sz cf) := by
      intro r
      induction r with
      | zero =>
        intro c x fo h9 l9 hc hx hfo hP
        refine hG 3 _ _ _ (And.intro (fun q => ?_) (fun q => ?_))
        · rw [hx, nI_ltI (by omega) (by omega)] at q; omega
        · exact fin2 2 _ _ _ _ (by decide) hP (by rw [hx]; rfl) (by rw [hfo]; rfl) rfl
      | succ r ih =>
        intro c x fo h9 l9 hc hx hfo hP
        refine hG 3 _ _ _ (And.intro (fun q => ?_) (fun q => ?_))
        · refine And.intro ⟨_, _, _, _, _, rfl, rfl⟩ ?_
          intro rr hr
          obtain ⟨fa, hfa⟩ : ∃ fa, fa = p_fa (ln 2) (sz 2) l (f + x) := ⟨_, rfl⟩
          obtain rfl : rr = some (.int fa) := by rw [hfa]; exact hr
          rw [hx] at hfa
          refine And.intro (fun h7 => ?_) (fun h7 => ?_)
          · have hf0 : p_fa (ln 2) (sz 2) l (f + nI c) = 0 := hfa.symm.trans h7
            have hin := (p_fa_0 hsN hN hf0).1
            rw [← hx] at hin
            refine And.intro hin (And.intro ⟨_, _, _, _, _, _, _, _, _, upd (upd s 5 h9) 3 l9, F, _, n, d, rfl, rfl, hn, hn8, hd, hd8⟩ ?_)
            rintro rr L' ⟨hr1, hr2⟩
            obtain ⟨ak, hak⟩ : ∃ ak, ak = r_ask (upd (upd s 5 h9) 3 l9) F (cf 2 (f + x).toNatClampNeg) := ⟨_, rfl⟩
            obtain rfl : rr = some (.int ak) := by rw [hak]; exact hr1
            obtain ⟨s3, hs3⟩ : ∃ s3, s3 = q_ask (upd (upd s 5 h9) 3 l9) F (cf 2 (f + x).toNatClampNeg) := ⟨_, rfl⟩
            obtain rfl : L' = .inr (.inr (5, [.ref (s_rho [0, 1, 2, 3, 4, 5, 6, 7, 8, 9, 10] x0), .ref (s_rho [0, 1, 2, 3, 4, 5, 6, 7, 8, 9, 10] x1), .ref (s_rho [0, 1, 2, 3, 4, 5, 6, 7, 8, 9, 10] x2), .ref (s_rho [0, 1, 2, 3, 4, 5, 6, 7, 8, 9, 10] x3), .ref 1011, .ref (s_rho [0, 1, 2, 3, 4, 5, 6, 7, 8, 9, 10] x5), .ref 1, .int y7, .int y8, .int y9])) :: bkK 1 s3 F := by rw [hs3]; exact hr2
            have hak2 : ak = p_ak (F 3) (F 4) (F 5) (F 7) (s 1).toNatClampNeg (s 6) (s 4) (s 2).toNatClampNeg (s 1) h9 l9 (cf 2 (f + nI c).toNatClampNeg) := by rw [hak, hx]; rfl
            have ue := s_un_rho [0, 1, 2, 3, 4, 5, 6, 7, 8, 9, 10] (by decide)
            refine s_pk_conv (L2 := w5 x0 x1 x2 x3 x5 y7 y8 y9 s3 F ln sz cf) ?_ ?_
            · show (.inr (.inr (5, [.ref (s_un [0, 1, 2, 3, 4, 5, 6, 7, 8, 9, 10] (s_rho [0, 1, 2, 3, 4, 5, 6, 7, 8, 9, 10] x0)), .ref (s_un [0, 1, 2, 3, 4, 5, 6, 7, 8, 9, 10] (s_rho [0, 1, 2, 3, 4, 5, 6, 7, 8, 9, 10] x1)), .ref (s_un [0, 1, 2, 3, 4, 5, 6, 7, 8, 9, 10] (s_rho [0, 1, 2, 3, 4, 5, 6, 7, 8, 9, 10] x2)), .ref (s_un [0, 1, 2, 3, 4, 5, 6, 7, 8, 9, 10] (s_rho [0, 1, 2, 3, 4, 5, 6, 7, 8, 9, 10] x3)), .ref 11, .ref (s_un [0, 1, 2, 3, 4, 5, 6, 7, 8, 9, 10] (s_rho [0, 1, 2, 3, 4, 5, 6, 7, 8, 9, 10] x5)), .ref 1, .int y7, .int y8, .int y9])) :: (bkK 1 s3 F ++ .inr (.inl (4, [some 12, some 14, some 16, some 18])) :: shs 12 ln sz cf) : sH) = _
              rw [ue x0, ue x1, ue x2, ue x3, ue x5]
              rfl
            refine And.intro (fun h8 => ?_) (fun h8 => ?_)
            · obtain ⟨hh, ll, hq⟩ := q_ask_no (s := upd (upd s 5 h9) 3 l9) (F := F) (w := cf 2 (f + x).toNatClampNeg)
              rw [← hs3, upd_53] at hq
              have h8 : ak < 0 := h8
              refine fin2 2 _ _ _ (upd (upd s3 5 (s 5)) 3 (s 3)) (by decide) hP ?_ ?_ ?_
              · rw [p_rR, if_pos hf0, ← hak2, if_pos h8, hx]
              · rw [p_rR, if_pos hf0, ← hak2, if_pos h8]; rfl
              · rw [p_rR, if_pos hf0, ← hak2, if_pos h8, hq, upd_53]
            · have h8 : ¬ ak < 0 := h8
              have hq := q_ask_ye (s := upd (upd s 5 h9) 3 l9) (F := F) (w := cf 2 (f + x).toNatClampNeg) (by rw [← hak]; exact h8)
              rw [← hs3] at hq
              have hq2 : s3 = upd (upd s 5 (h9 ||| F 6 (cf 2 (f + nI c).toNatClampNeg).toNatClampNeg)) 3 (l9 ||| F 7 (cf 2 (f + nI c).toNatClampNeg).toNatClampNeg) := by
                rw [hq, upd_53, hx]; rfl
              rw [hq2]
              refine ih (c + 1) _ _ _ _ (by omega) (by rw [hx, nI_1]) h7 ?_
              rw [← hP, p_rR, if_pos hf0, ← hak2, if_neg h8]
          · have hf0 : ¬ p_fa (ln 2) (sz 2) l (f + nI c) = 0 := fun z => h7 (hfa.trans z)
            refine fin2 2 _ _ _ _ (by decide) hP ?_ ?_ ?_
            · rw [p_rR, if_neg hf0, hx]
            · rw [p_rR, if_neg hf0, hfa]; rfl
            · rw [p_rR, if_neg hf0]
        · rw [hx, nI_ltI (by omega) (by omega)] at q; omega
    have e0 := upd_53s s
    have := loop M 0 (nI 0) 0 (s 5) (s 3) (by omega) rfl rfl rfl
    rw [e0] at this
    exact this
  · refine And.intro (vp_in_nI (by decide) (by decide)) ?_
    obtain ⟨N, hsN, hN⟩ := hsz 3 (by omega)
    have loop : ∀ (r c : Nat) (x fo h9 l9 : Int32), c + r = M → x = nI c → fo = 0 → p_rR (F 3) (F 4) (F 5) (F 6) (F 7) (s 1).toNatClampNeg (s 6) (s 4) (s 2).toNatClampNeg (s 1) (s 5) (s 3) (ln 3) (sz 3) l f (cf 3) r c h9 l9 = p_rq s F (ln 3) (sz 3) l f (cf 3) M → G 3 [some (.ref 0), none, some (.int l), some (.int f), some (.int (nI M)), some (.ref 18), some (.int (s 5)), some (.int (s 3)), some (.int x), some (.int fo), none] [] (w5 x0 x1 x2 x3 x5 y7 y8 y9 (upd (upd s 5 h9) 3 l9) F ln sz cf) := by
      intro r
      induction r with
      | zero =>
        intro c x fo h9 l9 hc hx hfo hP
        refine hG 3 _ _ _ (And.intro (fun q => ?_) (fun q => ?_))
        · rw [hx, nI_ltI (by omega) (by omega)] at q; omega
        · exact fin2 3 _ _ _ _ (by decide) hP (by rw [hx]; rfl) (by rw [hfo]; rfl) rfl
      | succ r ih =>
        intro c x fo h9 l9 hc hx hfo hP
        refine hG 3 _ _ _ (And.intro (fun q => ?_) (fun q => ?_))
        · refine And.intro ⟨_, _, _, _, _, rfl, rfl⟩ ?_
          intro rr hr
          obtain ⟨fa, hfa⟩ : ∃ fa, fa = p_fa (ln 3) (sz 3) l (f + x) := ⟨_, rfl⟩
          obtain rfl : rr = some (.int fa) := by rw [hfa]; exact hr
          rw [hx] at hfa
          refine And.intro (fun h7 => ?_) (fun h7 => ?_)
          · have hf0 : p_fa (ln 3) (sz 3) l (f + nI c) = 0 := hfa.symm.trans h7
            have hin := (p_fa_0 hsN hN hf0).1
            rw [← hx] at hin
            refine And.intro hin (And.intro ⟨_, _, _, _, _, _, _, _, _, upd (upd s 5 h9) 3 l9, F, _, n, d, rfl, rfl, hn, hn8, hd, hd8⟩ ?_)
            rintro rr L' ⟨hr1, hr2⟩
            obtain ⟨ak, hak⟩ : ∃ ak, ak = r_ask (upd (upd s 5 h9) 3 l9) F (cf 3 (f + x).toNatClampNeg) := ⟨_, rfl⟩
            obtain rfl : rr = some (.int ak) := by rw [hak]; exact hr1
            obtain ⟨s3, hs3⟩ : ∃ s3, s3 = q_ask (upd (upd s 5 h9) 3 l9) F (cf 3 (f + x).toNatClampNeg) := ⟨_, rfl⟩
            obtain rfl : L' = .inr (.inr (5, [.ref (s_rho [0, 1, 2, 3, 4, 5, 6, 7, 8, 9, 10] x0), .ref (s_rho [0, 1, 2, 3, 4, 5, 6, 7, 8, 9, 10] x1), .ref (s_rho [0, 1, 2, 3, 4, 5, 6, 7, 8, 9, 10] x2), .ref (s_rho [0, 1, 2, 3, 4, 5, 6, 7, 8, 9, 10] x3), .ref 1011, .ref (s_rho [0, 1, 2, 3, 4, 5, 6, 7, 8, 9, 10] x5), .ref 1, .int y7, .int y8, .int y9])) :: bkK 1 s3 F := by rw [hs3]; exact hr2
            have hak2 : ak = p_ak (F 3) (F 4) (F 5) (F 7) (s 1).toNatClampNeg (s 6) (s 4) (s 2).toNatClampNeg (s 1) h9 l9 (cf 3 (f + nI c).toNatClampNeg) := by rw [hak, hx]; rfl
            have ue := s_un_rho [0, 1, 2, 3, 4, 5, 6, 7, 8, 9, 10] (by decide)
            refine s_pk_conv (L2 := w5 x0 x1 x2 x3 x5 y7 y8 y9 s3 F ln sz cf) ?_ ?_
            · show (.inr (.inr (5, [.ref (s_un [0, 1, 2, 3, 4, 5, 6, 7, 8, 9, 10] (s_rho [0, 1, 2, 3, 4, 5, 6, 7, 8, 9, 10] x0)), .ref (s_un [0, 1, 2, 3, 4, 5, 6, 7, 8, 9, 10] (s_rho [0, 1, 2, 3, 4, 5, 6, 7, 8, 9, 10] x1)), .ref (s_un [0, 1, 2, 3, 4, 5, 6, 7, 8, 9, 10] (s_rho [0, 1, 2, 3, 4, 5, 6, 7, 8, 9, 10] x2)), .ref (s_un [0, 1, 2, 3, 4, 5, 6, 7, 8, 9, 10] (s_rho [0, 1, 2, 3, 4, 5, 6, 7, 8, 9, 10] x3)), .ref 11, .ref (s_un [0, 1, 2, 3, 4, 5, 6, 7, 8, 9, 10] (s_rho [0, 1, 2, 3, 4, 5, 6, 7, 8, 9, 10] x5)), .ref 1, .int y7, .int y8, .int y9])) :: (bkK 1 s3 F ++ .inr (.inl (4, [some 12, some 14, some 16, some 18])) :: shs 12 ln sz cf) : sH) = _
              rw [ue x0, ue x1, ue x2, ue x3, ue x5]
              rfl
            refine And.intro (fun h8 => ?_) (fun h8 => ?_)
            · obtain ⟨hh, ll, hq⟩ := q_ask_no (s := upd (upd s 5 h9) 3 l9) (F := F) (w := cf 3 (f + x).toNatClampNeg)
              rw [← hs3, upd_53] at hq
              have h8 : ak < 0 := h8
              refine fin2 3 _ _ _ (upd (upd s3 5 (s 5)) 3 (s 3)) (by decide) hP ?_ ?_ ?_
              · rw [p_rR, if_pos hf0, ← hak2, if_pos h8, hx]
              · rw [p_rR, if_pos hf0, ← hak2, if_pos h8]; rfl
              · rw [p_rR, if_pos hf0, ← hak2, if_pos h8, hq, upd_53]
            · have h8 : ¬ ak < 0 := h8
              have hq := q_ask_ye (s := upd (upd s 5 h9) 3 l9) (F := F) (w := cf 3 (f + x).toNatClampNeg) (by rw [← hak]; exact h8)
              rw [← hs3] at hq
              have hq2 : s3 = upd (upd s 5 (h9 ||| F 6 (cf 3 (f + nI c).toNatClampNeg).toNatClampNeg)) 3 (l9 ||| F 7 (cf 3 (f + nI c).toNatClampNeg).toNatClampNeg) := by
                rw [hq, upd_53, hx]; rfl
              rw [hq2]
              refine ih (c + 1) _ _ _ _ (by omega) (by rw [hx, nI_1]) h7 ?_
              rw [← hP, p_rR, if_pos hf0, ← hak2, if_neg h8]
          · have hf0 : ¬ p_fa (ln 3) (sz 3) l (f + nI c) = 0 := fun z => h7 (hfa.trans z)
            refine fin2 3 _ _ _ _ (by decide) hP ?_ ?_ ?_
            · rw [p_rR, if_neg hf0, hx]
            · rw [p_rR, if_neg hf0, hfa]; rfl
            · rw [p_rR, if_neg hf0]
        · rw [hx, nI_ltI (by omega) (by omega)] at q; omega
    have e0 := upd_53s s
    have := loop M 0 (nI 0) 0 (s 5) (s 3) (by omega) rfl rfl rfl
    rw [e0] at this
    exact this

/-! ===== Rows: what is granted, who is brought to life, what is marked ===== -/
def rwW (a b : Int32) (M : Nat → Nat → Int32) (s : Nat → Int32) (F : Nat → Nat → Int32) : sH := .inr (.inr (2, [.ref 1, .ref 2, .ref 3, .ref 4, .int a, .int b])) :: .inl (0, 256, M 1) :: .inl (0, 256, M 2) :: .inl (0, 256, M 3) :: .inl (2, 256, M 4) :: bkK 5 s F
def rwfp (vs : sS) (L : sH) : List Nat := match vs with
  | .ref r :: .ref b :: _ => r :: s_rf L r 0 :: s_rf L r 1 :: s_rf L r 2 :: s_rf L r 3 :: bkP L b
  | _ => []
def p_gr (on nd cl : Nat → Int32) (n : Nat) (li ba h al : Int32) (d : Nat) : Nat → Int32
  | 0 => 0
  | k + 1 => if p_hb h (nI k) = 0 then (if p_re on nd cl n li ba (nI k) h al d = 0 then p_gr on nd cl n li ba h al d k ||| ((1 : Int32) <<< (nI k &&& 31)) else p_gr on nd cl n li ba h al d k) else p_gr on nd cl n li ba h al d k
def c_X2_grantedAt : sCtr := ((yX2_grantedAt, cX2_grantedAt, 6, (some .int)), (3, 3, 4, 96), true,
  rwfp,
  fun vs L => ∃ (a b : Int32) (M : Nat → Nat → Int32) (s : Nat → Int32) (F : Nat → Nat → Int32) (x e : Int32) (h n d : Nat), vs = [.ref 0, .ref 5, .int x, .int e] ∧ L = rwW a b M s F ∧ x = nI h ∧ h < 256 ∧ s 1 = nI n ∧ n ≤ 8 ∧ e = nI d ∧ d ≤ 8,
  fun vs L r _ => r = some (.int (p_gr (bF L 8) (bF L 9) (bF L 10) (oI L 5 1).toNatClampNeg (oI L 5 6) (oI L 5 4) (vI vs 2) (bF L 2 (vI vs 2).toNatClampNeg) (vI vs 3).toNatClampNeg (oI L 5 1).toNatClampNeg)))
theorem sta_X2_grantedAt : s_Sta c_X2_grantedAt := ⟨⟨by decide +kernel, by decide +kernel, by decide +kernel⟩, List.mem_of_getElem? (i := 611) (by decide +kernel), List.mem_of_getElem? (i := 68) (by decide +kernel), ⟨List.mem_of_getElem? (i := 610) (by decide +kernel), List.mem_of_getElem? (i := 16) (by decide +kernel), Or.inl ⟨_, rfl, rfl⟩⟩⟩

def k_X2_grantedAt : List sBk := [
  (0, false, [true, true, true, true, false, false], [oK 0 (.iconst 0) (.int 0), o0 1 (.istore 4), oK 3 (.iconst 0) (.int 0), o0 4 (.istore 5), oN 6 .nop [1]]),
  (6, true, [true, true, true, true, true, true], [o0 6 (.iload 5), o0 8 (.aload_n 1), oN 9 (.getfield 56) [0, 1, 120], oN 12 (.if_icmp .ge 44) [3], o0 15 (.iload_n 2), o0 16 (.iload 5), oC 18 (.invokestatic 59) [3, 0] c_X5_hasBit, oN 21 (.ifCond .ne 29) [2], o0 24 (.aload_n 1), o0 25 (.iload 5), o0 27 (.iload_n 2), o0 28 (.aload_n 0), oN 29 (.getfield 15) [2, 1, 256], o0 32 (.iload_n 2), o0 33 .iaload, o0 34 (.iload_n 3), oC 35 (.invokevirtual 63) [613] c_X0_refusal, oN 38 (.ifCond .ne 12) [2], o0 41 (.iload 4), oK 43 (.iconst 1) (.int 1), o0 44 (.iload 5), o0 46 .ishl, o0 47 .ior, o0 48 (.istore 4), oN 50 .nop [2]]),
  (50, false, [true, true, true, true, true, true], [oK 50 (.iinc 5 1) (.int 1), oN 53 (.goto (-47)) [1]]),
  (56, false, [false, false, false, false, true, false], [o0 56 (.iload 4), o0 58 .ireturn])]
set_option maxRecDepth 100000 in
theorem ck_X2_grantedAt : s_ck RX2 cX2_grantedAt 6 4 96 k_X2_grantedAt = true := by decide +kernel

set_option maxRecDepth 100000 in
set_option maxHeartbeats 4000000 in
theorem ok_X2_grantedAt : s_Ok c_X2_grantedAt := by
  refine s_ok_of k_X2_grantedAt (by decide +kernel) sta_X2_grantedAt ck_X2_grantedAt (And.intro ok_X5_hasBit (And.intro ok_X0_refusal trivial)) ?_
  rintro vs L ⟨a, b, M, s, F, x, e, h, n, d, rfl, rfl, hx, hh, hn, hn8, he, hd⟩
  refine ⟨rfl, fun G hG => ?_⟩
  have e1 : (s 1).toNatClampNeg = n := by rw [hn, nI_clamp (by omega)]
  obtain ⟨al, hal⟩ : ∃ al, al = M 2 x.toNatClampNeg := ⟨_, rfl⟩
  obtain ⟨gr, hgr⟩ : ∃ gr, gr = p_gr (F 3) (F 4) (F 5) (s 1).toNatClampNeg (s 6) (s 4) x al e.toNatClampNeg := ⟨_, rfl⟩
  have hin : vp_in x 256 := by rw [hx]; exact vp_in_nI hh (by omega)
  have fin : ∀ v : Int32, v = gr n → s_PP (some .int) true c_X2_grantedAt.2.2.2.2.2 [.ref 0, .ref 5, .int x, .int e] (rwW a b M s F) (some (.int v)) (rwW a b M s F) := fun v hv => ⟨rfl, by rw [hv, ← e1, hgr, hal]; rfl, fun _ => rfl⟩
  have hS : ∀ k, gr (k + 1) = if p_hb x (nI k) = 0 then (if p_re (F 3) (F 4) (F 5) (s 1).toNatClampNeg (s 6) (s 4) (nI k) x al e.toNatClampNeg = 0 then gr k ||| ((1 : Int32) <<< (nI k &&& 31)) else gr k) else gr k := fun k => by rw [hgr]; rfl
  have loop : ∀ (k i : Nat) (y v : Int32), i + k = n → y = nI i → v = gr i → G 1 [some (.ref 0), some (.ref 5), some (.int x), some (.int e), some (.int v), some (.int y)] [] (rwW a b M s F) := by
    intro k
    induction k with
    | zero =>
      intro i y v hi hy hv
      refine hG 1 _ _ _ (And.intro (fun q => ?_) (fun q => ?_))
      · have q : y < s 1 := q
        rw [hy, hn, nI_ltI (by omega) (by omega)] at q; omega
      · exact fin v (by rw [hv, show i = n by omega])
    | succ k ih =>
      intro i y v hi hy hv
      refine hG 1 _ _ _ (And.intro (fun q => ?_) (fun q => ?_))
      rotate_left
      · have q : ¬ y < s 1 := q
        rw [hy, hn, nI_ltI (by omega) (by omega)] at q; omega
      refine And.intro ⟨_, _, rfl⟩ ?_
      intro r hr
      obtain ⟨c, hc⟩ : ∃ c, c = p_hb x (nI i) := ⟨_, rfl⟩
      obtain rfl : r = some (.int c) := by rw [hc, ← hy]; exact hr
      refine And.intro (fun q2 => ?_) (fun q2 => ?_)
      rotate_left
      · have q2 : ¬ c = 0 := q2
        exact ih (i + 1) _ v (by omega) (by rw [hy, nI_1]) (by rw [hS, ← hc, if_neg q2, hv])
      have q2 : c = 0 := q2
      refine And.intro hin ?_
      refine And.intro ⟨s, F, _, _, _, _, n, d, rfl, rfl, hn, hn8, he, hd⟩ ?_
      intro r hr
      obtain ⟨c3, hc3⟩ : ∃ c, c = p_re (F 3) (F 4) (F 5) (s 1).toNatClampNeg (s 6) (s 4) (nI i) x al e.toNatClampNeg := ⟨_, rfl⟩
      obtain rfl : r = some (.int c3) := by rw [hc3, ← hy, hal]; exact hr
      refine And.intro (fun q3 => ?_) (fun q3 => ?_)
      · have q3 : c3 = 0 := q3
        exact ih (i + 1) _ (v ||| ((1 : Int32) <<< (y &&& 31))) (by omega) (by rw [hy, nI_1]) (by rw [hS, ← hc, if_pos q2, ← hc3, if_pos q3, hv, hy])
      · have q3 : ¬ c3 = 0 := q3
        exact ih (i + 1) _ v (by omega) (by rw [hy, nI_1]) (by rw [hS, ← hc, if_pos q2, ← hc3, if_neg q3, hv])
  exact hG 0 _ _ _ (loop n 0 _ _ (by omega) nI_0.symm (by rw [hgr]; rfl))
def p_bl (mv : Int32) (fo wa : Nat → Int32) (x : Int32) (g : Nat → Int32) : Nat → Nat → Int32
  | 0 => g
  | k + 1 => fun j => if p_hb mv (nI k) = 0 then p_bl mv fo wa x g k j else upd (p_bl mv fo wa x g k) (x ||| fo k).toNatClampNeg (p_bl mv fo wa x g k x.toNatClampNeg ||| wa k) j
def c_X2_bringToLife : sCtr := ((yX2_bringToLife, cX2_bringToLife, 4, none), (3, 2, 1, 21), false,
  rwfp,
  fun vs L => ∃ (a b : Int32) (M : Nat → Nat → Int32) (s : Nat → Int32) (F : Nat → Nat → Int32) (x : Int32) (h n : Nat), vs = [.ref 0, .ref 5, .int x] ∧ L = rwW a b M s F ∧ x = nI h ∧ h < 256 ∧ s 1 = nI n ∧ n ≤ 8 ∧ ∀ i, i < n → lt8 (F 6 i),
  fun vs L r L' => r = none ∧ L' = rwW (oI L 0 4) (oI L 0 5) (va_up (bF L) 2 (p_bl (bF L 1 (vI vs 2).toNatClampNeg) (bF L 11) (bF L 12) (vI vs 2) (bF L 2) (oI L 5 1).toNatClampNeg)) (oI L 5) (bG 5 L))
theorem sta_X2_bringToLife : s_Sta c_X2_bringToLife := ⟨⟨by decide +kernel, by decide +kernel, by decide +kernel⟩, List.mem_of_getElem? (i := 617) (by decide +kernel), List.mem_of_getElem? (i := 68) (by decide +kernel), ⟨List.mem_of_getElem? (i := 616) (by decide +kernel), List.mem_of_getElem? (i := 17) (by decide +kernel), Or.inl ⟨_, rfl, rfl⟩⟩⟩

def k_X2_bringToLife : List sBk := [
  (0, false, [true, true, true, false], [oK 0 (.iconst 0) (.int 0), o0 1 (.istore_n 3), oN 2 .nop [1]]),
  (2, true, [true, true, true, true], [o0 2 (.iload_n 3), o0 3 (.aload_n 1), oN 4 (.getfield 56) [0, 1, 120], oN 7 (.if_icmp .ge 48) [3], o0 10 (.aload_n 0), oN 11 (.getfield 9) [2, 0, 255], o0 14 (.iload_n 2), o0 15 .iaload, o0 16 (.iload_n 3), oC 17 (.invokestatic 59) [3, 0] c_X5_hasBit, oN 20 (.ifCond .eq 29) [2], o0 23 (.aload_n 0), oN 24 (.getfield 15) [2, 1, 256], o0 27 (.iload_n 2), o0 28 (.aload_n 1), oN 29 (.getfield 67) [0, 12, 155], o0 32 (.iload_n 3), o0 33 .iaload, o0 34 .ior, o0 35 (.aload_n 0), oN 36 (.getfield 15) [2, 1, 256], o0 39 (.iload_n 2), o0 40 .iaload, o0 41 (.aload_n 1), oN 42 (.getfield 70) [0, 13, 158], o0 45 (.iload_n 3), o0 46 .iaload, o0 47 .ior, o0 48 .iastore, oN 49 .nop [2]]),
  (49, false, [true, true, true, true], [oK 49 (.iinc 3 1) (.int 1), oN 52 (.goto (-50)) [1]]),
  (55, false, [false, false, false, false], [o0 55 .return_])]
set_option maxRecDepth 100000 in
theorem ck_X2_bringToLife : s_ck RX2 cX2_bringToLife 4 1 21 k_X2_bringToLife = true := by decide +kernel

set_option maxRecDepth 100000 in
set_option maxHeartbeats 4000000 in
theorem ok_X2_bringToLife : s_Ok c_X2_bringToLife := by
  refine s_ok_of k_X2_bringToLife (by decide +kernel) sta_X2_bringToLife ck_X2_bringToLife (And.intro ok_X5_hasBit trivial) ?_
  rintro vs L ⟨a, b, M, s, F, x, h, n, rfl, rfl, hx, hh, hn, hn8, hfo⟩
  refine ⟨rfl, fun G hG => ?_⟩
  have e1 : (s 1).toNatClampNeg = n := by rw [hn, nI_clamp (by omega)]
  obtain ⟨bl, hbl⟩ : ∃ bl, bl = p_bl (M 1 x.toNatClampNeg) (F 6) (F 7) x (M 2) := ⟨_, rfl⟩
  have hin : vp_in x 256 := by rw [hx]; exact vp_in_nI hh (by omega)
  have fin : ∀ g, g = bl n → s_PP none false c_X2_bringToLife.2.2.2.2.2 [.ref 0, .ref 5, .int x] (rwW a b M s F) none (rwW a b (va_up M 2 g) s F) := fun g hg => ⟨rfl, ⟨rfl, by rw [hg, ← e1, hbl]; rfl⟩, fun h => by cases h⟩
  have loop : ∀ (k i : Nat) (y : Int32) (g : Nat → Int32), i + k = n → y = nI i → g = bl i → G 1 [some (.ref 0), some (.ref 5), some (.int x), some (.int y)] [] (rwW a b (va_up M 2 g) s F) := by
    intro k
    induction k with
    | zero =>
      intro i y g hi hy hg
      refine hG 1 _ _ _ (And.intro (fun q => ?_) (fun q => ?_))
      · have q : y < s 1 := q
        rw [hy, hn, nI_ltI (by omega) (by omega)] at q; omega
      · exact fin g (by rw [hg, show i = n by omega])
    | succ k ih =>
      intro i y g hi hy hg
      have hiny : vp_in y 8 := by rw [hy]; exact vp_in_nI (by omega) (by omega)
      have hyc : y.toNatClampNeg = i := by rw [hy, nI_clamp (by omega)]
      refine hG 1 _ _ _ (And.intro (fun q => ?_) (fun q => ?_))
      rotate_left
      · have q : ¬ y < s 1 := q
        rw [hy, hn, nI_ltI (by omega) (by omega)] at q; omega
      refine And.intro hin (And.intro ⟨_, _, rfl⟩ ?_)
      intro r hr
      obtain ⟨c, hc⟩ : ∃ c, c = p_hb (M 1 x.toNatClampNeg) (nI i) := ⟨_, rfl⟩
      obtain rfl : r = some (.int c) := by rw [hc, ← hy]; exact hr
      refine And.intro (fun q2 => ?_) (fun q2 => ?_)
      · have q2 : c = 0 := q2
        refine ih (i + 1) _ g (by omega) (by rw [hy, nI_1]) ?_
        rw [hg, hbl]
        funext j
        rw [p_bl, ← hc]; exact (if_pos q2).symm
      have q2 : ¬ c = 0 := q2
      have hb2 : vp_in (x ||| F 6 y.toNatClampNeg) 256 := by
        rw [hyc]
        obtain ⟨j, hj, e⟩ := lt8_or ⟨h, hh, hx⟩ (hfo i (by omega))
        rw [e]; exact vp_in_nI hj (by omega)
      refine And.intro hiny (And.intro hin (And.intro hiny (And.intro hb2 ?_)))
      refine ih (i + 1) _ (upd g (x ||| F 6 y.toNatClampNeg).toNatClampNeg (g x.toNatClampNeg ||| F 7 y.toNatClampNeg)) (by omega) (by rw [hy, nI_1]) ?_
      rw [hg, hyc, hbl]
      funext j
      rw [p_bl, ← hc]; exact (if_neg q2).symm
  have l := loop n 0 0 (M 2) (by omega) nI_0.symm (by rw [hbl]; rfl)
  rw [va_upI] at l
  exact hG 0 _ _ _ l
def p_mn (mv : Int32) (fo : Nat → Int32) (x : Int32) (g : Nat → Int32) : Nat → Nat → Int32
  | 0 => g
  | k + 1 => fun j => if p_hb mv (nI k) = 0 then p_mn mv fo x g k j else upd (p_mn mv fo x g k) (x ||| fo k).toNatClampNeg 1 j
def c_X2_markNext : sCtr := ((yX2_markNext, cX2_markNext, 5, none), (3, 3, 1, 21), false,
  rwfp,
  fun vs L => ∃ (a b : Int32) (M : Nat → Nat → Int32) (s : Nat → Int32) (F : Nat → Nat → Int32) (x st : Int32) (h n : Nat), vs = [.ref 0, .ref 5, .int x, .int st] ∧ L = rwW a b M s F ∧ x = nI h ∧ h < 256 ∧ s 1 = nI n ∧ n ≤ 8 ∧ ∀ i, i < n → lt8 (F 6 i),
  fun vs L r L' => r = none ∧ L' = rwW (oI L 0 4) (oI L 0 5) (va_up (bF L) 4 (p_mn (bF L 1 (vI vs 2).toNatClampNeg &&& (vI vs 3 ^^^ (-1))) (bF L 11) (vI vs 2) (bF L 4) (oI L 5 1).toNatClampNeg)) (oI L 5) (bG 5 L))
theorem sta_X2_markNext : s_Sta c_X2_markNext := ⟨⟨by decide +kernel, by decide +kernel, by decide +kernel⟩, List.mem_of_getElem? (i := 621) (by decide +kernel), List.mem_of_getElem? (i := 68) (by decide +kernel), ⟨List.mem_of_getElem? (i := 620) (by decide +kernel), List.mem_of_getElem? (i := 18) (by decide +kernel), Or.inl ⟨_, rfl, rfl⟩⟩⟩

def k_X2_markNext : List sBk := [
  (0, false, [true, true, true, true, false], [oK 0 (.iconst 0) (.int 0), o0 1 (.istore 4), oN 3 .nop [1]]),
  (3, true, [true, true, true, true, true], [o0 3 (.iload 4), o0 5 (.aload_n 1), oN 6 (.getfield 56) [0, 1, 120], oN 9 (.if_icmp .ge 42) [3], o0 12 (.aload_n 0), oN 13 (.getfield 9) [2, 0, 255], o0 16 (.iload_n 2), o0 17 .iaload, o0 18 (.iload_n 3), oK 19 (.iconst (-1)) (.int (-1)), o0 20 .ixor, o0 21 .iand, o0 22 (.iload 4), oC 24 (.invokestatic 59) [3, 0] c_X5_hasBit, oN 27 (.ifCond .eq 18) [2], o0 30 (.aload_n 0), oN 31 (.getfield 21) [2, 3, 258], o0 34 (.iload_n 2), o0 35 (.aload_n 1), oN 36 (.getfield 67) [0, 12, 155], o0 39 (.iload 4), o0 41 .iaload, o0 42 .ior, oK 43 (.iconst 1) (.int 1), o0 44 .bastore, oN 45 .nop [2]]),
  (45, false, [true, true, true, true, true], [oK 45 (.iinc 4 1) (.int 1), oN 48 (.goto (-45)) [1]]),
  (51, false, [false, false, false, false, false], [o0 51 .return_])]
set_option maxRecDepth 100000 in
theorem ck_X2_markNext : s_ck RX2 cX2_markNext 5 1 21 k_X2_markNext = true := by decide +kernel

set_option maxRecDepth 100000 in
set_option maxHeartbeats 4000000 in
theorem ok_X2_markNext : s_Ok c_X2_markNext := by
  refine s_ok_of k_X2_markNext (by decide +kernel) sta_X2_markNext ck_X2_markNext (And.intro ok_X5_hasBit trivial) ?_
  rintro vs L ⟨a, b, M, s, F, x, st, h, n, rfl, rfl, hx, hh, hn, hn8, hfo⟩
  refine ⟨rfl, fun G hG => ?_⟩
  have e1 : (s 1).toNatClampNeg = n := by rw [hn, nI_clamp (by omega)]
  obtain ⟨bl, hbl⟩ : ∃ bl, bl = p_mn (M 1 x.toNatClampNeg &&& (st ^^^ (-1))) (F 6) x (M 4) := ⟨_, rfl⟩
  have hin : vp_in x 256 := by rw [hx]; exact vp_in_nI hh (by omega)
  have fin : ∀ g, g = bl n → s_PP none false c_X2_markNext.2.2.2.2.2 [.ref 0, .ref 5, .int x, .int st] (rwW a b M s F) none (rwW a b (va_up M 4 g) s F) := fun g hg => ⟨rfl, ⟨rfl, by rw [hg, ← e1, hbl]; rfl⟩, fun h => by cases h⟩
  have loop : ∀ (k i : Nat) (y : Int32) (g : Nat → Int32), i + k = n → y = nI i → g = bl i → G 1 [some (.ref 0), some (.ref 5), some (.int x), some (.int st), some (.int y)] [] (rwW a b (va_up M 4 g) s F) := by
    intro k
    induction k with
    | zero =>
      intro i y g hi hy hg
      refine hG 1 _ _ _ (And.intro (fun q => ?_) (fun q => ?_))
      · have q : y < s 1 := q
        rw [hy, hn, nI_ltI (by omega) (by omega)] at q; omega
      · exact fin g (by rw [hg, show i = n by omega])
    | succ k ih =>
      intro i y g hi hy hg
      have hiny : vp_in y 8 := by rw [hy]; exact vp_in_nI (by omega) (by omega)
      have hyc : y.toNatClampNeg = i := by rw [hy, nI_clamp (by omega)]
      refine hG 1 _ _ _ (And.intro (fun q => ?_) (fun q => ?_))
      rotate_left
      · have q : ¬ y < s 1 := q
        rw [hy, hn, nI_ltI (by omega) (by omega)] at q; omega
      refine And.intro hin (And.intro ⟨_, _, rfl⟩ ?_)
      intro r hr
      obtain ⟨c, hc⟩ : ∃ c, c = p_hb (M 1 x.toNatClampNeg &&& (st ^^^ (-1))) (nI i) := ⟨_, rfl⟩
      obtain rfl : r = some (.int c) := by rw [hc, ← hy]; exact hr
      refine And.intro (fun q2 => ?_) (fun q2 => ?_)
      · have q2 : c = 0 := q2
        refine ih (i + 1) _ g (by omega) (by rw [hy, nI_1]) ?_
        rw [hg, hbl]
        funext j
        rw [p_mn, ← hc]; exact (if_pos q2).symm
      have q2 : ¬ c = 0 := q2
      have hb2 : vp_in (x ||| F 6 y.toNatClampNeg) 256 := by
        rw [hyc]
        obtain ⟨j, hj, e⟩ := lt8_or ⟨h, hh, hx⟩ (hfo i (by omega))
        rw [e]; exact vp_in_nI hj (by omega)
      refine And.intro hiny (And.intro hb2 ?_)
      refine ih (i + 1) _ (upd g (x ||| F 6 y.toNatClampNeg).toNatClampNeg 1) (by omega) (by rw [hy, nI_1]) ?_
      rw [hg, hyc, hbl]
      funext j
      rw [p_mn, ← hc]; exact (if_neg q2).symm
  have l := loop n 0 0 (M 4) (by omega) nI_0.symm (by rw [hbl]; rfl)
  rw [va_upI] at l
  exact hG 0 _ _ _ l

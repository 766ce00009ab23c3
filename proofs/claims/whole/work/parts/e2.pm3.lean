/-! ===== class and model: looks, refuses, ask, take, clashes, broken ===== -/
theorem and_nI (a b : Nat) : nI a &&& nI b = nI (a &&& b) := by
  apply Int32.toBitVec_inj.1
  show BitVec.ofNat 32 a &&& BitVec.ofNat 32 b = BitVec.ofNat 32 (a &&& b)
  apply BitVec.eq_of_getLsbD_eq
  intro i hi
  rw [BitVec.getLsbD_and]
  simp only [BitVec.getLsbD_ofNat, hi, decide_true, Bool.true_and, Nat.testBit_and]
theorem BR4 {P n : Nat} {s g : Nat → Int32} {F : Nat → Nat → Int32} (h : BR P n s F g) : ∀ i, i < n → F 4 i = (fun i => g (10 + i)) i := fun i hi => (h.2.2.2.2 i hi).2.1.1
theorem BR3 {P n : Nat} {s g : Nat → Int32} {F : Nat → Nat → Int32} (h : BR P n s F g) : ∀ i, i < n → F 3 i = (fun i => g (2 + i)) i := fun i hi => (h.2.2.2.2 i hi).1.1
theorem BR5 {P n : Nat} {s g : Nat → Int32} {F : Nat → Nat → Int32} (h : BR P n s F g) : ∀ i, i < n → F 5 i = (fun i => g (18 + i)) i := fun i hi => (h.2.2.2.2 i hi).2.2.1.1
theorem BR6 {P n : Nat} {s g : Nat → Int32} {F : Nat → Nat → Int32} (h : BR P n s F g) : ∀ i, i < n → F 6 i = p_mfo g n i := fun i hi => (h.2.2.2.2 i hi).2.2.2.1
theorem BR7 {P n : Nat} {s g : Nat → Int32} {F : Nat → Nat → Int32} (h : BR P n s F g) : ∀ i, i < n → F 7 i = p_mwa g n i := fun i hi => (h.2.2.2.2 i hi).2.2.2.2
theorem BRn {P n : Nat} {s g : Nat → Int32} {F : Nat → Nat → Int32} (h : BR P n s F g) : (s 1).toNatClampNeg = n := by rw [h.1.2.1, nI_clamp (by have := h.1.2.2; omega)]
theorem BRnd {P n : Nat} {s g : Nat → Int32} {F : Nat → Nat → Int32} (h : BR P n s F g) : ∀ i, i < n → ltn n ((fun i => g (10 + i)) i) := fun i hi => (h.2.2.2.2 i hi).2.1.2
theorem BRon {P n : Nat} {s g : Nat → Int32} {F : Nat → Nat → Int32} (h : BR P n s F g) : ∀ i, i < n → lt8 ((fun i => g (2 + i)) i) := fun i hi => (h.2.2.2.2 i hi).1.2
theorem BRcl {P n : Nat} {s g : Nat → Int32} {F : Nat → Nat → Int32} (h : BR P n s F g) : ∀ i, i < n → ltn n ((fun i => g (18 + i)) i) := fun i hi => (h.2.2.2.2 i hi).2.2.1.2
theorem fo_ltn {P n : Nat} {s g : Nat → Int32} {F : Nat → Nat → Int32} (h : BR P n s F g) {i : Nat} (hi : i < n) : ltn n (p_mfo g n i) := ⟨_, foN_lt h.1.2.2 (BRnd h) hi, fo_nI h.1.2.2 (BRnd h) hi⟩
theorem wa_lt8 {P n : Nat} {s g : Nat → Int32} {F : Nat → Nat → Int32} (h : BR P n s F g) (i : Nat) : lt8 (p_mwa g n i) := p_ga_lt8 (BRon h) _
theorem reB_eq {P n : Nat} {s g : Nat → Int32} {F : Nat → Nat → Int32} (h : BR P n s F g) (w a b : Int32) : p_reB s F w a b = p_re (fun i => g (2 + i)) (fun i => g (10 + i)) (fun i => g (18 + i)) n (g 27) (g 1) w a b (g 28).toNatClampNeg := by
  rw [p_reB, BRn h, re_cg (BR3 h) (BR4 h) (BR5 h), h.2.1.2.2.2.2.1, h.2.1.2.2.1.1, h.2.1.1.1]
theorem pu_looks {P n : Nat} {s g : Nat → Int32} {F : Nat → Nat → Int32} (h : BR P n s F g) (w : Int32) : r_looks s F w = r_mlooks g (nI n) n w := by
  rw [r_looks, r_mlooks, BRn h, h.1.2.1, it_cg (BR4 h), h.2.1.2.2.2.1.1, h.2.1.1.1]
theorem pu_refuses {P n : Nat} {s g : Nat → Int32} {F : Nat → Nat → Int32} (h : BR P n s F g) (w : Int32) : r_refuses s F w = r_mrefuses g (nI n) n w := by
  rw [r_refuses, r_mrefuses, h.1.2.1, reB_eq h, h.2.1.2.2.2.1.1, h.2.1.2.1.1]
theorem or_dN (l a : Nat) (ha : a < 256) : l ||| dN a l = l ||| a := by
  apply Nat.eq_of_testBit_eq
  intro i
  rw [Nat.testBit_or, Nat.testBit_or]
  cases hl : l.testBit i with
  | true => simp
  | false =>
    rw [Bool.false_or, Bool.false_or]
    cases h2 : a.testBit i with
    | true => exact (dN_bit ha i).mpr ⟨h2, by rw [hl]; decide⟩
    | false =>
      cases h3 : (dN a l).testBit i with
      | true => rw [((dN_bit ha i).mp h3).1] at h2; cases h2
      | false => rfl
theorem lt8_dN {a b : Int32} (ha : lt8 a) (hb : lt8 b) : lt8 (a &&& (b ^^^ (-1))) := by
  obtain ⟨x, hx, e⟩ := ha
  obtain ⟨y, hy, e2⟩ := hb
  rw [e, e2, dN_nI hx hy]
  exact ⟨_, dN_lt (m := 8) hx, rfl⟩
theorem ltn_dN {n : Nat} {a b : Int32} (hn : n ≤ 8) (ha : ltn n a) (hb : lt8 b) : ltn n (a &&& (b ^^^ (-1))) := by
  have := p_2le n hn
  obtain ⟨x, hx, e⟩ := ha
  obtain ⟨y, hy, e2⟩ := hb
  rw [e, e2, dN_nI (by omega) hy]
  exact ⟨_, dN_lt hx, rfl⟩
theorem bc_b {v : Int32} (h : lt8 v) : p_bc v = p_bo v 8 := by
  obtain ⟨x, hx, e⟩ := h
  rw [e, bc_bo x hx]
theorem or_ad {l a : Int32} (hl : lt8 l) (ha : lt8 a) : l ||| (a &&& (l ^^^ (-1))) = l ||| a := by
  obtain ⟨x, hx, e⟩ := hl
  obtain ⟨y, hy, e2⟩ := ha
  rw [e, e2, dN_nI hy hx, lt8_orI, lt8_orI, or_dN x y hy]
theorem ltn_or {n : Nat} {a b : Int32} (ha : ltn n a) (hb : ltn n b) : ltn n (a ||| b) := by
  obtain ⟨x, hx, e⟩ := ha
  obtain ⟨y, hy, e2⟩ := hb
  rw [e, e2, lt8_orI]
  exact ⟨_, Nat.or_lt_two_pow hx hy, rfl⟩
theorem pu_ask {P n : Nat} {s g : Nat → Int32} {F : Nat → Nat → Int32} (h : BR P n s F g) (w : Int32) : r_ask s F w = r_mask g (nI n) n w ∧ BR P n (q_ask s F w) F (q_mask g (nI n) n w) := by
  have e1 := h.1.2.1
  have e5 := h.2.1.2.2.2.1.1
  have e3 := h.2.1.2.1.1
  have hn := h.1.2.2
  rw [r_ask, r_mask, e1]
  by_cases c : p_in (nI n) w = 0
  · refine ⟨by rw [if_pos c, if_pos c], ?_⟩
    have q1 : q_ask s F w = s := funext fun i => by rw [q_ask, e1, if_pos c]
    have q2 : q_mask g (nI n) n w = g := funext fun i => by rw [q_mask, if_pos c]
    rw [q1, q2]; exact h
  obtain ⟨j, hj, e, ec⟩ := in_n hn c
  have hre : p_reB s F w (s 5) (s 3) = r_mrefuses g (nI n) n w := by rw [r_mrefuses, if_neg c, reB_eq h, e5, e3]
  have hpos : 0 < r_mrefuses g (nI n) n w ↔ ¬ r_mrefuses g (nI n) n w = 0 := by rw [r_mrefuses, if_neg c]; exact re_pos _ _ _ _ _ _ _ _ _ _
  by_cases c2 : p_hb (g 26) w = 0
  rotate_left
  · refine ⟨by rw [if_neg c, if_neg c, e5, if_neg c2, if_neg c2], ?_⟩
    have q1 : q_ask s F w = s := funext fun i => by rw [q_ask, e1, if_neg c, e5, if_neg c2]
    have q2 : q_mask g (nI n) n w = g := funext fun i => by rw [q_mask, if_neg c, if_neg c2]
    rw [q1, q2]; exact h
  by_cases c3 : r_mrefuses g (nI n) n w = 0
  rotate_left
  · have c4 := hpos.mpr c3
    refine ⟨by rw [if_neg c, if_neg c, hre, e5, if_pos c2, if_pos c2, if_neg c3, if_pos c4], ?_⟩
    have q1 : q_ask s F w = s := funext fun i => by rw [q_ask, e1, if_neg c, hre, e5, if_pos c2, if_neg c3]
    have q2 : q_mask g (nI n) n w = g := funext fun i => by rw [q_mask, if_neg c, if_pos c2, if_pos c4]
    rw [q1, q2]; exact h
  have c4 : ¬ 0 < r_mrefuses g (nI n) n w := fun q => hpos.mp q c3
  have hwa : p_ga (fun i => g (2 + i)) n (p_fw (fun i => g (10 + i)) n ((1 : Int32) <<< (w &&& 31))) = p_mwa g n j := by rw [e]; rfl
  have hfo : p_fw (fun i => g (10 + i)) n ((1 : Int32) <<< (w &&& 31)) = p_mfo g n j := by rw [e]; rfl
  have hl0 := h.2.1.2.1.2
  refine ⟨by rw [if_neg c, if_neg c, hre, e5, if_pos c2, if_pos c2, if_pos c3, if_neg c4, hwa, ec, BR7 h j hj, e3, bc_b (lt8_dN (wa_lt8 h j) hl0)], ?_⟩
  have q1 : q_ask s F w = upd (upd s 5 (g 26 ||| p_mfo g n j)) 3 (g 0 ||| p_mwa g n j) := funext fun i => by rw [q_ask, e1, if_neg c, hre, e5, if_pos c2, if_pos c3, ec, BR6 h j hj, BR7 h j hj, e3]
  have q2 : q_mask g (nI n) n w = upd (upd g 26 (g 26 ||| p_mfo g n j)) 0 (g 0 ||| p_mwa g n j) := funext fun i => by rw [q_mask, if_neg c, if_pos c2, if_neg c4, hwa, hfo, or_ad hl0 (wa_lt8 h j)]
  rw [q1, q2]
  exact BR_li (BR_ho h (ltn_or h.2.1.2.2.2.1.2 (fo_ltn h hj))) (lt8_or hl0 (wa_lt8 h j))
theorem ro_tk {nd fo : Nat → Int32} {n : Nat} {g h : Int32} (hf : ∀ i, i < n → fo i = p_fw nd n ((1 : Int32) <<< (nI i &&& 31))) : ∀ k, k ≤ n → p_ro fo g h k = p_tk nd n g h k
  | 0, _ => rfl
  | k + 1, hk => by rw [p_ro, p_tk, ro_tk hf k (by omega), hf k (by omega)]
theorem tk_ltn {nd : Nat → Int32} {n : Nat} {g h : Int32} : ∀ k, k ≤ 8 → ltn k (p_tk nd n g h k)
  | 0, _ => ⟨0, by decide, rfl⟩
  | k + 1, hk => by
    have ih := tk_ltn (nd := nd) (n := n) (g := g) (h := h) k (by omega)
    have up : ltn (k + 1) (p_tk nd n g h k) := by
      obtain ⟨j, hj, e⟩ := ih
      exact ⟨j, by rw [Nat.pow_succ]; omega, e⟩
    rw [p_tk]
    split
    · exact up
    · split
      · exact up
      · refine ltn_or up ?_
        rw [p_2n k (by omega)]
        exact ⟨_, Nat.pow_lt_pow_right (by decide) (by omega), rfl⟩
theorem pu_take {P n : Nat} {s g : Nat → Int32} {F : Nat → Nat → Int32} (h : BR P n s F g) (w : Int32) : r_take s F w = r_mtake g (nI n) n w ∧ BR P n (q_take s F w) F (q_mtake g (nI n) n w) := by
  have e1 := h.1.2.1
  have e5 := h.2.1.2.2.2.1.1
  have hn := h.1.2.2
  have hg : p_gone s F w = p_tk (fun i => g (10 + i)) n ((1 : Int32) <<< (w &&& 31)) (g 26) n := by rw [p_gone, BRn h, e5]; exact ro_tk (BR6 h) n (Nat.le_refl n)
  have hl := ltn_lt8 hn (tk_ltn (nd := fun i => g (10 + i)) (n := n) (g := (1 : Int32) <<< (w &&& 31)) (h := g 26) n hn)
  rw [r_take, r_mtake, e1, hg, e5, bc_b hl]
  refine ⟨rfl, ?_⟩
  by_cases c : p_in (nI n) w = 0
  · have q1 : q_take s F w = s := funext fun i => by rw [q_take, e1, if_pos c]
    have q2 : q_mtake g (nI n) n w = g := funext fun i => by rw [q_mtake, if_pos c]
    rw [q1, q2]; exact h
  by_cases c2 : p_hb (g 26) w = 0
  · have q1 : q_take s F w = s := funext fun i => by rw [q_take, e1, if_neg c, e5, if_pos c2]
    have q2 : q_mtake g (nI n) n w = g := funext fun i => by rw [q_mtake, if_neg c, if_pos c2]
    rw [q1, q2]; exact h
  · have q1 : q_take s F w = upd s 5 (g 26 &&& (p_tk (fun i => g (10 + i)) n ((1 : Int32) <<< (w &&& 31)) (g 26) n ^^^ (-1))) := funext fun i => by rw [q_take, e1, if_neg c, hg, e5, if_neg c2]
    have q2 : q_mtake g (nI n) n w = upd g 26 (g 26 &&& (p_tk (fun i => g (10 + i)) n ((1 : Int32) <<< (w &&& 31)) (g 26) n ^^^ (-1))) := funext fun i => by rw [q_mtake, if_neg c, if_neg c2]
    rw [q1, q2]
    exact BR_ho h (ltn_dN hn h.2.1.2.2.2.1.2 hl)
theorem ce_eq {f f' : Nat → Int32} {h : Int32} (hh : lt8 h) : ∀ k, (∀ i, i < k → f i = f' i ∧ lt8 (f' i)) → p_ce f h k = p_mce f' h k
  | 0, _ => rfl
  | k + 1, hf => by
    obtain ⟨h1, x, hx, e⟩ := hf k (by omega)
    obtain ⟨y, hy, e2⟩ := hh
    rw [p_ce, p_mce, ce_eq ⟨y, hy, e2⟩ k (fun i hi => hf i (by omega)), h1, bc_b (v := f' k &&& h) (by rw [e, e2, and_nI]; exact ⟨_, Nat.lt_of_le_of_lt Nat.and_le_left hx, rfl⟩)]
theorem pu_clashes {P n : Nat} {s g : Nat → Int32} {F : Nat → Nat → Int32} (h : BR P n s F g) : p_ce (F 5) (s 5) (s 1).toNatClampNeg / 2 = p_mce (fun i => g (18 + i)) (g 26) n / 2 := by
  rw [BRn h, h.2.1.2.2.2.1.1, ce_eq (f' := fun i => g (18 + i)) (ltn_lt8 h.1.2.2 h.2.1.2.2.2.1.2) n (fun i hi => ⟨BR5 h i hi, ltn_lt8 h.1.2.2 (BRcl h i hi)⟩)]
theorem br_cg {fo fo' wa wa' : Nat → Int32} {a b : Int32} : ∀ k, (∀ i, i < k → fo i = fo' i ∧ wa i = wa' i) → p_br fo wa a b k = p_br fo' wa' a b k
  | 0, _ => rfl
  | k + 1, hf => by rw [p_br, p_br, br_cg k (fun i hi => hf i (by omega)), (hf k (by omega)).1, (hf k (by omega)).2]
theorem pu_broken {P n : Nat} {s g : Nat → Int32} {F : Nat → Nat → Int32} (h : BR P n s F g) : p_br (F 6) (F 7) (s 5) (s 3) (s 1).toNatClampNeg = p_br (p_mfo g n) (p_mwa g n) (g 26) (g 0) n := by
  rw [BRn h, h.2.1.2.2.2.1.1, h.2.1.2.1.1, br_cg n (fun i hi => ⟨BR6 h i hi, BR7 h i hi⟩)]
/-! ===== count, feed, end ===== -/
/-- which images are kept -/
def KR (y7 : Int32) (ke : Nat → Int32) : Prop := ∃ K : Nat, K < 4 ∧ y7 = nI K ∧ ke 0 = p_hb y7 0 ∧ ke 1 = p_hb y7 1
theorem kr_bc : ∀ K, K < 4 → p_bc (nI K) = (if p_hb (nI K) 0 = 0 then 0 else 1) + (if p_hb (nI K) 1 = 0 then 0 else 1) := by decide +kernel
theorem pu_count {P n : Nat} {s g ms ke la si : Nat → Int32} {F : Nat → Nat → Int32} {y7 tl l0 z0 : Int32} (h : BR P n s F g) (hk : KR y7 ke) (ht : tl = ms 15) (hl : l0 = -1 ↔ la 0 = -4) (hz : ¬ l0 = -1 → z0 = si 0) (x : Int32) : r_count s y7 tl l0 z0 x = r_mcount ms g ke la si x := by
  obtain ⟨K, hK, e, k0, k1⟩ := hk
  have e3 : p_bc y7 = (if ke 0 = 0 then 0 else 1) + (if ke 1 = 0 then 0 else 1) := by rw [k0, k1, e]; exact kr_bc K hK
  have e5 : (if l0 = -1 then (-4 : Int32) else z0) = if la 0 = -4 then -4 else si 0 := by
    by_cases c : l0 = -1
    · rw [if_pos c, if_pos (hl.mp c)]
    · rw [if_neg c, if_neg (fun q => c (hl.mpr q)), hz c]
  rw [r_count, r_mcount, h.2.1.2.1.1, h.2.1.2.2.2.1.1, h.2.2.2.1.1, e3, ht, e5, h.2.1.2.2.2.2.1, h.2.1.2.2.1.1, bc_b h.2.1.2.1.2, bc_b (ltn_lt8 h.1.2.2 h.2.1.2.2.2.1.2), bc_b (ltn_lt8 h.1.2.2 h.2.1.2.2.2.2.2), bc_b h.2.1.2.2.1.2]
theorem nar_b : ∀ j, j < 128 → vp_nar .byte ((nI j).toInt8.toInt32) = nI j := by decide +kernel
theorem pu_feed {t : Nat} {ta : Nat → Int32} (ht : t ≤ 160) (hta : ∀ j, ¬ ta j < 0) (c : Int32) : r_feed (nI t) c = r_mfeed (nI t) c ∧ q_feed (nI t) c = q_mfeed (nI t) c ∧ q_feedF (nI t) c ta = q_mfeedF (nI t) c ta ∧ (∃ t', t' ≤ 160 ∧ q_mfeed (nI t) c = nI t') ∧ ∀ j, ¬ q_mfeedF (nI t) c ta j < 0 := by
  have e6 : (nI t < (160 : Int32)) ↔ ¬ nI t = 160 := ge_eq (m := 160) rfl ht (by decide)
  rw [r_feed, r_mfeed, q_feed, q_mfeed]
  by_cases c1 : c < 0
  · refine ⟨by rw [if_pos c1, if_pos (Or.inl c1)], by rw [if_pos c1, if_pos (Or.inl c1)], ?_, ⟨t, ht, by rw [if_pos (Or.inl c1)]⟩, fun j => ?_⟩
    · funext j; rw [q_feedF, q_mfeedF, if_pos c1, if_pos (Or.inl c1)]
    · rw [q_mfeedF, if_pos (Or.inl c1)]; exact hta j
  by_cases c2 : (127 : Int32) < c
  · refine ⟨by rw [if_neg c1, if_pos c2, if_pos (Or.inr c2)], by rw [if_neg c1, if_pos c2, if_pos (Or.inr c2)], ?_, ⟨t, ht, by rw [if_pos (Or.inr c2)]⟩, fun j => ?_⟩
    · funext j; rw [q_feedF, q_mfeedF, if_neg c1, if_pos c2, if_pos (Or.inr c2)]
    · rw [q_mfeedF, if_pos (Or.inr c2)]; exact hta j
  have c3 : ¬ (c < 0 ∨ (127 : Int32) < c) := fun q => q.elim c1 c2
  obtain ⟨j0, hj0, e⟩ := nI_of c1
  have hj : j0 < 128 := by rw [e, show (127 : Int32) = nI 127 from rfl, nI_ltI (by omega) hj0] at c2; omega
  by_cases c4 : nI t = 160
  · have c5 : ¬ nI t < (160 : Int32) := fun q => e6.mp q c4
    refine ⟨by rw [if_neg c1, if_neg c2, if_neg c3, if_neg c5, if_pos c4], by rw [if_neg c1, if_neg c2, if_neg c3, if_neg c5, if_pos c4], ?_, ⟨t, ht, by rw [if_neg c3, if_pos c4]⟩, fun j => ?_⟩
    · funext j; rw [q_feedF, q_mfeedF, if_neg c1, if_neg c2, if_neg c3, if_neg c5, if_pos c4]
    · rw [q_mfeedF, if_neg c3, if_pos c4]; exact hta j
  · have c5 : nI t < (160 : Int32) := e6.mpr c4
    have ht2 : t < 160 := by rw [show (160 : Int32) = nI 160 from rfl, nI_ltI (by omega) (by omega)] at c5; exact c5
    refine ⟨by rw [if_neg c1, if_neg c2, if_neg c3, if_pos c5, if_neg c4], by rw [if_neg c1, if_neg c2, if_neg c3, if_pos c5, if_neg c4], ?_, ⟨t + 1, by omega, by rw [if_neg c3, if_neg c4, nI_1]⟩, fun j => ?_⟩
    · funext j; rw [q_feedF, q_mfeedF, if_neg c1, if_neg c2, if_neg c3, if_pos c5, if_neg c4, e, nar_b j0 hj]
    · rw [q_mfeedF, if_neg c3, if_neg c4, upd]
      split
      · exact c1
      · exact hta j
theorem pu_end {t : Nat} (ht : t ≤ 160) (c : Int32) : r_end (nI t) c = r_mend (nI t) c ∧ q_end (nI t) c = q_mend (nI t) c ∧ ∃ t', t' ≤ 160 ∧ q_mend (nI t) c = nI t' := by
  rw [r_end, r_mend, q_end, q_mend]
  by_cases c1 : c < 0
  · rw [if_pos c1, if_pos (Or.inl c1), if_pos c1, if_pos (Or.inl c1)]
    exact ⟨rfl, rfl, t, ht, rfl⟩
  by_cases c2 : nI t < c
  · rw [if_neg c1, if_pos c2, if_pos (Or.inr c2), if_neg c1, if_pos c2, if_pos (Or.inr c2)]
    exact ⟨rfl, rfl, t, ht, rfl⟩
  have c3 : ¬ (c < 0 ∨ nI t < c) := fun q => q.elim c1 c2
  rw [if_neg c1, if_neg c2, if_neg c3, if_neg c1, if_neg c2, if_neg c3]
  obtain ⟨j, hj, e⟩ := nI_of c1
  rw [e, nI_ltI (by omega) hj] at c2
  exact ⟨rfl, rfl, j, by omega, e⟩

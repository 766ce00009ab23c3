/-! ===== the law: what holds between the two at the head of its loop ===== -/
def LIx (P n t : Nat) (y7 y8 y9 ln : Int32) (ta s2 : Nat → Int32) (F2 : Nat → Nat → Int32) (s3 : Nat → Int32) (F3 : Nat → Nat → Int32) (sl sz : Nat → Int32) (cf : Nat → Nat → Int32) (s : Nat → Int32) (F : Nat → Nat → Int32) (ms : Nat → Int32) (A : Nat → Nat → Int32) : Prop :=
  (BR P n s F (A 1) ∧ Bq n (F 1) (A 3) ∧ Bq n (F 2) (A 4)) ∧ (KR y7 (A 2) ∧ IR P n (A 2) 0 s2 F2 (A 1) (A 3) (A 4) ∧ IR P n (A 2) 1 s3 F3 (A 1) (A 3) (A 4)) ∧ (ln = nI t ∧ t ≤ 160 ∧ ms 15 = ln ∧ A 8 = ta ∧ ∀ j, ¬ ta j < 0) ∧ SR sl sz cf (A 14) (A 15) (A 16) ∧ (y8 = ms 20 ∧ y9 = ms 30 ∧ ms 2 = nI P ∧ ms 3 = nI n)
def mdK (k : Nat) (s : Nat → Int32) (A : Nat → Nat → Int32) : sH := [.inr (.inr (6, [.ref (k + 1), .ref (k + 2), .int (s 2), .int (s 3), .ref (k + 3), .ref (k + 4), .ref (k + 5), .int (s 7), .int (s 8), .ref (k + 6), .ref (k + 7), .int (s 11), .int (s 12), .int (s 13), .ref (k + 8), .int (s 15), .int (s 16), .int (s 17), .int (s 18), .int (s 19), .int (s 20), .int (s 21), .ref (k + 9), .ref (k + 10), .ref (k + 11), .ref (k + 12), .ref (k + 13), .ref (k + 14), .ref (k + 15), .ref (k + 16), .int (s 30)])), .inl (0, 159, A 1), .inl (2, 2, A 2), .inl (0, 8, A 3), .inl (0, 8, A 4), .inl (0, 53, A 5), .inl (0, 8, A 6), .inl (0, 8, A 7), .inl (0, 160, A 8), .inl (0, 256, A 9), .inl (0, 256, A 10), .inl (0, 256, A 11), .inl (0, 256, A 12), .inl (0, 8, A 13), .inl (0, 4, A 14), .inl (0, 4, A 15), .inl (0, 160, A 16)]
/-- the law's cells: c is where the clerk's book lies, d where the reader's -/
def lV (c d : Nat) (y7 y8 y9 ln : Int32) (ta : Nat → Int32) (e : eT) (s1 : Nat → Int32) (F1 : Nat → Nat → Int32) (a b : Int32) (M : Nat → Nat → Int32) (s2 : Nat → Int32) (F2 : Nat → Nat → Int32) (s3 : Nat → Int32) (F3 : Nat → Nat → Int32) (sl sz : Nat → Int32) (cf : Nat → Nat → Int32) (dt s : Nat → Int32) (F : Nat → Nat → Int32) (ms : Nat → Int32) (A : Nat → Nat → Int32) : sH :=
  .inr (.inr (5, [.ref 1, .ref 3, .ref 14, .ref 19, .ref 40, .ref 49, .ref c, .int y7, .int y8, .int y9])) :: .inr (.inr (4, [.ref 2, .int ln])) :: .inl (1, 160, ta) :: rdO d 1 e :: (bkK 4 s1 F1 ++ .inr (.inr (2, [.ref 15, .ref 16, .ref 17, .ref 18, .int a, .int b])) :: .inl (0, 256, M 1) :: .inl (0, 256, M 2) :: .inl (0, 256, M 3) :: .inl (2, 256, M 4) :: .inr (.inl (3, [some 20, some 30])) :: (bkK 20 s2 F2 ++ (bkK 30 s3 F3 ++ .inr (.inl (4, [some 41, some 43, some 45, some 47])) :: (shs 41 sl sz cf ++ .inl (0, 8, dt) :: (bkK 50 s F ++ mdK 60 ms A)))))
abbrev lW := lV 50 4
theorem lV_len (c d : Nat) (y7 y8 y9 ln : Int32) (ta : Nat → Int32) (e : eT) (s1 : Nat → Int32) (F1 : Nat → Nat → Int32) (a b : Int32) (M : Nat → Nat → Int32) (s2 : Nat → Int32) (F2 : Nat → Nat → Int32) (s3 : Nat → Int32) (F3 : Nat → Nat → Int32) (sl sz : Nat → Int32) (cf : Nat → Nat → Int32) (dt s : Nat → Int32) (F : Nat → Nat → Int32) (ms : Nat → Int32) (A : Nat → Nat → Int32) : (lV c d y7 y8 y9 ln ta e s1 F1 a b M s2 F2 s3 F3 sl sz cf dt s F ms A).length = 77 := rfl
/-! numbers of the images stay -/
theorem IR_st {P n k : Nat} {ke sk st st' ye pr : Nat → Int32} {Fk : Nat → Nat → Int32} (h : IR P n ke k sk Fk st ye pr) (hs : ∀ j, 53 ≤ j → st' j = st j) : IR P n ke k sk Fk st' ye pr := by
  intro q
  have e : (fun j => st' (53 * (k + 1) + j)) = fun j => st (53 * (k + 1) + j) := funext fun j => hs _ (by omega)
  rw [e]
  exact h q
theorem hi_bit {K : Nat} (hK : K < 53) (y : Int32) (st : Nat → Int32) (i z : Int32) : ∀ j, 53 ≤ j → q_mbit K y st i z j = st j := fun j hj => by
  unfold q_mbit
  split
  · rfl
  · rw [upd_ne (by omega)]
theorem hi_cut {K : Nat} (hK : K < 53) (y : Int32) (st : Nat → Int32) (i : Int32) : ∀ j, 53 ≤ j → q_mcut K y st i j = st j := fun j hj => by
  unfold q_mcut
  split
  · rfl
  · split
    · rfl
    · rw [upd_ne (by omega)]
theorem hi_row {B m : Nat} (hB : B ≤ 18) {w : Int32} (hm : m < 8) (hw : w = nI m) (st : Nat → Int32) (v z : Int32) : ∀ j, 53 ≤ j → q_mrow B st w v z j = st j := fun j hj => by
  rw [q_mrow, hw, nI_clamp (by omega), upd_ne (by omega)]
theorem hi_asks {n : Nat} (hn : n ≤ 8) (st : Nat → Int32) (p0 w p z : Int32) : ∀ j, 53 ≤ j → q_masks st (nI n) p0 w p z j = st j := fun j hj => by
  unfold q_masks
  by_cases c : p_in (nI n) w = 0
  · rw [if_pos c]
  · rw [if_neg c]
    obtain ⟨m, hm, e, _⟩ := in_n hn c
    split
    · rfl
    · exact hi_row (by decide) (by omega) e st p z j hj
theorem hi_needs {n : Nat} (hn : n ≤ 8) (st : Nat → Int32) (w v z : Int32) : ∀ j, 53 ≤ j → q_mneeds st (nI n) w v z j = st j := fun j hj => by
  unfold q_mneeds
  by_cases c : p_two (nI n) w v = 0
  · rw [if_pos c]
  · rw [if_neg c]
    obtain ⟨m, m2, hm, _, e, _⟩ := p_two_ne hn c
    exact hi_row (by decide) (by omega) e st v z j hj
theorem hi_cl {n : Nat} (hn : n ≤ 8) (st : Nat → Int32) (w v z : Int32) : ∀ j, 53 ≤ j → q_mcl st (nI n) w v z j = st j := fun j hj => by
  unfold q_mcl
  by_cases c : p_two (nI n) w v = 0
  · rw [if_pos c]
  · rw [if_neg c]
    obtain ⟨m, m2, hm, hm2, e, e2, _⟩ := p_two_ne hn c
    rw [hi_row (by decide) (by omega) e _ v z j hj, hi_row (by decide) (by omega) e2 st w z j hj]
theorem hi_plans {N : Nat} {st : Nat → Int32} (hN : N ≤ 6) (e : st 29 = nI N) (y w : Int32) : ∀ j, 53 ≤ j → q_mplans st y w j = st j := fun j hj => by
  unfold q_mplans
  split
  · rfl
  · split
    · rfl
    · rw [upd_ne (by omega), e, nI_clamp (by omega), upd_ne (by omega)]
theorem hi_see {N : Nat} {st : Nat → Int32} (hN : N ≤ 8) (e : st 36 = nI N) (y p z : Int32) : ∀ j, 53 ≤ j → q_msee st y p z j = st j := fun j hj => by
  unfold q_msee
  split
  · rfl
  · split
    · rfl
    · next c =>
      have : N ≠ 8 := fun q => c (by rw [e, q]; rfl)
      rw [upd_ne (by omega), e, nI_clamp (by omega), upd_ne (by omega), upd_ne (by omega)]
theorem hi_ask (st : Nat → Int32) (y : Int32) (n : Nat) (w : Int32) : ∀ j, 53 ≤ j → q_mask st y n w j = st j := fun j hj => by
  unfold q_mask
  split
  · rfl
  · split
    · split
      · rfl
      · rw [upd_ne (by omega), upd_ne (by omega)]
    · rfl
theorem hi_take (st : Nat → Int32) (y : Int32) (n : Nat) (w : Int32) : ∀ j, 53 ≤ j → q_mtake st y n w j = st j := fun j hj => by
  unfold q_mtake
  split
  · rfl
  · split
    · rfl
    · rw [upd_ne (by omega)]
/-- another book, the model's numbers along with it -/
theorem LI_st {P n t : Nat} {y7 y8 y9 ln : Int32} {ta s2 s3 sl sz s s' ms st' : Nat → Int32} {F2 F3 cf F F' A : Nat → Nat → Int32} (h : LIx P n t y7 y8 y9 ln ta s2 F2 s3 F3 sl sz cf s F ms A) (hB : BR P n s' F' st') (h1 : F' 1 = F 1) (h2 : F' 2 = F 2) (hs : ∀ j, 53 ≤ j → st' j = A 1 j) : LIx P n t y7 y8 y9 ln ta s2 F2 s3 F3 sl sz cf s' F' ms (va_up A 1 st') := by
  obtain ⟨⟨_, b1, b2⟩, ⟨k1, k2, k3⟩, t1, r1, r2⟩ := h
  refine ⟨⟨hB, ?_, ?_⟩, ⟨k1, ?_, ?_⟩, t1, r1, r2⟩
  · rw [h1]; exact b1
  · rw [h2]; exact b2
  · exact IR_st k2 hs
  · exact IR_st k3 hs
theorem as_1 (s : Nat → Int32) (F : Nat → Nat → Int32) (w p z : Int32) : q_asks s F w p z 1 = F 1 ∧ q_asks s F w p z 2 = F 2 := by
  unfold q_asks
  refine ⟨?_, ?_⟩ <;> (split; rfl; split; rfl; rfl)
theorem ne_1 (s : Nat → Int32) (F : Nat → Nat → Int32) (w p z : Int32) : q_needs s F w p z 1 = F 1 ∧ q_needs s F w p z 2 = F 2 := by
  unfold q_needs
  refine ⟨?_, ?_⟩ <;> (split; rfl; rfl)
theorem cl_1 (s : Nat → Int32) (F : Nat → Nat → Int32) (w p z : Int32) : q_clash s F w p z 1 = F 1 ∧ q_clash s F w p z 2 = F 2 := by
  unfold q_clash
  refine ⟨?_, ?_⟩ <;> (split; rfl; rfl)
theorem pl_1 (s : Nat → Int32) (F : Nat → Nat → Int32) (w : Int32) : q_plansF s F w 1 = F 1 ∧ q_plansF s F w 2 = F 2 := by
  unfold q_plansF
  refine ⟨?_, ?_⟩ <;> (split; rfl; split; rfl; rfl)
theorem se_1 (s : Nat → Int32) (F : Nat → Nat → Int32) (w : Int32) : q_seeF s F w 1 = F 1 ∧ q_seeF s F w 2 = F 2 := by
  unfold q_seeF
  refine ⟨?_, ?_⟩ <;> (split; rfl; split; rfl; rfl)

/-! ===== who lives in a state; the states that rows lead to ===== -/
def tn (f : Nat → Int32) : Nat → Nat := fun w => (f w).toNatClampNeg
def ltn (m : Nat) (v : Int32) : Prop := ∃ j : Nat, j < 2 ^ m ∧ v = nI j
theorem tn_e {f : Nat → Int32} {w m : Nat} (hm : m ≤ 8) (h : ltn m (f w)) : f w = nI (tn f w) ∧ tn f w < 2 ^ m := by
  obtain ⟨j, hj, e⟩ := h
  have := p_2le m hm
  unfold tn
  rw [e, nI_clamp (by omega)]
  exact ⟨rfl, hj⟩
def dN (a b : Nat) : Nat := a &&& (255 ^^^ b)
theorem dN_bit {a b : Nat} (ha : a < 256) (i : Nat) : (dN a b).testBit i = true ↔ a.testBit i = true ∧ ¬ b.testBit i = true := by
  unfold dN
  rw [Nat.testBit_and, Nat.testBit_xor, Bool.and_eq_true]
  constructor
  · rintro ⟨h1, h2⟩
    refine ⟨h1, fun h3 => ?_⟩
    have hi := bit_lt (m := 8) ha h1
    rw [h3, show (255 : Nat).testBit i = true from by
      rcases (show i = 0 ∨ i = 1 ∨ i = 2 ∨ i = 3 ∨ i = 4 ∨ i = 5 ∨ i = 6 ∨ i = 7 by omega) with rfl | rfl | rfl | rfl | rfl | rfl | rfl | rfl <;> rfl] at h2
    cases h2
  · rintro ⟨h1, h2⟩
    have hi := bit_lt (m := 8) ha h1
    refine ⟨h1, ?_⟩
    rw [show (255 : Nat).testBit i = true from by
      rcases (show i = 0 ∨ i = 1 ∨ i = 2 ∨ i = 3 ∨ i = 4 ∨ i = 5 ∨ i = 6 ∨ i = 7 by omega) with rfl | rfl | rfl | rfl | rfl | rfl | rfl | rfl <;> rfl]
    cases hb : b.testBit i with
    | true => exact absurd hb h2
    | false => rfl
theorem dN_nI {a b : Nat} (ha : a < 256) (hb : b < 256) : nI a &&& (nI b ^^^ (-1)) = nI (dN a b) := by
  apply Int32.toBitVec_inj.1
  show BitVec.ofNat 32 a &&& (BitVec.ofNat 32 b ^^^ BitVec.ofInt 32 (-1)) = BitVec.ofNat 32 (dN a b)
  apply BitVec.eq_of_getLsbD_eq
  intro i hi
  have e1 : (BitVec.ofInt 32 (-1)).getLsbD i = true := by
    rw [show BitVec.ofInt 32 (-1) = BitVec.allOnes 32 from rfl, BitVec.getLsbD_allOnes]
    simp [hi]
  rw [BitVec.getLsbD_and, BitVec.getLsbD_xor, e1]
  simp only [BitVec.getLsbD_ofNat, hi, decide_true, Bool.true_and, Bool.xor_true]
  cases h : (dN a b).testBit i with
  | true =>
    rw [dN_bit ha] at h
    rw [h.1]
    cases hb2 : b.testBit i with
    | true => exact absurd hb2 h.2
    | false => rfl
  | false =>
    cases h1 : a.testBit i with
    | false => rfl
    | true =>
      cases h2 : b.testBit i with
      | true => rfl
      | false =>
        have : (dN a b).testBit i = true := (dN_bit ha i).mpr ⟨h1, by rw [h2]; decide⟩
        rw [this] at h; cases h
theorem dN_lt {a b m : Nat} (ha : a < 2 ^ m) : dN a b < 2 ^ m := Nat.lt_of_le_of_lt Nat.and_le_left ha
theorem fw_nI {nd : Nat → Int32} {n g : Nat} (hn : n ≤ 8) (h : ∀ w, w < n → ltn n (nd w)) (hg : g < 2 ^ n) : p_fw nd n (nI g) = nI (fwN (tn nd) n g) := by
  have := p_2le n hn
  exact it_nI hn (fun w hw => (tn_e hn (h w hw)).1) (fun w hw => by have := (tn_e hn (h w hw)).2; omega) (by omega) 8
/-- what follows of a wish -/
def foN (nd : Nat → Int32) (n w : Nat) : Nat := fwN (tn nd) n (2 ^ w)
theorem fo_nI {nd : Nat → Int32} {n w : Nat} (hn : n ≤ 8) (h : ∀ w, w < n → ltn n (nd w)) (hw : w < n) : p_fw nd n ((1 : Int32) <<< (nI w &&& 31)) = nI (foN nd n w) := by
  rw [p_2n w (by omega)]
  exact fw_nI hn h (Nat.pow_lt_pow_right (by decide) hw)
theorem foN_lt {nd : Nat → Int32} {n w : Nat} (hn : n ≤ 8) (h : ∀ w, w < n → ltn n (nd w)) (hw : w < n) : foN nd n w < 2 ^ n := fwN_lt (fun w hw => (tn_e hn (h w hw)).2) (Nat.pow_lt_pow_right (by decide) hw)
theorem foN_bit (nd : Nat → Int32) (n w : Nat) : (foN nd n w).testBit w = true := itN_sup (tn nd) n (2 ^ w) 8 w (by rw [Nat.testBit_two_pow_self])
/-- who lives more, when a wish more holds -/
theorem p_lb_step {on nd : Nat → Int32} {n h h0 w : Nat} {l0 : Int32} (hn : n ≤ 8) (hnd : ∀ w, w < n → ltn n (nd w)) (hon : ∀ w, w < n → lt8 (on w)) (hh : h < 2 ^ n) (hh0 : h0 < 2 ^ n) (hw : w < n) (hw0 : ¬ h0.testBit w = true) :
    p_lb on nd n l0 (nI h0) (nI (h ||| foN nd n w)) = p_lb on nd n l0 (nI h0) (nI h) ||| p_ga on n (nI (foN nd n w)) := by
  have h28 := p_2le n hn
  have hfo := foN_lt hn hnd hw
  have hl : ∀ w, w < n → tn nd w < 2 ^ n := fun w hw => (tn_e hn (hnd w hw)).2
  have hone : ∀ w, w < n → on w = nI (tn on w) := fun w hw => (tn_e (m := 8) (by decide) (hon w hw)).1
  have hd1 : dN h h0 < 2 ^ n := dN_lt hh
  have hd2 : dN (foN nd n w) h0 < 2 ^ n := dN_lt hfo
  have hor : h ||| foN nd n w < 2 ^ n := Nat.or_lt_two_pow hh hfo
  have e1 : dN (h ||| foN nd n w) h0 = dN h h0 ||| dN (foN nd n w) h0 := by
    apply sub8_eq
    · intro i hi
      rw [dN_bit (by omega), Nat.testBit_or, Bool.or_eq_true] at hi
      rw [Nat.testBit_or, Bool.or_eq_true, dN_bit (by omega), dN_bit (by omega)]
      exact hi.1.imp (fun q => ⟨q, hi.2⟩) (fun q => ⟨q, hi.2⟩)
    · intro i hi
      rw [Nat.testBit_or, Bool.or_eq_true, dN_bit (by omega), dN_bit (by omega)] at hi
      rw [dN_bit (by omega), Nat.testBit_or, Bool.or_eq_true]
      exact hi.elim (fun q => ⟨Or.inl q.1, q.2⟩) (fun q => ⟨Or.inr q.1, q.2⟩)
  have e2 : fwN (tn nd) n (dN (foN nd n w) h0) = foN nd n w := by
    apply sub8_eq
    · exact fwN_in hn hl (Nat.pow_lt_pow_right (by decide) hw) (fun i hi => ((dN_bit (by omega) i).mp hi).1)
    · refine itN_min ?_ (fwN_cl hn hl hd2) 8
      intro i hi
      have hiw : i = w := by
        rcases Nat.decEq i w with q | q
        · rw [Nat.testBit_two_pow_of_ne (fun z => q z.symm)] at hi; cases hi
        · exact q
      rw [hiw]
      exact itN_sup (tn nd) n _ 8 w ((dN_bit (by omega) w).mpr ⟨foN_bit nd n w, hw0⟩)
  have a1 := fwN_lt (m := n) hl hd1
  unfold p_lb
  rw [dN_nI (by omega) (by omega), dN_nI (by omega) (by omega), e1, fw_nI hn hnd (Nat.or_lt_two_pow hd1 hd2), fw_nI hn hnd hd1, fwN_or hn hl hd1 hd2, e2, ga_nI (Nat.or_lt_two_pow (n := 8) (by omega) (by omega)) hn hone, ga_nI (by omega) hn hone, ga_nI (by omega) hn hone, gaN_or, ← lt8_orI, Int32.or_assoc]
/-- the marks: 1 where a row leads -/
def p_mkS (AS : Nat → Nat → Int32) (h k : Nat) (g : Nat → Int32) : Nat → Int32 := fun j => if AS h k = -4 then g j else upd g (AS h k).toNatClampNeg 1 j
def p_mkI (AS : Nat → Nat → Int32) (h : Nat) (g : Nat → Int32) : Nat → Nat → Int32
  | 0 => g
  | k + 1 => p_mkS AS h k (p_mkI AS h g k)
def p_mk (AS : Nat → Nat → Int32) (h0 n : Nat) : Nat → Nat → Int32
  | 0 => upd (fun _ => 0) h0 1
  | h + 1 => fun j => if p_mk AS h0 n h h = 0 then p_mk AS h0 n h j else p_mkI AS h (p_mk AS h0 n h) n j
/-- the graph goes up -/
def gUp (AS : Nat → Nat → Int32) (n N : Nat) : Prop := ∀ h w, h < N → w < n → AS h w = -4 ∨ ∃ b, b < N ∧ h < b ∧ AS h w = nI b
theorem p_mkI_le {AS : Nat → Nat → Int32} {n N h : Nat} (hA : gUp AS n N) (hN : N ≤ 256) (hh : h < N) (g : Nat → Int32) {j : Nat} (hj : j ≤ h) : ∀ k, k ≤ n → p_mkI AS h g k j = g j
  | 0, _ => rfl
  | k + 1, hk => by
    rw [p_mkI, p_mkS]
    have ih := p_mkI_le hA hN hh g hj k (by omega)
    rcases hA h k hh (by omega) with q | ⟨b, h1, h2, q⟩
    · rw [if_pos q, ih]
    · rw [q, if_neg (nI_n4 (by omega)), nI_clamp (by omega), upd, if_neg (by omega), ih]
/-- a state's mark stands once the states before it are done -/
theorem p_mk_st {AS : Nat → Nat → Int32} {h0 n N j : Nat} (hA : gUp AS n N) (hN : N ≤ 256) {k : Nat} (hj : j ≤ k) : ∀ d, k + d ≤ N → p_mk AS h0 n (k + d) j = p_mk AS h0 n k j
  | 0, _ => rfl
  | d + 1, h => by
    have ih := p_mk_st (h0 := h0) hA hN hj d (by omega)
    show (if p_mk AS h0 n (k + d) (k + d) = 0 then p_mk AS h0 n (k + d) j else p_mkI AS (k + d) (p_mk AS h0 n (k + d)) n j) = _
    rw [p_mkI_le hA hN (by omega) _ (by omega) n (Nat.le_refl _), ih]
    split <;> rfl
theorem p_mkI_1 {AS : Nat → Nat → Int32} {h : Nat} {g : Nat → Int32} {j : Nat} (hj : g j = 1) : ∀ k, p_mkI AS h g k j = 1
  | 0 => hj
  | k + 1 => by
    rw [p_mkI, p_mkS]
    split
    · exact p_mkI_1 hj k
    · unfold upd
      split
      · rfl
      · exact p_mkI_1 hj k
theorem p_mk_01 (AS : Nat → Nat → Int32) (h0 n : Nat) : ∀ k j, p_mk AS h0 n k j = 0 ∨ p_mk AS h0 n k j = 1 := by
  have hI : ∀ h (g : Nat → Int32), (∀ j, g j = 0 ∨ g j = 1) → ∀ k j, p_mkI AS h g k j = 0 ∨ p_mkI AS h g k j = 1 := by
    intro h g hg k
    induction k with
    | zero => exact hg
    | succ k ih =>
      intro j
      rw [p_mkI, p_mkS]
      split
      · exact ih j
      · unfold upd
        split
        · exact Or.inr rfl
        · exact ih j
  intro k
  induction k with
  | zero =>
    intro j
    rw [p_mk, upd]
    split
    · exact Or.inr rfl
    · exact Or.inl rfl
  | succ k ih =>
    intro j
    show (if p_mk AS h0 n k k = 0 then p_mk AS h0 n k j else p_mkI AS k (p_mk AS h0 n k) n j) = 0 ∨ _
    split
    · next q => show p_mk AS h0 n k j = 0 ∨ (if p_mk AS h0 n k k = 0 then p_mk AS h0 n k j else p_mkI AS k (p_mk AS h0 n k) n j) = 1; rw [if_pos q]; exact ih j
    · next q => show p_mkI AS k (p_mk AS h0 n k) n j = 0 ∨ (if p_mk AS h0 n k k = 0 then p_mk AS h0 n k j else p_mkI AS k (p_mk AS h0 n k) n j) = 1; rw [if_neg q]; exact hI k _ ih n j
/-- what holds where the row begins and goes on with it holds wherever rows lead -/
theorem p_mk_ind {AS : Nat → Nat → Int32} {h0 n N : Nat} (hA : gUp AS n N) (hN : N ≤ 256) (P : Nat → Prop) (h1 : P h0) (h2 : ∀ h w b, h < N → w < n → P h → AS h w = nI b → b < N → P b) : ∀ k, k ≤ N → ∀ j, p_mk AS h0 n k j = 1 → P j := by
  intro k
  induction k with
  | zero =>
    intro _ j hj
    rw [p_mk, upd] at hj
    by_cases q : j = h0
    · rw [q]; exact h1
    · rw [if_neg q] at hj; exact absurd hj (by decide)
  | succ k ih =>
    intro hk j hj
    have hj : (if p_mk AS h0 n k k = 0 then p_mk AS h0 n k j else p_mkI AS k (p_mk AS h0 n k) n j) = 1 := hj
    by_cases q : p_mk AS h0 n k k = 0
    · rw [if_pos q] at hj
      exact ih (by omega) j hj
    · rw [if_neg q] at hj
      have hPk : P k := ih (by omega) k ((p_mk_01 AS h0 n k k).resolve_left q)
      have : ∀ m, m ≤ n → ∀ j, p_mkI AS k (p_mk AS h0 n k) m j = 1 → P j := by
        intro m
        induction m with
        | zero => intro _ j hj; exact ih (by omega) j hj
        | succ m ihm =>
          intro hm j hj
          rw [p_mkI, p_mkS] at hj
          rcases hA k m (by omega) (by omega) with c | ⟨b, c1, c2, c⟩
          · rw [if_pos c] at hj; exact ihm (by omega) j hj
          · rw [c, if_neg (nI_n4 (by omega)), nI_clamp (by omega), upd] at hj
            by_cases e : j = b
            · rw [e]; exact h2 k m b (by omega) (by omega) hPk c c1
            · rw [if_neg e] at hj; exact ihm (by omega) j hj
      exact this n (Nat.le_refl _) j hj
/-- rows go on -/
theorem p_mk_cl {AS : Nat → Nat → Int32} {h0 n N : Nat} (hA : gUp AS n N) (hN : N ≤ 256) {h w b : Nat} (hh : h < N) (hw : w < n) (hm : p_mk AS h0 n N h = 1) (hb : AS h w = nI b) (hbN : b < N) : p_mk AS h0 n N b = 1 := by
  have e1 := p_mk_st (h0 := h0) (j := h) hA hN (Nat.le_refl h) (N - h) (by omega)
  rw [show h + (N - h) = N by omega] at e1
  rw [hm] at e1
  have hbn : b < 256 := by omega
  have hI : ∀ m, w < m → m ≤ n → p_mkI AS h (p_mk AS h0 n h) m b = 1 := by
    intro m
    induction m with
    | zero => intro h; omega
    | succ m ih =>
      intro h1 h2
      rw [p_mkI, p_mkS]
      rcases Nat.lt_or_eq_of_le (Nat.le_of_lt_succ h1) with q | q
      · split
        · exact ih q (by omega)
        · unfold upd
          split
          · rfl
          · exact ih q (by omega)
      · rw [← q, hb, if_neg (nI_n4 hbn), nI_clamp (by omega), upd, if_pos rfl]
  have e2 : p_mk AS h0 n (h + 1) b = 1 := by
    show (if p_mk AS h0 n h h = 0 then p_mk AS h0 n h b else p_mkI AS h (p_mk AS h0 n h) n b) = 1
    rw [← e1, if_neg (by decide)]
    exact hI n hw (Nat.le_refl _)
  have mono : ∀ d, h + 1 + d ≤ N → p_mk AS h0 n (h + 1 + d) b = 1 := by
    intro d
    induction d with
    | zero => intro _; exact e2
    | succ d ih =>
      intro hd
      show (if p_mk AS h0 n (h + 1 + d) (h + 1 + d) = 0 then p_mk AS h0 n (h + 1 + d) b else p_mkI AS (h + 1 + d) (p_mk AS h0 n (h + 1 + d)) n b) = 1
      split
      · exact ih (by omega)
      · exact p_mkI_1 (ih (by omega)) n
  have := mono (N - (h + 1)) (by omega)
  rw [show h + 1 + (N - (h + 1)) = N by omega] at this
  exact this

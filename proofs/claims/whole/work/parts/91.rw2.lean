/-! ===== Rows: the chart ===== -/
/-- a book as it should be: what follows, who is wanted -/
def bOK (s : Nat → Int32) (F : Nat → Nat → Int32) (n h0 : Nat) : Prop := s 1 = nI n ∧ n ≤ 8 ∧ s 5 = nI h0 ∧ h0 < 2 ^ n ∧ (∀ w, w < n → ltn n (F 4 w)) ∧ (∀ w, w < n → lt8 (F 3 w)) ∧ (∀ w, w < n → F 6 w = nI (foN (F 4) n w)) ∧ (∀ w, w < n → F 7 w = p_ga (F 3) n (nI (foN (F 4) n w)))
theorem AS_e {on nd cl : Nat → Int32} {n h w d : Nat} {l0 h0 ba li : Int32} (hn : n ≤ 8) (hnd : ∀ w, w < n → ltn n (nd w)) (hh : h < 2 ^ n) (hw : w < n) :
    (p_AS on nd cl n l0 h0 ba d li h w = -4 ∧ (h.testBit w = true ∨ ¬ p_re on nd cl n li ba (nI w) (nI h) (p_LB on nd n l0 h0 h) d = 0)) ∨ (p_AS on nd cl n l0 h0 ba d li h w = nI (h ||| foN nd n w) ∧ ¬ h.testBit w = true ∧ p_re on nd cl n li ba (nI w) (nI h) (p_LB on nd n l0 h0 h) d = 0) := by
  have h28 := p_2le n hn
  have hb := hb_nI h (by omega) w (by omega)
  unfold p_AS p_as p_LB
  by_cases c1 : h.testBit w = true
  · rw [if_pos c1] at hb
    rw [hb, if_neg (by decide)]
    exact Or.inl ⟨rfl, Or.inl c1⟩
  · rw [if_neg c1] at hb
    rw [hb, if_pos rfl]
    by_cases c2 : p_re on nd cl n li ba (nI w) (nI h) (p_lb on nd n l0 h0 (nI h)) d = 0
    · rw [if_pos c2, fo_nI hn hnd hw, lt8_orI]
      exact Or.inr ⟨rfl, c1, c2⟩
    · rw [if_neg c2]
      exact Or.inl ⟨rfl, Or.inr c2⟩
theorem or_gt {h f w : Nat} (h1 : ¬ h.testBit w = true) (h2 : f.testBit w = true) : h < h ||| f := by
  have h3 : h ≤ h ||| f := Nat.left_le_or
  rcases Nat.lt_or_eq_of_le h3 with q | q
  · exact q
  · have : (h ||| f).testBit w = true := by rw [Nat.testBit_or, h2, Bool.or_true]
    rw [← q] at this
    exact absurd this h1
theorem AS_up {on nd cl : Nat → Int32} {n d : Nat} {l0 h0 ba li : Int32} (hn : n ≤ 8) (hnd : ∀ w, w < n → ltn n (nd w)) : gUp (p_AS on nd cl n l0 h0 ba d li) n (2 ^ n) := by
  intro h w hh hw
  rcases AS_e (on := on) (cl := cl) (d := d) (l0 := l0) (h0 := h0) (ba := ba) (li := li) hn hnd hh hw with ⟨q, _⟩ | ⟨q, q2, _⟩
  · exact Or.inl q
  · exact Or.inr ⟨_, Nat.or_lt_two_pow hh (foN_lt hn hnd hw), or_gt q2 (foN_bit nd n w), q⟩
/-- moves as the graph says -/
def CM (AS : Nat → Nat → Int32) (n j : Nat) (v : Int32) : Prop := ∃ u : Nat, u < 256 ∧ v = nI u ∧ ∀ w, w < n → (p_hb (nI u) (nI w) = 0 ↔ AS j w = -4)
theorem gr_CM {on nd cl : Nat → Int32} {n h d : Nat} {l0 h0 ba li : Int32} (hn : n ≤ 8) (hnd : ∀ w, w < n → ltn n (nd w)) (hh : h < 2 ^ n) : CM (p_AS on nd cl n l0 h0 ba d li) n h (p_gr on nd cl n li ba (nI h) (p_LB on nd n l0 h0 h) d n) := by
  have h28 := p_2le n hn
  have key : ∀ i, i ≤ n → ∃ u : Nat, u < 2 ^ i ∧ p_gr on nd cl n li ba (nI h) (p_LB on nd n l0 h0 h) d i = nI u ∧ ∀ w, w < i → (¬ u.testBit w = true ↔ p_AS on nd cl n l0 h0 ba d li h w = -4) := by
    intro i
    induction i with
    | zero => intro _; exact ⟨0, by decide, rfl, fun w hw => by omega⟩
    | succ i ih =>
      intro hi
      obtain ⟨u, hu, e, hb⟩ := ih (by omega)
      have hp : 2 ^ i < 2 ^ (i + 1) := Nat.pow_lt_pow_right (by decide) (by omega)
      have hui : ¬ u.testBit i = true := by rw [Nat.testBit_lt_two_pow hu]; decide
      have stay : p_AS on nd cl n l0 h0 ba d li h i = -4 → ∃ u' : Nat, u' < 2 ^ (i + 1) ∧ nI u = nI u' ∧ ∀ w, w < i + 1 → (¬ u'.testBit w = true ↔ p_AS on nd cl n l0 h0 ba d li h w = -4) := by
        intro q
        refine ⟨u, by omega, rfl, fun w hw => ?_⟩
        rcases Nat.lt_or_eq_of_le (Nat.le_of_lt_succ hw) with r | r
        · exact hb w r
        · rw [r]; exact ⟨fun _ => q, fun _ => hui⟩
      have hbi := hb_nI h (by omega) i (by omega)
      rw [p_gr, e]
      rcases AS_e (on := on) (cl := cl) (d := d) (l0 := l0) (h0 := h0) (ba := ba) (li := li) hn hnd hh (show i < n by omega) with ⟨q, q2 | q2⟩ | ⟨q, q2, q3⟩
      · rw [if_pos q2] at hbi
        rw [hbi, if_neg (by decide)]
        exact stay q
      · by_cases c : p_hb (nI h) (nI i) = 0
        · rw [if_pos c, if_neg q2]; exact stay q
        · rw [if_neg c]; exact stay q
      · rw [if_neg q2] at hbi
        rw [hbi, if_pos rfl, if_pos q3, p_2n i (by omega), lt8_orI]
        refine ⟨u ||| 2 ^ i, Nat.or_lt_two_pow (by omega) hp, rfl, fun w hw => ?_⟩
        rw [Nat.testBit_or, Bool.or_eq_true]
        rcases Nat.lt_or_eq_of_le (Nat.le_of_lt_succ hw) with r | r
        · rw [Nat.testBit_two_pow_of_ne (by omega), ← hb w r]
          exact ⟨fun z z2 => z (Or.inl z2), fun z z2 => z2.elim z (fun z3 => by cases z3)⟩
        · rw [r, Nat.testBit_two_pow_self, q]
          exact ⟨fun z => absurd (Or.inr rfl) z, fun z => absurd z (nI_n4 (by
            have := Nat.or_lt_two_pow hh (foN_lt hn hnd (show i < n by omega)); omega))⟩
  obtain ⟨u, hu, e, hb⟩ := key n (Nat.le_refl _)
  refine ⟨u, by omega, e, fun w hw => ?_⟩
  rw [hb_nI u (by omega) w (by omega), ← hb w hw]
  by_cases c : u.testBit w = true
  · rw [if_pos c]
    exact ⟨fun q => absurd q (by decide), fun q => absurd c q⟩
  · rw [if_neg c]
    exact ⟨fun _ => c, fun _ => rfl⟩
/-- the chart, up to a state -/
def InvC (AS : Nat → Nat → Int32) (LB : Nat → Int32) (h0 n k : Nat) (mv al mk : Nat → Int32) : Prop := ∀ j, h0 ≤ j → j < 2 ^ n → mk j = p_mk AS h0 n k j ∧ (p_mk AS h0 n k j = 1 → al j = LB j) ∧ (j < k → p_mk AS h0 n k j = 1 → CM AS n j (mv j)) ∧ (j < k → p_mk AS h0 n k j = 0 → mv j = -1) ∧ (k ≤ j → mv j = -1)
theorem p_mk_sup {on nd cl : Nat → Int32} {n h0 d k j : Nat} {l0 ba li : Int32} (hn : n ≤ 8) (hnd : ∀ w, w < n → ltn n (nd w)) (hk : k ≤ 2 ^ n) (hj : p_mk (p_AS on nd cl n l0 (nI h0) ba d li) h0 n k j = 1) : sub8 h0 j := by
  refine p_mk_ind (N := 2 ^ n) (AS_up hn hnd) (p_2le n hn) (fun j => sub8 h0 j) (fun i hi => hi) ?_ k hk j hj
  intro h w b hh hw hP hb hbN
  have h28 := p_2le n hn
  rcases AS_e (on := on) (cl := cl) (d := d) (l0 := l0) (h0 := nI h0) (ba := ba) (li := li) hn hnd hh hw with ⟨q, _⟩ | ⟨q, _, _⟩
  · rw [q] at hb
    exact absurd hb.symm (nI_n4 (by omega))
  · rw [q] at hb
    have hl : h ||| foN nd n w < 256 := by have := Nat.or_lt_two_pow hh (foN_lt hn hnd hw); omega
    rw [← (nI_eq (by omega) (by omega)).mp hb]
    exact sub8_t hP (sub8_l _ _)
theorem InvC_step {s : Nat → Int32} {F : Nat → Nat → Int32} {n h0 d k : Nat} {mv al mk : Nat → Int32} (hb : bOK s F n h0) (hk0 : h0 ≤ k) (hk : k < 2 ^ n)
    (hI : InvC (p_AS (F 3) (F 4) (F 5) n (s 3) (nI h0) (s 4) d (s 6)) (p_LB (F 3) (F 4) n (s 3) (nI h0)) h0 n k mv al mk) :
    (mk k = 0 → InvC (p_AS (F 3) (F 4) (F 5) n (s 3) (nI h0) (s 4) d (s 6)) (p_LB (F 3) (F 4) n (s 3) (nI h0)) h0 n (k + 1) mv al mk) ∧
    (¬ mk k = 0 → InvC (p_AS (F 3) (F 4) (F 5) n (s 3) (nI h0) (s 4) d (s 6)) (p_LB (F 3) (F 4) n (s 3) (nI h0)) h0 n (k + 1) (upd mv k (p_gr (F 3) (F 4) (F 5) n (s 6) (s 4) (nI k) (al k) d n)) (p_bl (p_gr (F 3) (F 4) (F 5) n (s 6) (s 4) (nI k) (al k) d n) (F 6) (F 7) (nI k) al n) (p_mn (p_gr (F 3) (F 4) (F 5) n (s 6) (s 4) (nI k) (al k) d n &&& (0 ^^^ (-1))) (F 6) (nI k) mk n)) := by
  obtain ⟨hn1, hn, hs5, hh0, hnd, hon, hfo, hwa⟩ := hb
  have h28 := p_2le n hn
  obtain ⟨AS, hAS⟩ : ∃ AS, AS = p_AS (F 3) (F 4) (F 5) n (s 3) (nI h0) (s 4) d (s 6) := ⟨_, rfl⟩
  obtain ⟨LB, hLB⟩ : ∃ LB, LB = p_LB (F 3) (F 4) n (s 3) (nI h0) := ⟨_, rfl⟩
  have hup : gUp AS n (2 ^ n) := by rw [hAS]; exact AS_up hn hnd
  have hkk := hI k hk0 hk
  rw [← hAS, ← hLB] at hI hkk ⊢
  refine ⟨fun h => ?_, fun h => ?_⟩
  · have hp : p_mk AS h0 n k k = 0 := by rw [← hkk.1]; exact h
    have e : p_mk AS h0 n (k + 1) = p_mk AS h0 n k := by
      funext j
      show (if p_mk AS h0 n k k = 0 then p_mk AS h0 n k j else p_mkI AS k (p_mk AS h0 n k) n j) = _
      rw [if_pos hp]
    intro j hj0 hj
    obtain ⟨i1, i2, i3, i4, i5⟩ := hI j hj0 hj
    rw [e]
    refine ⟨i1, i2, fun q1 q2 => ?_, fun q1 q2 => ?_, fun q => i5 (by omega)⟩
    · rcases Nat.lt_or_eq_of_le (Nat.le_of_lt_succ q1) with r | r
      · exact i3 r q2
      · rw [r, hp] at q2; exact absurd q2 (by decide)
    · rcases Nat.lt_or_eq_of_le (Nat.le_of_lt_succ q1) with r | r
      · exact i4 r q2
      · exact i5 (by omega)
  · have hp : p_mk AS h0 n k k = 1 := by
      rcases p_mk_01 AS h0 n k k with q | q
      · rw [hkk.1] at h; exact absurd q h
      · exact q
    have hal : al k = LB k := hkk.2.1 hp
    rw [hal, p_andm1]
    have hCM : CM AS n k (p_gr (F 3) (F 4) (F 5) n (s 6) (s 4) (nI k) (LB k) d n) := by rw [hAS, hLB]; exact gr_CM hn hnd hk
    obtain ⟨v, hv⟩ : ∃ v, v = p_gr (F 3) (F 4) (F 5) n (s 6) (s 4) (nI k) (LB k) d n := ⟨_, rfl⟩
    rw [← hv] at hCM ⊢
    obtain ⟨u, hu, hvu, hbit⟩ := hCM
    have hsup : sub8 h0 k := by rw [hAS] at hp; exact p_mk_sup hn hnd (by omega) hp
    have e1 : p_mk AS h0 n (k + 1) = p_mkI AS k (p_mk AS h0 n k) n := by
      funext j
      show (if p_mk AS h0 n k k = 0 then p_mk AS h0 n k j else p_mkI AS k (p_mk AS h0 n k) n j) = _
      rw [hp, if_neg (by decide)]
    have step : ∀ i, i < n → (p_hb v (nI i) = 0 ∧ AS k i = -4) ∨ (¬ p_hb v (nI i) = 0 ∧ AS k i = nI (k ||| foN (F 4) n i) ∧ ¬ AS k i = -4 ∧ k < k ||| foN (F 4) n i ∧ k ||| foN (F 4) n i < 2 ^ n ∧ ¬ k.testBit i = true) := by
      intro i hi
      have b := hbit i hi
      rw [← hvu] at b
      rcases AS_e (on := F 3) (cl := F 5) (d := d) (l0 := s 3) (h0 := nI h0) (ba := s 4) (li := s 6) hn hnd hk hi with ⟨q, _⟩ | ⟨q, q2, _⟩
      · rw [← hAS] at q
        exact Or.inl ⟨b.mpr q, q⟩
      · rw [← hAS] at q
        have hl := Nat.or_lt_two_pow hk (foN_lt hn hnd hi)
        have h4 : ¬ AS k i = -4 := by rw [q]; exact nI_n4 (by omega)
        exact Or.inr ⟨fun z => h4 (b.mp z), q, h4, or_gt q2 (foN_bit (F 4) n i), hl, q2⟩
    have hix : ∀ i, i < n → ((nI k) ||| F 6 i).toNatClampNeg = k ||| foN (F 4) n i := by
      intro i hi
      have hl := Nat.or_lt_two_pow hk (foN_lt hn hnd hi)
      rw [hfo i hi, lt8_orI, nI_clamp (by omega)]
    have loop : ∀ i, i ≤ n → p_bl v (F 6) (F 7) (nI k) al i k = LB k ∧ ∀ j, h0 ≤ j → j < 2 ^ n → p_mn v (F 6) (nI k) mk i j = p_mkI AS k (p_mk AS h0 n k) i j ∧ (p_mkI AS k (p_mk AS h0 n k) i j = 1 → p_bl v (F 6) (F 7) (nI k) al i j = LB j) := by
      intro i
      induction i with
      | zero => intro _; exact ⟨hal, fun j hj0 hj => ⟨(hI j hj0 hj).1, (hI j hj0 hj).2.1⟩⟩
      | succ i ih =>
        intro hi
        obtain ⟨ih1, ih2⟩ := ih (by omega)
        have kc : (nI k).toNatClampNeg = k := nI_clamp (by omega)
        rcases step i (by omega) with ⟨q1, q2⟩ | ⟨q1, q2, q3, q4, q5, q6⟩
        · have b1 : p_bl v (F 6) (F 7) (nI k) al (i + 1) = p_bl v (F 6) (F 7) (nI k) al i := by
            funext j; rw [p_bl]; exact if_pos q1
          have b2 : p_mn v (F 6) (nI k) mk (i + 1) = p_mn v (F 6) (nI k) mk i := by
            funext j; rw [p_mn]; exact if_pos q1
          have b3 : p_mkI AS k (p_mk AS h0 n k) (i + 1) = p_mkI AS k (p_mk AS h0 n k) i := by
            funext j; rw [p_mkI, p_mkS, if_pos q2]
          rw [b1, b2, b3]
          exact ⟨ih1, ih2⟩
        · have b1 : p_bl v (F 6) (F 7) (nI k) al (i + 1) = upd (p_bl v (F 6) (F 7) (nI k) al i) (k ||| foN (F 4) n i) (LB k ||| F 7 i) := by
            funext j; rw [p_bl, hix i (by omega), kc, ih1]; exact if_neg q1
          have b2 : p_mn v (F 6) (nI k) mk (i + 1) = upd (p_mn v (F 6) (nI k) mk i) (k ||| foN (F 4) n i) 1 := by
            funext j; rw [p_mn, hix i (by omega)]; exact if_neg q1
          have b3 : p_mkI AS k (p_mk AS h0 n k) (i + 1) = upd (p_mkI AS k (p_mk AS h0 n k) i) (k ||| foN (F 4) n i) 1 := by
            funext j; rw [p_mkI, p_mkS, if_neg q3, q2, nI_clamp (by omega)]
          rw [b1, b2, b3]
          have hlb : LB k ||| F 7 i = LB (k ||| foN (F 4) n i) := by
            rw [hwa i (by omega), hLB]
            unfold p_LB
            rw [p_lb_step hn hnd hon hk hh0 (show i < n by omega) (fun z => q6 (hsup i z))]
          refine ⟨?_, fun j hj0 hj => ?_⟩
          · rw [upd, if_neg (by omega)]; exact ih1
          · unfold upd
            by_cases e : j = k ||| foN (F 4) n i
            · rw [if_pos e, if_pos e, if_pos e, hlb, e]
              exact ⟨rfl, fun _ => rfl⟩
            · rw [if_neg e, if_neg e, if_neg e]
              exact ih2 j hj0 hj
    obtain ⟨_, l2⟩ := loop n (Nat.le_refl _)
    intro j hj0 hj
    obtain ⟨i1, i2, i3, i4, i5⟩ := hI j hj0 hj
    rw [e1]
    obtain ⟨m1, m2⟩ := l2 j hj0 hj
    have hle : j ≤ k → p_mkI AS k (p_mk AS h0 n k) n j = p_mk AS h0 n k j := fun q => p_mkI_le hup h28 hk _ q n (Nat.le_refl _)
    refine ⟨m1, m2, fun q1 q2 => ?_, fun q1 q2 => ?_, fun q => ?_⟩
    · rw [hle (by omega)] at q2
      rcases Nat.lt_or_eq_of_le (Nat.le_of_lt_succ q1) with r | r
      · rw [upd, if_neg (by omega)]; exact i3 r q2
      · rw [upd, if_pos r, r]; exact ⟨u, hu, hvu, hbit⟩
    · rw [hle (by omega)] at q2
      rcases Nat.lt_or_eq_of_le (Nat.le_of_lt_succ q1) with r | r
      · rw [upd, if_neg (by omega)]; exact i4 r q2
      · rw [r, hp] at q2; exact absurd q2 (by decide)
    · rw [upd, if_neg (by omega)]; exact i5 (by omega)
/-- what the chart tells -/
def CHt (AS : Nat → Nat → Int32) (LB : Nat → Int32) (h0 n : Nat) (mv al : Nat → Int32) : Prop := ∀ j, h0 ≤ j → j < 2 ^ n → (p_mk AS h0 n (2 ^ n) j = 1 → al j = LB j ∧ CM AS n j (mv j)) ∧ (p_mk AS h0 n (2 ^ n) j = 0 → mv j = -1)
theorem CHt_of {AS : Nat → Nat → Int32} {LB : Nat → Int32} {h0 n : Nat} {mv al mk : Nat → Int32} (h : InvC AS LB h0 n (2 ^ n) mv al mk) : CHt AS LB h0 n mv al := by
  intro j hj0 hj
  obtain ⟨i1, i2, i3, i4, i5⟩ := h j hj0 hj
  exact ⟨fun q => ⟨i2 q, i3 hj q⟩, fun q => i4 hj q⟩
/-- nothing is marked below where the rows begin -/
theorem p_mk_low (AS : Nat → Nat → Int32) (h0 n : Nat) : ∀ k, k ≤ h0 → p_mk AS h0 n k = upd (fun _ => 0) h0 1
  | 0, _ => rfl
  | k + 1, h => by
    have ih := p_mk_low AS h0 n k (by omega)
    funext j
    show (if p_mk AS h0 n k k = 0 then p_mk AS h0 n k j else p_mkI AS k (p_mk AS h0 n k) n j) = _
    rw [ih, if_pos (by rw [upd, if_neg (by omega)])]

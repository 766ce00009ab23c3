/-! ===== what leadTo answers, by the graph ===== -/
def aSt (AS : Nat → Nat → Int32) (st : Int32) (h w : Nat) : Int32 := if p_hb st (nI w) = 0 then AS h w else -4
def p_any (mk lb : Nat → Int32) (p : Int32) : Nat → Int32
  | 0 => 0
  | k + 1 => if mk k = 0 then p_any mk lb p k else if p_hb (lb k) p = 0 then p_any mk lb p k else 1
theorem aSt_up {AS : Nat → Nat → Int32} {n N : Nat} (h : gUp AS n N) (st : Int32) : gUp (aSt AS st) n N := by
  intro a w ha hw
  unfold aSt
  split
  · exact h a w ha hw
  · exact Or.inl rfl
theorem aSt_mk {AS : Nat → Nat → Int32} {n N h0 : Nat} (hA : gUp AS n N) (hN : N ≤ 256) (hh : h0 < N) (st : Int32) {k j : Nat} (hk : k ≤ N) (hj : p_mk (aSt AS st) h0 n k j = 1) : p_mk AS h0 n N j = 1 := by
  refine p_mk_ind (aSt_up hA st) hN (fun j => p_mk AS h0 n N j = 1) ?_ ?_ k hk j hj
  · have e := p_mk_st (h0 := h0) (j := h0) hA hN (Nat.le_refl h0) (N - h0) (by omega)
    rw [show h0 + (N - h0) = N by omega] at e
    rw [e, p_mk_low AS h0 n h0 (Nat.le_refl _), upd, if_pos rfl]
  · intro h w b hh hw hP hb hbN
    have hb2 : AS h w = nI b := by
      unfold aSt at hb
      by_cases c : p_hb st (nI w) = 0
      · rw [if_pos c] at hb; exact hb
      · rw [if_neg c] at hb; exact absurd hb.symm (nI_n4 (by omega))
    exact p_mk_cl hA hN hh hw hP hb2 hbN
theorem hb_dN {u t w : Nat} (hu : u < 256) (ht : t < 256) (hw : w < 8) : p_hb (nI u &&& (nI t ^^^ (-1))) (nI w) = 0 ↔ (p_hb (nI u) (nI w) = 0 ∨ ¬ p_hb (nI t) (nI w) = 0) := by
  have hd : dN u t < 256 := dN_lt (m := 8) hu
  rw [dN_nI hu ht, hb_nI _ hd w hw, hb_nI u hu w hw, hb_nI t ht w hw]
  have b := dN_bit (b := t) hu w
  by_cases c1 : u.testBit w = true
  · by_cases c2 : t.testBit w = true
    · rw [if_neg (fun q => (b.mp q).2 c2), if_pos c2]
      exact ⟨fun _ => Or.inr (by decide), fun _ => rfl⟩
    · rw [if_pos (b.mpr ⟨c1, c2⟩), if_pos c1, if_neg c2]
      exact ⟨fun q => absurd q (by decide), fun q => q.elim (fun z => z) (fun z => absurd rfl z)⟩
  · rw [if_neg (fun q => c1 (b.mp q).1), if_neg c1]
    exact ⟨fun _ => Or.inl rfl, fun _ => rfl⟩
/-- where the graph leads, as a number -/
def gEd (AS : Nat → Nat → Int32) (nd : Nat → Int32) (n : Nat) : Prop := ∀ h w, h < 2 ^ n → w < n → AS h w = -4 ∨ AS h w = nI (h ||| foN nd n w)
theorem AS_ed {on nd cl : Nat → Int32} {n d : Nat} {l0 h0 ba li : Int32} (hn : n ≤ 8) (hnd : ∀ w, w < n → ltn n (nd w)) : gEd (p_AS on nd cl n l0 h0 ba d li) nd n := by
  intro h w hh hw
  rcases AS_e (on := on) (cl := cl) (d := d) (l0 := l0) (h0 := h0) (ba := ba) (li := li) hn hnd hh hw with ⟨q, _⟩ | ⟨q, _, _⟩
  · exact Or.inl q
  · exact Or.inr q
theorem ldr_sem {AS : Nat → Nat → Int32} {LB mv al : Nat → Int32} {s : Nat → Int32} {F : Nat → Nat → Int32} {n h0 t : Nat} {p : Int32} (hb : bOK s F n h0) (hup : gUp AS n (2 ^ n)) (hed : gEd AS (F 4) n) (hC : CHt AS LB h0 n mv al) (ht : t < 256) :
    p_ldr mv al (F 6) (nI t) p n h0 (2 ^ n) = p_any (p_mk (aSt AS (nI t)) h0 n (2 ^ n)) LB p (2 ^ n) := by
  obtain ⟨hn1, hn, hs5, hh0, hnd, hon, hfo, hwa⟩ := hb
  have h28 := p_2le n hn
  have hupS := aSt_up hup (nI t)
  have hmk : ∀ k, k ≤ 2 ^ n → p_lm mv (F 6) (nI t) n h0 k = p_mk (aSt AS (nI t)) h0 n k := by
    intro k
    induction k with
    | zero => intro _; rfl
    | succ k ih =>
      intro hk
      have ih := ih (by omega)
      funext j
      show (if p_lm mv (F 6) (nI t) n h0 k k = 0 then p_lm mv (F 6) (nI t) n h0 k j else p_mn (mv k &&& (nI t ^^^ (-1))) (F 6) (nI k) (p_lm mv (F 6) (nI t) n h0 k) n j) = (if p_mk (aSt AS (nI t)) h0 n k k = 0 then p_mk (aSt AS (nI t)) h0 n k j else p_mkI (aSt AS (nI t)) k (p_mk (aSt AS (nI t)) h0 n k) n j)
      rw [ih]
      by_cases c : p_mk (aSt AS (nI t)) h0 n k k = 0
      · rw [if_pos c, if_pos c]
      · rw [if_neg c, if_neg c]
        have c1 := (p_mk_01 (aSt AS (nI t)) h0 n k k).resolve_left c
        have hk0 : h0 ≤ k := by
          rcases Nat.lt_or_ge k h0 with q | q
          · rw [p_mk_low _ _ _ k (by omega), upd, if_neg (by omega)] at c1; exact absurd c1 (by decide)
          · exact q
        have hm := aSt_mk hup h28 hh0 (nI t) (show k ≤ 2 ^ n by omega) c1
        obtain ⟨u, hu, hmv, hbit⟩ := ((hC k hk0 (by omega)).1 hm).2
        have key : ∀ i, i ≤ n → p_mn (mv k &&& (nI t ^^^ (-1))) (F 6) (nI k) (p_mk (aSt AS (nI t)) h0 n k) i = p_mkI (aSt AS (nI t)) k (p_mk (aSt AS (nI t)) h0 n k) i := by
          intro i
          induction i with
          | zero => intro _; rfl
          | succ i ihi =>
            intro hi
            have ihi := ihi (by omega)
            have hd := hb_dN (w := i) hu ht (by omega)
            rw [← hmv] at hd
            have hbi := hbit i (by omega)
            rw [← hmv] at hbi
            have hfl := foN_lt hn hnd (show i < n by omega)
            have hol := Nat.or_lt_two_pow (show k < 2 ^ n by omega) hfl
            funext j
            rw [p_mn, p_mkI, p_mkS, ihi]
            show (if p_hb (mv k &&& (nI t ^^^ (-1))) (nI i) = 0 then _ else _) = _
            unfold aSt
            by_cases c2 : p_hb (nI t) (nI i) = 0
            · rw [if_pos c2]
              by_cases c3 : AS k i = -4
              · rw [if_pos c3, if_pos (hd.mpr (Or.inl (hbi.mpr c3)))]
              · rw [if_neg c3, if_neg (fun q => (hd.mp q).elim (fun z => c3 (hbi.mp z)) (fun z => z c2))]
                rw [(hed k i (by omega) (by omega)).resolve_left c3, hfo i (by omega), lt8_orI]
            · rw [if_neg c2, if_pos (hd.mpr (Or.inr c2)), if_pos rfl]
        rw [key n (Nat.le_refl _)]
  have hst : ∀ k, k ≤ 2 ^ n → p_ldr mv al (F 6) (nI t) p n h0 k = p_any (p_mk (aSt AS (nI t)) h0 n (2 ^ n)) LB p k := by
    intro k
    induction k with
    | zero => intro _; rfl
    | succ k ih =>
      intro hk
      have e := p_mk_st (h0 := h0) (j := k) hupS h28 (Nat.le_refl k) (2 ^ n - k) (by omega)
      rw [show k + (2 ^ n - k) = 2 ^ n by omega] at e
      rw [p_ldr, p_any, ih (by omega), hmk k (by omega), e]
      by_cases c : p_mk (aSt AS (nI t)) h0 n k k = 0
      · rw [if_pos c, if_pos c]
      · rw [if_neg c, if_neg c]
        have c1 := (p_mk_01 (aSt AS (nI t)) h0 n k k).resolve_left c
        have hk0 : h0 ≤ k := by
          rcases Nat.lt_or_ge k h0 with q | q
          · rw [p_mk_low _ _ _ k (by omega), upd, if_neg (by omega)] at c1; exact absurd c1 (by decide)
          · exact q
        have hm := aSt_mk hup h28 hh0 (nI t) (show k ≤ 2 ^ n by omega) c1
        rw [((hC k hk0 (by omega)).1 hm).1]
  exact hst (2 ^ n) (Nat.le_refl _)

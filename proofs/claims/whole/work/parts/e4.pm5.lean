/-! ===== class and model: lay, read ===== -/
theorem pu_lay {ln sz la si ce : Nat → Int32} {cf : Nat → Nat → Int32} (h : SR ln sz cf la si ce) (k i v : Int32) : r_lay ln sz k i = r_mlay la si k i ∧ SR ln sz (q_lay ln sz k i v cf) la si (q_mlay la si ce k i v) := by
  rcases rng (k := k) (m := 3) (by decide) with c | ⟨j, hj, e, ec, h1, h2, h3⟩
  · have c' : k < 0 ∨ (3 : Int32) < k := c
    have m1 : r_mlay la si k i = -1 := by rw [r_mlay, p_isS, if_pos c', if_pos rfl]
    have q1 : r_lay ln sz k i = -1 := by
      rw [r_lay]
      by_cases q : k < 0
      · rw [if_pos q]
      · rw [if_neg q, if_neg (show ¬ k < (4 : Int32) from rng_n (m := 3) (by decide) c q)]
    have q2 : q_lay ln sz k i v cf = cf := funext fun x => by
      rw [q_lay]
      by_cases q : k < 0
      · rw [if_pos q]
      · rw [if_neg q, if_neg (show ¬ k < (4 : Int32) from rng_n (m := 3) (by decide) c q)]
    have q3 : q_mlay la si ce k i v = ce := funext fun x => by rw [q_mlay, m1, if_neg (by decide)]
    rw [m1, q1, q2, q3]
    exact ⟨rfl, h⟩
  · have h2 : ¬ (3 : Int32) < k := h2
    have h3 : k < (4 : Int32) := h3
    have hS : ¬ p_isS k 0 = 0 := by rw [p_isS, if_neg (show ¬ (k < 0 ∨ (3 : Int32) < k) from fun q => q.elim h1 h2), if_neg (by decide)]; decide
    obtain ⟨a1, N, a2, a3, a4, a5⟩ := h j (by omega)
    rw [r_lay, r_mlay, if_neg h1, if_pos h3, if_neg hS, ec]
    have e1 : q_lay ln sz k i v cf = if p_fa (ln j) (sz j) (ln j) i = 0 then va_up cf j (upd (cf j) i.toNatClampNeg (p_lw (ln j) v)) else cf := by
      funext x
      rw [q_lay, if_neg h1, if_pos h3, ec]
      by_cases q : p_fa (ln j) (sz j) (ln j) i = 0
      · rw [if_pos q, if_pos q]
      · rw [if_neg q, if_neg q]
    rcases a1 with ⟨b1, b2⟩ | ⟨l, b0, b1, b2⟩
    · have f1 : p_fa (ln j) (sz j) (ln j) i = 1 := by rw [p_fa, if_pos b1]
      have m1 : r_mlay la si k i = -11 := by rw [r_mlay, if_neg hS, ec, if_pos b2]
      have q3 : q_mlay la si ce k i v = ce := funext fun x => by rw [q_mlay, m1, if_neg (by decide)]
      rw [e1, f1, if_neg d10, if_neg d10, if_pos b2, q3]
      exact ⟨by decide, h⟩
    · have b3 : ¬ ln j = -1 := by rw [b1]; exact fun q => absurd (show nI l < 0 by rw [q]; decide) (nI_pos (by omega))
      have b4 : ¬ la j = -4 := by rw [b2]; exact fun q => absurd (show nI l < 0 by rw [q]; decide) (nI_pos (by omega))
      by_cases c : p_in (nI N) i = 0
      · have f1 : p_fa (ln j) (sz j) (ln j) i = 2 := by
          rw [p_fa, if_neg b3, if_pos rfl, a3]
          unfold p_in at c
          by_cases q : i < 0
          · rw [if_pos q]
          · rw [if_neg q] at c ⊢
            by_cases q2 : i < nI N
            · rw [if_pos q2] at c; exact absurd c (by decide)
            · rw [if_neg q2]
        have m1 : r_mlay la si k i = -12 := by rw [r_mlay, if_neg hS, ec, if_neg b4, a4, if_pos c]
        have q3 : q_mlay la si ce k i v = ce := funext fun x => by rw [q_mlay, m1, if_neg (by decide)]
        rw [e1, f1, if_neg (by decide : ¬ (2 : Int32) = 0), if_neg (by decide : ¬ (2 : Int32) = 0), if_neg b4, a4, if_pos c, q3]
        exact ⟨by decide, h⟩
      · obtain ⟨x, hx, ex⟩ := p_in_nB (n := N) (by omega) c
        have xc : i.toNatClampNeg = x := by rw [ex, nI_clamp (by omega)]
        have f1 : p_fa (ln j) (sz j) (ln j) i = 0 := by rw [p_fa, if_neg b3, if_pos rfl, a3, ex, if_neg (nI_pos (by omega)), if_pos (nI_lt hx (by omega))]
        have m1 : r_mlay la si k i = 1 := by rw [r_mlay, if_neg hS, ec, if_neg b4, a4, if_neg c]
        have q3 : q_mlay la si ce k i v = upd ce (40 * j + x) (p_nar (la j) v) := funext fun x => by rw [q_mlay, m1, if_pos rfl, ec, xc]
        have hlw : p_lw (ln j) v = p_nar (la j) v := by rw [b1, b2]; rfl
        rw [e1, f1, if_pos rfl, if_pos rfl, if_neg b4, a4, if_neg c, q3, hlw, xc]
        refine ⟨rfl, fun y hy => ?_⟩
        obtain ⟨d1, N2, d2, d3, d4, d5⟩ := h y hy
        refine ⟨d1, N2, d2, d3, d4, fun z hz => ?_⟩
        by_cases q : y = j
        · subst q
          rw [va_up, if_pos rfl]
          by_cases q2 : z = x
          · rw [q2, upd_eq, upd_eq]
          · rw [upd_ne q2, upd_ne (by omega)]; exact d5 z hz
        · rw [va_up, if_neg q, upd_ne (by omega)]; exact d5 z hz
/-- the place of a cell: the machine's number wraps, the model's does not -/
theorem fa_eq {ln la sz f : Int32} {l : Int32} {N c : Nat} (h : (ln = -1 ∧ la = -4) ∨ ∃ b : Nat, b < 3 ∧ ln = nI b ∧ la = nI b) (hN : N ≤ 40) (hs : sz = nI N) (hc : c < 100) : p_fa ln sz l (f + nI c) = p_mfa la sz l (f.toInt64 + (nI c).toInt64) ∧ (p_mfa la sz l (f.toInt64 + (nI c).toInt64) = 0 → ∃ i, i < N ∧ f + nI c = nI i) := by
  rcases h with ⟨b1, b2⟩ | ⟨b, b0, b1, b2⟩
  · rw [p_fa, p_mfa, if_pos b1, if_pos b2]
    exact ⟨rfl, fun q => absurd q (by decide)⟩
  have b3 : ¬ ln = -1 := by rw [b1]; exact fun q => absurd (show nI b < 0 by rw [q]; decide) (nI_pos (by omega))
  have b4 : ¬ la = -4 := by rw [b2]; exact fun q => absurd (show nI b < 0 by rw [q]; decide) (nI_pos (by omega))
  rw [p_fa, p_mfa, if_neg b3, if_neg b4, b1, b2]
  by_cases q : l = nI b
  rotate_left
  · rw [if_neg q, if_neg (fun z => q z.symm)]
    exact ⟨rfl, fun q => absurd q (by decide)⟩
  rw [if_pos q, if_pos q.symm, hs]
  have e : (f.toInt64 + (nI c).toInt64).toInt = f.toInt + c := by
    rw [Int64.toInt_add, Int32.toInt_toInt64, Int32.toInt_toInt64, nI_toInt (by omega)]
    have h1 := Int32.toInt_lt f
    have h2 := Int32.le_toInt f
    rw [Int.bmod_eq_of_le (by omega) (by omega)]
  have eN : (nI N).toInt64.toInt = N := by rw [Int32.toInt_toInt64, nI_toInt (by omega)]
  have l0 : (f.toInt64 + (nI c).toInt64 < 0) ↔ f.toInt + c < 0 := by
    rw [Int64.lt_iff_toInt_lt, e]; exact Iff.rfl
  have lN : (f.toInt64 + (nI c).toInt64 < (nI N).toInt64) ↔ f.toInt + c < N := by
    rw [Int64.lt_iff_toInt_lt, e, eN]
  by_cases c1 : f.toInt64 + (nI c).toInt64 < 0
  · have d1 := l0.mp c1
    have d2 : f + nI c < 0 := by
      rw [Int32.lt_iff_toInt_lt, Int32.toInt_add, nI_toInt (by omega)]
      have h1 := Int32.toInt_lt f
      have h2 := Int32.le_toInt f
      rw [Int.bmod_eq_of_le (by omega) (by omega)]
      exact d1
    rw [if_pos c1, if_pos d2]
    exact ⟨rfl, fun q => absurd q (by decide)⟩
  · have d1 : ¬ f.toInt + c < 0 := fun z => c1 (l0.mpr z)
    rw [if_neg c1]
    by_cases c2 : f.toInt64 + (nI c).toInt64 < (nI N).toInt64
    · obtain ⟨i, hi, ei⟩ := p_64f hc hN c1 c2
      rw [if_pos c2, ei, if_neg (nI_pos (by omega)), if_pos (nI_lt hi (by omega))]
      exact ⟨rfl, fun _ => ⟨i, hi, rfl⟩⟩
    · have d2 : ¬ f.toInt + c < N := fun z => c2 (lN.mpr z)
      rw [if_neg c2]
      refine ⟨?_, fun q => absurd q (by decide)⟩
      by_cases c3 : f + nI c < 0
      · rw [if_pos c3]
      · rw [if_neg c3, if_neg]
        intro c4
        rw [Int32.lt_iff_toInt_lt, Int32.toInt_add, nI_toInt (by omega), nI_toInt (by omega)] at c4
        rw [Int32.lt_iff_toInt_lt, Int32.toInt_add, nI_toInt (by omega)] at c3
        have h1 := Int32.toInt_lt f
        have h2 := Int32.le_toInt f
        have z0 : (0 : Int32).toInt = 0 := rfl
        by_cases c5 : f.toInt + c < 2 ^ 31
        · rw [Int.bmod_eq_of_le (by omega) (by omega)] at c4
          omega
        · have e2 : (f.toInt + (c : Int)).bmod (2 ^ 32) = f.toInt + c - 2 ^ 32 := by
            rw [Int.bmod_def, Int.emod_eq_of_lt (by omega) (by omega), if_neg (by omega)]
            rfl
          rw [e2] at c3
          omega
theorem bo_nI (x : Int32) : ∀ k, k ≤ 8 → ∃ m : Nat, m ≤ k ∧ p_bo x k = nI m
  | 0, _ => ⟨0, by decide, rfl⟩
  | k + 1, hk => by
    obtain ⟨m, hm, e⟩ := bo_nI x k (by omega)
    rw [p_bo, e, p_hb]
    split
    · exact ⟨m, by omega, by rw [show (0 : Int32) = nI 0 from rfl, nI_add]; rfl⟩
    · exact ⟨m + 1, by omega, by rw [show (1 : Int32) = nI 1 from rfl, nI_add]⟩
theorem bo_pos (x : Int32) (k : Nat) (hk : k ≤ 8) : ¬ p_bo x k < 0 := by
  obtain ⟨m, hm, e⟩ := bo_nI x k hk
  rw [e]; exact nI_pos (by omega)
theorem ak_ask {s : Nat → Int32} {F : Nat → Nat → Int32} {h l : Int32} (w : Int32) : p_ak (F 3) (F 4) (F 5) (F 7) (s 1).toNatClampNeg (s 6) (s 4) (s 2).toNatClampNeg (s 1) h l w = r_ask (upd (upd s 5 h) 3 l) F w := rfl
theorem mask_n {st : Nat → Int32} {y : Int32} {n : Nat} {w : Int32} (h : r_mask st y n w < 0) : q_mask st y n w = st := by
  funext j
  rw [q_mask]
  rw [r_mask] at h
  by_cases c : p_in y w = 0
  · rw [if_pos c]
  rw [if_neg c] at h ⊢
  by_cases c2 : p_hb (st 26) w = 0
  · rw [if_pos c2] at h ⊢
    by_cases c3 : 0 < r_mrefuses st y n w
    · rw [if_pos c3]
    · rw [if_neg c3] at h
      exact absurd h (bo_pos _ 8 (by decide))
  · rw [if_neg c2]
theorem ask_y {P n : Nat} {s g : Nat → Int32} {F : Nat → Nat → Int32} (hB : BR P n s F g) {w : Int32} (h : ¬ r_ask s F w < 0) : q_ask s F w = upd (upd s 5 (s 5 ||| F 6 w.toNatClampNeg)) 3 (s 3 ||| F 7 w.toNatClampNeg) := by
  funext j
  rw [q_ask]
  rw [r_ask] at h
  by_cases c : p_in (s 1) w = 0
  · rw [if_pos c] at h; exact absurd (by decide) h
  rw [if_neg c] at h ⊢
  by_cases c2 : p_hb (s 5) w = 0
  · rw [if_pos c2] at h ⊢
    by_cases c3 : p_reB s F w (s 5) (s 3) = 0
    · rw [if_pos c3]
    · rw [if_neg c3] at h; exact absurd (by decide) h
  · rw [if_neg c2] at h; exact absurd (by decide) h
theorem upd_535 (s : Nat → Int32) (h l a b : Int32) : upd (upd (upd (upd s 5 h) 3 l) 5 a) 3 b = upd (upd s 5 a) 3 b := by
  funext j
  by_cases c3 : j = 3
  · rw [c3, upd_eq, upd_eq]
  rw [upd_ne c3, upd_ne c3]
  by_cases c5 : j = 5
  · rw [c5, upd_eq, upd_eq]
  rw [upd_ne c5, upd_ne c5, upd_ne c3, upd_ne c5]
theorem rd_loop {P n : Nat} {s : Nat → Int32} {F : Nat → Nat → Int32} (hs1 : s 1 = nI n) (hn8 : n ≤ 8) {lnv lav szv l f k h0 l0 : Int32} {cf ce : Nat → Int32} {kk N : Nat} (hl : (lnv = -1 ∧ lav = -4) ∨ ∃ b : Nat, b < 3 ∧ lnv = nI b ∧ lav = nI b) (hN : N ≤ 40) (hz : szv = nI N) (hce : ∀ i, i < N → cf i = ce (40 * kk + i)) (hk : kk < 4) (ek : k = nI kk) (hh0 : ltn n h0) (hl0 : lt8 l0) : ∀ (r c : Nat) (h x : Int32) (st : Nat → Int32), c + r ≤ 20 → BR P n (upd (upd s 5 h) 3 x) F st →
    (p_rR (F 3) (F 4) (F 5) (F 6) (F 7) (s 1).toNatClampNeg (s 6) (s 4) (s 2).toNatClampNeg (s 1) h0 l0 lnv szv l f cf r c h x).1 = (p_mrR (nI n) n lav szv l f h0 l0 k ce r c st).1 ∧ (p_rR (F 3) (F 4) (F 5) (F 6) (F 7) (s 1).toNatClampNeg (s 6) (s 4) (s 2).toNatClampNeg (s 1) h0 l0 lnv szv l f cf r c h x).2.2.2 = (p_mrR (nI n) n lav szv l f h0 l0 k ce r c st).2.2 ∧ BR P n (upd (upd s 5 (p_rR (F 3) (F 4) (F 5) (F 6) (F 7) (s 1).toNatClampNeg (s 6) (s 4) (s 2).toNatClampNeg (s 1) h0 l0 lnv szv l f cf r c h x).2.1) 3 (p_rR (F 3) (F 4) (F 5) (F 6) (F 7) (s 1).toNatClampNeg (s 6) (s 4) (s 2).toNatClampNeg (s 1) h0 l0 lnv szv l f cf r c h x).2.2.1) F (p_mrR (nI n) n lav szv l f h0 l0 k ce r c st).2.1 ∧ ∀ j, 53 ≤ j → (p_mrR (nI n) n lav szv l f h0 l0 k ce r c st).2.1 j = st j := by
  intro r
  induction r with
  | zero =>
    intro c h x st hc hB
    exact ⟨rfl, rfl, hB, fun _ _ => rfl⟩
  | succ r ih =>
    intro c h x st hc hB
    rw [p_rR, p_mrR]
    obtain ⟨f1, f2⟩ := fa_eq (l := l) (f := f) (c := c) hl hN hz (by omega)
    rw [f1]
    by_cases c1 : p_mfa lav szv l (f.toInt64 + (nI c).toInt64) = 0
    rotate_left
    · rw [if_neg c1, if_neg c1]
      exact ⟨rfl, rfl, hB, fun _ _ => rfl⟩
    obtain ⟨i, hi, ei⟩ := f2 c1
    have e1 : ((40 : Int32) * k + f + nI c).toNatClampNeg = 40 * kk + i := by
      rw [Int32.add_assoc, ei, ek, show (40 : Int32) = nI 40 from rfl, nI_mul, nI_add, nI_clamp (by omega)]
    have e2 : (f + nI c).toNatClampNeg = i := by rw [ei, nI_clamp (by omega)]
    rw [if_pos c1, if_pos c1, e1, e2, ← hce i hi, ak_ask]
    obtain ⟨a1, a2⟩ := pu_ask hB (cf i)
    rw [a1]
    by_cases c2 : r_mask st (nI n) n (cf i) < 0
    · rw [if_pos c2, if_pos c2, mask_n c2]
      refine ⟨rfl, rfl, ?_, fun j hj => by show upd (upd st 26 h0) 0 l0 j = st j; rw [upd_ne (by omega), upd_ne (by omega)]⟩
      have := BR_li (BR_ho hB hh0) hl0
      rw [upd_535] at this
      exact this
    · rw [if_neg c2, if_neg c2]
      have hq := ask_y hB (w := cf i) (by rw [a1]; exact c2)
      rw [hq] at a2
      have e5 : upd (upd s 5 h) 3 x 5 = h := by rw [upd_ne (by decide), upd_eq]
      have e3 : upd (upd s 5 h) 3 x 3 = x := upd_eq _ _ _
      rw [e5, e3, upd_535] at a2
      obtain ⟨i1, i2, i3, i4⟩ := ih (c + 1) (h ||| F 6 (cf i).toNatClampNeg) (x ||| F 7 (cf i).toNatClampNeg) (q_mask st (nI n) n (cf i)) (by omega) a2
      exact ⟨i1, i2, i3, fun j hj => by rw [i4 j hj, q_mask_o (by omega) (by omega)]⟩
theorem pu_read {P N : Nat} {s st ln sz la si ce : Nat → Int32} {F cf : Nat → Nat → Int32} {y9 : Int32} (h : BR P N s F st) (hS : SR ln sz cf la si ce) (k l f n : Int32) : r_read s F ln sz cf k l f n = r_mread (nI N) st la si ce k l f n ∧ BR P N (q_read s F ln sz cf k l f n) F (q_mread (nI N) st la si ce k l f n) ∧ t_read s F ln sz cf k l f n y9 = t_mread (nI N) y9 st la si ce k l f n ∧ ∀ j, 53 ≤ j → q_mread (nI N) st la si ce k l f n j = st j := by
  have no : p_mrn k l n = 0 → r_read s F ln sz cf k l f n = -1 ∧ q_read s F ln sz cf k l f n = s ∧ t_read s F ln sz cf k l f n y9 = y9 := by
    intro h0
    have hb : k < 0 ∨ ¬ k < 4 ∨ l < 0 ∨ ¬ l < 3 ∨ n < 0 ∨ (20 : Int32) < n := by
      by_cases c : k < 0 ∨ ¬ k < 4 ∨ l < 0 ∨ ¬ l < 3 ∨ n < 0 ∨ (20 : Int32) < n
      · exact c
      · exfalso
        have c1 : ¬ k < 0 := fun q => c (Or.inl q)
        have c2 : k < 4 := Classical.not_not.mp fun q => c (Or.inr (Or.inl q))
        have c3 : ¬ l < 0 := fun q => c (Or.inr (Or.inr (Or.inl q)))
        have c4 : l < 3 := Classical.not_not.mp fun q => c (Or.inr (Or.inr (Or.inr (Or.inl q))))
        have c5 : ¬ (n < 0 ∨ (20 : Int32) < n) := fun q => c (Or.inr (Or.inr (Or.inr (Or.inr q))))
        have hs1 : p_isS k l = 1 := by
          rw [p_isS, if_neg (show ¬ (k < 0 ∨ (3 : Int32) < k) from fun q => q.elim c1 (fun q2 => rng_n (m := 3) (k := k) (by decide) (Or.inr q2) c1 c2)), if_neg (show ¬ (l < 0 ∨ (2 : Int32) < l) from fun q => q.elim c3 (fun q2 => rng_n (m := 2) (k := l) (by decide) (Or.inr q2) c3 c4))]
        rw [p_mrn, hs1, if_neg d10, if_neg c5] at h0
        exact absurd h0 (by decide)
    refine ⟨?_, funext fun j => ?_, ?_⟩
    · rw [r_read]
      by_cases c1 : k < 0
      · rw [if_pos c1]
      rw [if_neg c1]
      by_cases c2 : k < 4
      · rw [if_pos c2]
        by_cases c3 : l < 0
        · rw [if_pos c3]
        rw [if_neg c3]
        by_cases c4 : l < 3
        · rw [if_pos c4]
          by_cases c5 : n < 0
          · rw [if_pos c5]
          · rw [if_neg c5, if_pos (by rcases hb with q | q | q | q | q | q; exact absurd q c1; exact absurd c2 q; exact absurd q c3; exact absurd c4 q; exact absurd q c5; exact q)]
        · rw [if_neg c4]
      · rw [if_neg c2]
    · rw [q_read]
      by_cases c1 : k < 0
      · rw [if_pos c1]
      rw [if_neg c1]
      by_cases c2 : k < 4
      · rw [if_pos c2]
        by_cases c3 : l < 0
        · rw [if_pos c3]
        rw [if_neg c3]
        by_cases c4 : l < 3
        · rw [if_pos c4]
          by_cases c5 : n < 0
          · rw [if_pos c5]
          · rw [if_neg c5, if_pos (by rcases hb with q | q | q | q | q | q; exact absurd q c1; exact absurd c2 q; exact absurd q c3; exact absurd c4 q; exact absurd q c5; exact q)]
        · rw [if_neg c4]
      · rw [if_neg c2]
    · rw [t_read]
      by_cases c1 : k < 0
      · rw [if_pos c1]
      rw [if_neg c1]
      by_cases c2 : k < 4
      · rw [if_pos c2]
        by_cases c3 : l < 0
        · rw [if_pos c3]
        rw [if_neg c3]
        by_cases c4 : l < 3
        · rw [if_pos c4]
          by_cases c5 : n < 0
          · rw [if_pos c5]
          · rw [if_neg c5, if_pos (by rcases hb with q | q | q | q | q | q; exact absurd q c1; exact absurd c2 q; exact absurd q c3; exact absurd c4 q; exact absurd q c5; exact q)]
        · rw [if_neg c4]
      · rw [if_neg c2]
  by_cases c : p_mrn k l n = 0
  · obtain ⟨a1, a2, a3⟩ := no c
    have q1 : q_mread (nI N) st la si ce k l f n = st := funext fun j => by rw [q_mread, if_pos c]
    rw [a1, a2, a3, q1, r_mread, t_mread, if_pos c, if_pos c]
    exact ⟨rfl, h, rfl, fun _ _ => rfl⟩
  · have c0 := c
    rw [p_mrn, p_isS] at c0
    by_cases k1 : k < 0 ∨ (3 : Int32) < k
    · rw [if_pos k1, if_pos rfl] at c0; exact absurd rfl c0
    rw [if_neg k1] at c0
    by_cases k2 : l < 0 ∨ (2 : Int32) < l
    · rw [if_pos k2, if_pos rfl] at c0; exact absurd rfl c0
    rw [if_neg k2, if_neg d10] at c0
    by_cases k3 : n < 0 ∨ (20 : Int32) < n
    · rw [if_pos k3] at c0; exact absurd rfl c0
    rcases rng (k := k) (m := 3) (by decide) with q | ⟨j, hj, e, ec, g1, g2, g3⟩
    · exact absurd q k1
    rcases rng (k := l) (m := 2) (by decide) with q | ⟨j2, hj2, e2, ec2, u1, u2, u3⟩
    · exact absurd q k2
    rcases rng (k := n) (m := 20) (by decide) with q | ⟨m, hm, em, emc, w1, w2, w3⟩
    · exact absurd q k3
    have g3 : k < 4 := g3
    have u3 : l < 3 := u3
    have w2 : ¬ (20 : Int32) < n := w2
    obtain ⟨a1, NN, a2, a3, a4, a5⟩ := hS j (by omega)
    have hsm : upd (upd s 5 (s 5)) 3 (s 3) = s := by rw [upd_I2 rfl, upd_I2 rfl]
    have e5 : s 5 = st 26 := h.2.1.2.2.2.1.1
    have e3 : s 3 = st 0 := h.2.1.2.1.1
    obtain ⟨i1, i2, i3, i4⟩ := rd_loop (l := l) (f := f) (k := k) (h0 := s 5) (l0 := s 3) h.1.2.1 h.1.2.2 a1 a2 a3 a5 (by omega) e (by rw [e5]; exact h.2.1.2.2.2.1.2) (by rw [e3]; exact h.2.1.2.1.2) m 0 (s 5) (s 3) st (by omega) (by rw [hsm]; exact h)
    have hM : p_mrq (nI N) st la si ce k l f n = p_mrR (nI N) N (la j) (sz j) l f (s 5) (s 3) k ce m 0 st := by rw [p_mrq, ec, emc, nI_clamp (by have := h.1.2.2; omega), a4, a3, e5, e3]
    have hR : p_rq s F (ln j) (sz j) l f (cf j) m = p_rR (F 3) (F 4) (F 5) (F 6) (F 7) (s 1).toNatClampNeg (s 6) (s 4) (s 2).toNatClampNeg (s 1) (s 5) (s 3) (ln j) (sz j) l f (cf j) m 0 (s 5) (s 3) := rfl
    have q1 : q_mread (nI N) st la si ce k l f n = (p_mrR (nI N) N (la j) (sz j) l f (s 5) (s 3) k ce m 0 st).2.1 := funext fun x => by rw [q_mread, if_neg c, hM]
    have q2 : q_read s F ln sz cf k l f n = upd (upd s 5 (p_rq s F (ln j) (sz j) l f (cf j) m).2.1) 3 (p_rq s F (ln j) (sz j) l f (cf j) m).2.2.1 := funext fun x => by rw [q_read, if_neg g1, if_pos g3, if_neg u1, if_pos u3, if_neg w1, if_neg w2, ec, emc]
    rw [q1, q2, r_read, r_mread, t_read, t_mread, if_neg c, if_neg c, if_neg g1, if_pos g3, if_neg u1, if_pos u3, if_neg w1, if_neg w2, if_neg g1, if_pos g3, if_neg u1, if_pos u3, if_neg w1, if_neg w2, ec, emc, hM, hR]
    exact ⟨i1, i3, by rw [i2], i4⟩

/-! ===== class and model: least sets ===== -/
theorem gaN_fo {nd : Nat → Int32} {n g : Nat} (hn : n ≤ 8) (h : ∀ w, w < n → ltn n (nd w)) (hg : g < 2 ^ n) : gaN (foN nd n) n g = fwN (tn nd) n g := by
  have hl : ∀ w, w < n → tn nd w < 2 ^ n := fun w hw => (tn_e hn (h w hw)).2
  apply sub8_eq
  · intro i hi
    obtain ⟨w, hw, h1, h2⟩ := (gaN_bit _ _ _ _).mp hi
    have hw2 : 2 ^ w < 2 ^ n := Nat.pow_lt_pow_right (by decide) hw
    refine fwN_in hn hl hg (g := 2 ^ w) (fun j hj => ?_) i h2
    rw [Nat.testBit_two_pow] at hj
    have := of_decide_eq_true hj
    subst this
    exact itN_sup (tn nd) n g 8 w h1
  · refine itN_min (fun i hi => ?_) (fun i hi => ?_) 8
    · have hin : i < n := bit_lt hg hi
      exact (gaN_bit _ _ _ _).mpr ⟨i, hin, hi, foN_bit nd n i⟩
    · obtain ⟨w, hw, h1, h2⟩ := (gaN_bit _ _ _ _).mp hi
      obtain ⟨v, hv, h3, h4⟩ := (gaN_bit _ _ _ _).mp h1
      have hv2 : 2 ^ v < 2 ^ n := Nat.pow_lt_pow_right (by decide) hv
      refine (gaN_bit _ _ _ _).mpr ⟨v, hv, h3, ?_⟩
      exact fwN_cl hn hl hv2 i ((gaN_bit _ _ _ _).mpr ⟨w, hw, h4, h2⟩)
theorem ga_fo {P n : Nat} {s st : Nat → Int32} {F : Nat → Nat → Int32} (h : BR P n s F st) {g : Nat} (hg : g < 2 ^ n) : p_ga (F 6) n (nI g) = p_fw (fun i => st (10 + i)) n (nI g) := by
  have hn := h.1.2.2
  have h28 := p_2le n hn
  rw [ga_nI (f' := foN (fun i => st (10 + i)) n) (by omega) hn (fun w hw => (BR6 h w hw).trans (fo_nI hn (BRnd h) hw)), gaN_fo hn (BRnd h) hg, fw_nI hn (BRnd h) hg]
theorem gaN_ga (on fo : Nat → Nat) (n g : Nat) : gaN (fun i => gaN on n (fo i)) n g = gaN on n (gaN fo n g) := by
  apply sub8_eq
  · intro i hi
    obtain ⟨w, hw, h1, h2⟩ := (gaN_bit _ _ _ _).mp hi
    obtain ⟨v, hv, h3, h4⟩ := (gaN_bit _ _ _ _).mp h2
    exact (gaN_bit _ _ _ _).mpr ⟨v, hv, (gaN_bit _ _ _ _).mpr ⟨w, hw, h1, h3⟩, h4⟩
  · intro i hi
    obtain ⟨v, hv, h3, h4⟩ := (gaN_bit _ _ _ _).mp hi
    obtain ⟨w, hw, h1, h2⟩ := (gaN_bit _ _ _ _).mp h3
    exact (gaN_bit _ _ _ _).mpr ⟨w, hw, h1, (gaN_bit _ _ _ _).mpr ⟨v, hv, h2, h4⟩⟩
theorem ga_wa {P n : Nat} {s st : Nat → Int32} {F : Nat → Nat → Int32} (h : BR P n s F st) {g : Nat} (hg : g < 2 ^ n) : p_ga (F 7) n (nI g) = p_ga (fun i => st (2 + i)) n (p_fw (fun i => st (10 + i)) n (nI g)) := by
  have hn := h.1.2.2
  have h28 := p_2le n hn
  have hon : ∀ w, w < n → (fun i => st (2 + i)) w = nI (tn (fun i => st (2 + i)) w) := fun w hw => (tn_e (m := 8) (by decide) (BRon h w hw)).1
  have hwa : ∀ w, w < n → F 7 w = nI (gaN (tn (fun i => st (2 + i))) n (foN (fun i => st (10 + i)) n w)) := by
    intro w hw
    have hf := foN_lt hn (BRnd h) hw
    rw [BR7 h w hw, p_mwa, p_mfo, fo_nI hn (BRnd h) hw]
    exact ga_nI (by omega) hn hon
  have hfw : fwN (tn (fun i => st (10 + i))) n g < 2 ^ n := fwN_lt (fun w hw => (tn_e hn (BRnd h w hw)).2) hg
  rw [ga_nI (by omega) hn hwa, gaN_ga, gaN_fo hn (BRnd h) hg, fw_nI hn (BRnd h) hg, ga_nI (by omega) hn hon]
theorem hb0 : ∀ i, i < 8 → p_hb (nI 0) (nI i) = 0 := by decide +kernel
theorem ga_0 (f : Nat → Int32) : ∀ n, n ≤ 8 → p_ga f n (nI 0) = 0
  | 0, _ => rfl
  | n + 1, h => by rw [p_ga, if_pos (hb0 n (by omega)), ga_0 f n (by omega)]
theorem bo_8 (x : Int32) : p_bo x 8 < 1000000 := by
  obtain ⟨m, hm, e⟩ := bo_nI x 8 (by decide)
  rw [e, show (1000000 : Int32) = nI 1000000 from rfl, nI_ltI (by omega) (by omega)]
  omega
theorem set_loop {P n : Nat} {s st : Nat → Int32} {F : Nat → Nat → Int32} (h : BR P n s F st) : ∀ k, k < 2 ^ n → (p_lc (F 5) (F 6) n (k + 1) = -4 ∧ p_ms (fun i => st (18 + i)) (fun i => st (10 + i)) n k = (1000000, -4)) ∨ ∃ j, j < 256 ∧ p_lc (F 5) (F 6) n (k + 1) = nI j ∧ p_ms (fun i => st (18 + i)) (fun i => st (10 + i)) n k = (p_bo (nI j) 8, nI j) := by
  have hn := h.1.2.2
  have h28 := p_2le n hn
  intro k
  induction k with
  | zero =>
    intro _
    refine Or.inl ⟨?_, rfl⟩
    rw [p_lc, p_lc, p_lcS, if_pos (Or.inl (by decide)), ga_0 _ n hn, if_pos]
    rw [Int32.and_zero]
  | succ k ih =>
    intro hk
    rw [p_lc, p_lcS, p_ms, p_msS, ga_fo h hk, ga_cg (BR5 h)]
    obtain ⟨K, hK⟩ : ∃ K, K = (p_ga (fun i => st (18 + i)) n (p_fw (fun i => st (10 + i)) n (nI (k + 1))) &&& p_fw (fun i => st (10 + i)) n (nI (k + 1))) := ⟨_, rfl⟩
    rw [← hK]
    rcases ih (by omega) with ⟨a1, a2⟩ | ⟨j, hj, a1, a2⟩
    · rw [a1, a2, if_pos (Or.inl (by decide)), if_pos (bo_8 _)]
      by_cases c : K = 0
      · rw [if_pos c, if_pos c]
        exact Or.inl ⟨rfl, rfl⟩
      · rw [if_neg c, if_neg c]
        exact Or.inr ⟨k + 1, by omega, rfl, rfl⟩
    · rw [a1, a2, bc_bo (k + 1) (by omega), bc_bo j hj]
      by_cases c1 : p_bo (nI (k + 1)) 8 < p_bo (nI j) 8
      · rw [if_pos (Or.inr c1), if_pos c1]
        by_cases c : K = 0
        · rw [if_pos c, if_pos c]
          exact Or.inr ⟨j, hj, rfl, rfl⟩
        · rw [if_neg c, if_neg c]
          exact Or.inr ⟨k + 1, by omega, rfl, rfl⟩
      · rw [if_neg (fun q => q.elim (nI_pos (by omega)) c1), if_neg c1]
        exact Or.inr ⟨j, hj, rfl, rfl⟩
theorem m4_ne {j : Nat} (hj : j < 256) : ¬ nI j = -4 := fun q => absurd (show nI j < 0 by rw [q]; decide) (nI_pos (by omega))
theorem pu_set {P n : Nat} {s st : Nat → Int32} {F : Nat → Nat → Int32} (h : BR P n s F st) (z : Int32) : r_set s F z = r_mset (fun i => st (18 + i)) (fun i => st (10 + i)) n z := by
  have hn := h.1.2.2
  have h28 := p_2le n hn
  have h0 := Nat.two_pow_pos n
  rw [r_set, r_mset, BRn h]
  by_cases c : z < 0 ∨ (1 : Int32) < z
  · rw [if_pos c]
    by_cases c1 : z < 0
    · rw [if_pos c1]
    · rw [if_neg c1, if_pos (c.resolve_left c1)]
  have c1 : ¬ z < 0 := fun q => c (Or.inl q)
  have c2 : ¬ (1 : Int32) < z := fun q => c (Or.inr q)
  rw [if_neg c, if_neg c1, if_neg c2]
  have L := set_loop h (2 ^ n - 1) (by omega)
  rw [show 2 ^ n - 1 + 1 = 2 ^ n by omega] at L
  rcases L with ⟨a1, a2⟩ | ⟨j, hj, a1, a2⟩
  · rw [a1, a2, p_ss, if_pos (by decide), if_pos rfl]
  · rw [a1, a2, p_ss, if_neg (nI_pos (by omega)), if_neg (m4_ne hj)]
    rcases lt2 c1 c2 with rfl | rfl
    · rw [if_neg (by decide), if_pos rfl, bc_bo j hj]
    · rw [if_pos rfl, if_neg (by decide)]
/-! rid -/
theorem bN_sub : ∀ a, a < 256 → ∀ b, b < 256 → a &&& (255 ^^^ b) = 0 → a = b ∨ bN a < bN b := by decide +kernel
theorem bo_bN : ∀ a, a < 256 → p_bo (nI a) 8 = nI (bN a) := by decide +kernel
theorem bN_8 : ∀ a, a < 256 → bN a ≤ 8 := by decide +kernel
theorem nI_0' {m : Nat} (hm : m < 2 ^ 31) : nI m = 0 ↔ m = 0 := by rw [show (0 : Int32) = nI 0 from rfl]; exact nI_eq hm (by decide)
theorem tk_all {nd : Nat → Int32} {n H : Nat} (hn : n ≤ 8) (h : ∀ w, w < n → ltn n (nd w)) (hH : H < 2 ^ n) : ∀ k, k ≤ n → p_tk nd n (nI H) (nI H) k = nI (H % 2 ^ k)
  | 0, _ => by rw [p_tk, Nat.pow_zero, Nat.mod_one]; rfl
  | k + 1, hk => by
    have h28 := p_2le n hn
    have hf := foN_lt hn h (w := k) (by omega)
    rw [p_tk, tk_all hn h hH k (by omega), hb_nI H (by omega) k (by omega), fo_nI hn h (by omega), and_nI, p_2n k (by omega), lt8_orI]
    have hm : H % 2 ^ (k + 1) = if H.testBit k = true then H % 2 ^ k ||| 2 ^ k else H % 2 ^ k := by
      apply Nat.eq_of_testBit_eq
      intro i
      by_cases c : H.testBit k = true
      · rw [if_pos c, Nat.testBit_or, Nat.testBit_mod_two_pow, Nat.testBit_mod_two_pow, Nat.testBit_two_pow]
        by_cases q : k = i
        · rw [← q, c]; simp
        · have e1 : decide (k = i) = false := decide_eq_false q
          have e2 : decide (i < k + 1) = decide (i < k) := by
            by_cases r : i < k
            · rw [decide_eq_true r, decide_eq_true (show i < k + 1 by omega)]
            · rw [decide_eq_false r, decide_eq_false (show ¬ i < k + 1 by omega)]
          rw [e1, e2, Bool.or_false]
      · rw [if_neg c, Nat.testBit_mod_two_pow, Nat.testBit_mod_two_pow]
        by_cases q : k = i
        · have c' : H.testBit i = false := by cases hb : H.testBit i with
            | true => rw [← q] at hb; exact absurd hb c
            | false => rfl
          rw [c', Bool.and_false, Bool.and_false]
        · have e2 : decide (i < k + 1) = decide (i < k) := by
            by_cases r : i < k
            · rw [decide_eq_true r, decide_eq_true (show i < k + 1 by omega)]
            · rw [decide_eq_false r, decide_eq_false (show ¬ i < k + 1 by omega)]
          rw [e2]
    by_cases c : H.testBit k = true
    · rw [if_pos c] at hm
      rw [if_pos c, if_neg d10, if_neg, hm]
      intro q
      rw [nI_0' (Nat.lt_of_le_of_lt Nat.and_le_left (by omega))] at q
      have := congrArg (fun x => x.testBit k) q
      simp only [Nat.testBit_and, foN_bit, c, Nat.zero_testBit] at this
      cases this
    · rw [if_neg c] at hm
      rw [if_neg c, if_pos rfl, hm]
theorem rid_loop {P n H : Nat} {s st : Nat → Int32} {F : Nat → Nat → Int32} (h : BR P n s F st) (hH : H < 2 ^ n) : ∀ k, k ≤ 2 ^ n → (p_lt (F 5) (F 6) n (nI H) k = nI H ∧ p_mr (fun i => st (18 + i)) (fun i => st (10 + i)) n (nI H) k = (1000000, 0) ∧ k ≤ H) ∨ (p_lt (F 5) (F 6) n (nI H) k = nI H ∧ p_mr (fun i => st (18 + i)) (fun i => st (10 + i)) n (nI H) k = (p_bo (nI H) 8, nI H) ∧ H < k) ∨ ∃ j, j < 256 ∧ j ≠ H ∧ dN j H = 0 ∧ p_lt (F 5) (F 6) n (nI H) k = nI j ∧ p_mr (fun i => st (18 + i)) (fun i => st (10 + i)) n (nI H) k = (p_bo (nI j) 8, nI j) := by
  have hn := h.1.2.2
  have h28 := p_2le n hn
  intro k
  induction k with
  | zero => intro _; exact Or.inl ⟨rfl, rfl, Nat.zero_le _⟩
  | succ k ih =>
    intro hk
    have hk256 : k < 256 := by omega
    have hdk : dN k H < 2 ^ 31 := Nat.lt_of_le_of_lt Nat.and_le_left (by omega)
    have cmp : ∀ a b, a < 256 → b < 256 → (p_bo (nI a) 8 < p_bo (nI b) 8 ↔ bN a < bN b) := fun a b ha hb => by
      have := bN_8 a ha
      have := bN_8 b hb
      rw [bo_bN a ha, bo_bN b hb, nI_ltI (by omega) (by omega)]
    rw [p_lt, p_ltS, p_mr, p_mrS, ro_tk (BR6 h) n (Nat.le_refl n), ga_cg (BR5 h), dN_nI hk256 (by omega)]
    obtain ⟨V, hV⟩ : ∃ V, V = (p_ga (fun i => st (18 + i)) n (nI H &&& (p_tk (fun i => st (10 + i)) n (nI k) (nI H) n ^^^ (-1))) &&& (nI H &&& (p_tk (fun i => st (10 + i)) n (nI k) (nI H) n ^^^ (-1)))) := ⟨_, rfl⟩
    rw [← hV]
    have ih := ih (by omega)
    by_cases cs0 : nI (dN k H) = 0
    rotate_left
    · have cs : ¬ dN k H = 0 := fun q => cs0 ((nI_0' hdk).mpr q)
      rw [if_neg (fun q => cs0 q.1), if_neg cs0]
      have hne : k ≠ H := fun q => cs (by
        rw [q]
        apply Nat.eq_of_testBit_eq
        intro i
        rw [Nat.zero_testBit]
        cases hb : (dN H H).testBit i with
        | true => exact absurd ((dN_bit (by omega) i).mp hb).1 ((dN_bit (by omega) i).mp hb).2
        | false => rfl)
      rcases ih with ⟨a1, a2, a3⟩ | ⟨a1, a2, a3⟩ | ⟨j, b1, b2, b3, b4, b5⟩
      · exact Or.inl ⟨a1, a2, by omega⟩
      · exact Or.inr (Or.inl ⟨a1, a2, by omega⟩)
      · exact Or.inr (Or.inr ⟨j, b1, b2, b3, b4, b5⟩)
    have cs : dN k H = 0 := (nI_0' hdk).mp cs0
    have hle : k ≤ H := by
      have e : k &&& H = k := by
        apply Nat.eq_of_testBit_eq
        intro i
        rw [Nat.testBit_and]
        cases hb : k.testBit i with
        | false => rfl
        | true =>
          cases hc : H.testBit i with
          | true => rfl
          | false =>
            have : (dN k H).testBit i = true := (dN_bit hk256 i).mpr ⟨hb, by rw [hc]; decide⟩
            rw [cs, Nat.zero_testBit] at this
            cases this
      rw [← e]; exact Nat.and_le_right
    rw [if_pos cs0]
    by_cases ckh : k = H
    · subst ckh
      have hV0 : V = 0 := by
        have e1 := tk_all hn (BRnd h) hH n (Nat.le_refl n)
        rw [Nat.mod_eq_of_lt hH] at e1
        rw [hV, e1, dN_nI hk256 hk256, cs, show nI 0 = (0 : Int32) from rfl, Int32.and_zero]
      rcases ih with ⟨a1, a2, a3⟩ | ⟨a1, a2, a3⟩ | ⟨j, b1, b2, b3, b4, b5⟩
      · rw [a1, a2, if_neg (fun q => Int32.lt_irrefl q.2), if_pos (bo_8 _), if_pos hV0]
        exact Or.inr (Or.inl ⟨rfl, rfl, by omega⟩)
      · omega
      · have hs : bN j < bN k := (bN_sub j b1 k hk256 b3).resolve_left b2
        have c1 : ¬ p_bo (nI k) 8 < p_bo (nI j) 8 := fun q => by have := (cmp k j hk256 b1).mp q; omega
        rw [b4, b5, bc_bo k hk256, bc_bo j b1, if_neg (fun q => c1 q.2), if_neg c1]
        exact Or.inr (Or.inr ⟨j, b1, b2, b3, rfl, rfl⟩)
    · have hsk : bN k < bN H := (bN_sub k hk256 H (by omega) cs).resolve_left ckh
      rcases ih with ⟨a1, a2, a3⟩ | ⟨a1, a2, a3⟩ | ⟨j, b1, b2, b3, b4, b5⟩
      · have c1 : p_bo (nI k) 8 < p_bo (nI H) 8 := (cmp k H hk256 (by omega)).mpr hsk
        rw [a1, a2, bc_bo k hk256, bc_bo H (by omega), if_pos ⟨cs0, c1⟩, if_pos (bo_8 _)]
        by_cases cv : V = 0
        · rw [if_pos cv, if_pos cv]
          exact Or.inr (Or.inr ⟨k, hk256, ckh, cs, rfl, rfl⟩)
        · rw [if_neg cv, if_neg cv]
          exact Or.inl ⟨rfl, rfl, by omega⟩
      · omega
      · rw [b4, b5, bc_bo k hk256, bc_bo j b1]
        by_cases c1 : p_bo (nI k) 8 < p_bo (nI j) 8
        · rw [if_pos ⟨cs0, c1⟩, if_pos c1]
          by_cases cv : V = 0
          · rw [if_pos cv, if_pos cv]
            exact Or.inr (Or.inr ⟨k, hk256, ckh, cs, rfl, rfl⟩)
          · rw [if_neg cv, if_neg cv]
            exact Or.inr (Or.inr ⟨j, b1, b2, b3, rfl, rfl⟩)
        · rw [if_neg (fun q => c1 q.2), if_neg c1]
          exact Or.inr (Or.inr ⟨j, b1, b2, b3, rfl, rfl⟩)
theorem pu_rid {P n : Nat} {s st : Nat → Int32} {F : Nat → Nat → Int32} (h : BR P n s F st) (z : Int32) : r_rid s F z = r_mrid (fun i => st (18 + i)) (fun i => st (10 + i)) n (st 26) z := by
  have hn := h.1.2.2
  have h28 := p_2le n hn
  obtain ⟨e5, H, hH, eH⟩ := h.2.1.2.2.2.1
  rw [r_rid, r_mrid, BRn h, e5, eH]
  by_cases c : z < 0 ∨ (1 : Int32) < z
  · rw [if_pos c]
    by_cases c1 : z < 0
    · rw [if_pos c1]
    · rw [if_neg c1, if_pos (c.resolve_left c1)]
  have c1 : ¬ z < 0 := fun q => c (Or.inl q)
  have c2 : ¬ (1 : Int32) < z := fun q => c (Or.inr q)
  rw [if_neg c, if_neg c1, if_neg c2]
  have fin : ∀ j, j < 256 → p_lt (F 5) (F 6) n (nI H) (2 ^ n) = nI j → p_mr (fun i => st (18 + i)) (fun i => st (10 + i)) n (nI H) (2 ^ n) = (p_bo (nI j) 8, nI j) → p_ss (p_lt (F 5) (F 6) n (nI H) (2 ^ n)) z = if z = 0 then (p_mr (fun i => st (18 + i)) (fun i => st (10 + i)) n (nI H) (2 ^ n)).1 else (p_mr (fun i => st (18 + i)) (fun i => st (10 + i)) n (nI H) (2 ^ n)).2 := by
    intro j hj a1 a2
    rw [a1, a2, p_ss, if_neg (nI_pos (by omega))]
    rcases lt2 c1 c2 with rfl | rfl
    · rw [if_neg (by decide), if_pos rfl, bc_bo j hj]
    · rw [if_pos rfl, if_neg (by decide)]
  rcases rid_loop h hH (2 ^ n) (Nat.le_refl _) with ⟨a1, a2, a3⟩ | ⟨a1, a2, a3⟩ | ⟨j, b1, b2, b3, b4, b5⟩
  · omega
  · exact fin H (by omega) a1 a2
  · exact fin j b1 b4 b5

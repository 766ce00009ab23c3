/-! ===== class and model: what a book and a row of numbers have in common ===== -/
def Ba (P n : Nat) (s : Nat → Int32) : Prop := (s 0 = nI P ∧ P ≤ 8) ∧ (s 1 = nI n ∧ n ≤ 8)
def Bv (n : Nat) (s g : Nat → Int32) : Prop := (s 2 = g 28 ∧ ∃ d : Nat, d ≤ 8 ∧ g 28 = nI d) ∧ (s 3 = g 0 ∧ lt8 (g 0)) ∧ (s 4 = g 1 ∧ lt8 (g 1)) ∧ (s 5 = g 26 ∧ ltn n (g 26)) ∧ (s 6 = g 27 ∧ ltn n (g 27))
def Bp (n : Nat) (s : Nat → Int32) (F : Nat → Nat → Int32) (g : Nat → Int32) : Prop := s 15 = g 29 ∧ ∃ N : Nat, N ≤ 6 ∧ g 29 = nI N ∧ ∀ i, i < N → F 8 i = g (30 + i) ∧ ∃ j : Nat, j < n ∧ g (30 + i) = nI j
def Bz (s : Nat → Int32) (F : Nat → Nat → Int32) (g : Nat → Int32) : Prop := s 18 = g 36 ∧ lt8 (s 17) ∧ ∃ S : Nat, S ≤ 8 ∧ g 36 = nI S ∧ ∀ i, i < S → F 9 i = g (37 + 2 * i) ∧ (∃ j : Nat, j < 8 ∧ g (37 + 2 * i) = nI j) ∧ g (38 + 2 * i) = p_hb (s 17) (nI i)
def Bw (n : Nat) (F : Nat → Nat → Int32) (g : Nat → Int32) : Prop := ∀ i, i < n → (F 3 i = g (2 + i) ∧ lt8 (g (2 + i))) ∧ (F 4 i = g (10 + i) ∧ ltn n (g (10 + i))) ∧ (F 5 i = g (18 + i) ∧ ltn n (g (18 + i))) ∧ F 6 i = p_mfo g n i ∧ F 7 i = p_mwa g n i
/-- a book of the class and the model's numbers tell the same -/
def BR (P n : Nat) (s : Nat → Int32) (F : Nat → Nat → Int32) (g : Nat → Int32) : Prop := Ba P n s ∧ Bv n s g ∧ Bp n s F g ∧ Bz s F g ∧ Bw n F g
/-! what reads only places below n -/
theorem ga_cg {f f' : Nat → Int32} : ∀ {n : Nat}, (∀ i, i < n → f i = f' i) → ∀ g, p_ga f n g = p_ga f' n g
  | 0, _, _ => rfl
  | n + 1, h, g => by rw [p_ga, p_ga, ga_cg (fun i hi => h i (by omega)) g, h n (by omega)]
theorem it_cg {f f' : Nat → Int32} {n : Nat} (h : ∀ i, i < n → f i = f' i) (a b : Int32) : ∀ k, p_it f n a b k = p_it f' n a b k
  | 0 => rfl
  | k + 1 => by rw [p_it, p_it, p_st, p_st, it_cg h a b k, ga_cg h]
theorem fw_cg {f f' : Nat → Int32} {n : Nat} (h : ∀ i, i < n → f i = f' i) (b : Int32) : p_fw f n b = p_fw f' n b := it_cg h 0 b 8
theorem re_cg {on on' nd nd' cl cl' : Nat → Int32} {n : Nat} (h1 : ∀ i, i < n → on i = on' i) (h2 : ∀ i, i < n → nd i = nd' i) (h3 : ∀ i, i < n → cl i = cl' i) (li ba w h a : Int32) (d : Nat) : p_re on nd cl n li ba w h a d = p_re on' nd' cl' n li ba w h a d := by
  unfold p_re
  rw [it_cg h2, ga_cg h1, ga_cg h3]
theorem re_pos (on nd cl : Nat → Int32) (n : Nat) (li ba w h a : Int32) (d : Nat) : 0 < p_re on nd cl n li ba w h a d ↔ ¬ p_re on nd cl n li ba w h a d = 0 := by
  unfold p_re
  split
  · split
    · split <;> decide
    · decide
  · decide
theorem in_n {n : Nat} {w : Int32} (hn : n ≤ 8) (h : ¬ p_in (nI n) w = 0) : ∃ j, j < n ∧ w = nI j ∧ w.toNatClampNeg = j := by
  obtain ⟨j, hj, e⟩ := p_in_ne hn h
  exact ⟨j, hj, e, by rw [e, nI_clamp (by omega)]⟩
theorem ltn_lt8 {n : Nat} {v : Int32} (hn : n ≤ 8) (h : ltn n v) : lt8 v := by
  obtain ⟨j, hj, e⟩ := h
  have := p_2le n hn
  exact ⟨j, by omega, e⟩
theorem wb_ltn {n a i : Nat} (hn : n ≤ 8) (ha : a < 2 ^ n) (hi : i < n) (z : Int32) : ltn n (p_wb (nI a) (nI i) z) := by
  have h28 := p_2le n hn
  have hi2 : 2 ^ i < 2 ^ n := Nat.pow_lt_pow_right (by decide) hi
  unfold p_wb
  rw [p_2n i (by omega)]
  by_cases c : z = 0
  · rw [if_pos c, dN_nI (by omega) (by omega)]
    exact ⟨_, dN_lt ha, rfl⟩
  · rw [if_neg c, lt8_orI]
    exact ⟨_, Nat.or_lt_two_pow ha hi2, rfl⟩
theorem wb_lt8 {v : Int32} {i : Nat} (hv : lt8 v) (hi : i < 8) (z : Int32) : lt8 (p_wb v (nI i) z) := by
  obtain ⟨a, ha, e⟩ := hv
  rw [e]
  exact wb_ltn (n := 8) (by decide) ha hi z
theorem wb_ltn' {n i : Nat} {v : Int32} (hn : n ≤ 8) (hv : ltn n v) (hi : i < n) (z : Int32) : ltn n (p_wb v (nI i) z) := by
  obtain ⟨a, ha, e⟩ := hv
  rw [e]
  exact wb_ltn hn ha hi z
/-! ===== rule, wish, plan ===== -/
theorem pu_rule {P n : Nat} {s g : Nat → Int32} {F : Nat → Nat → Int32} (h : BR P n s F g) (x : Int32) : r_rule s x = r_mrule (nI P) (nI n) g x := by
  obtain ⟨⟨a1, a2⟩, ⟨v1, v2, v3, v4, v5⟩, p, _⟩ := h
  rw [r_rule, r_mrule, a1.1, a2.1, v1.1, v2.1, v3.1, v4.1, v5.1, p.1]
theorem pu_wish {P n : Nat} {s g ye pr : Nat → Int32} {F : Nat → Nat → Int32} (h : BR P n s F g) (hy : ∀ i, i < n → F 1 i = ye i ∧ F 2 i = pr i) (w x : Int32) : r_wish s F w x = r_mwish (nI n) g ye pr n w x := by
  obtain ⟨⟨_, a1, a2⟩, _, _, _, hw⟩ := h
  rw [r_wish, r_mwish, a1]
  by_cases c : p_in (nI n) w = 0
  · rw [if_pos c, if_pos c]
  rw [if_neg c, if_neg c]
  obtain ⟨j, hj, e, ec⟩ := in_n a2 c
  obtain ⟨w1, w2, w3, w4, w5⟩ := hw j hj
  rw [ec, (hy j hj).1, (hy j hj).2, w1.1, w2.1, w3.1, w4, w5, e]
  rfl
theorem in_lt {y i : Int32} : (if i < 0 then (-1 : Int32) else if i < y then 0 else -1) = if p_in y i = 0 then -1 else 0 := by
  unfold p_in
  by_cases c : i < 0
  · rw [if_pos c, if_pos c, if_pos rfl]
  · rw [if_neg c, if_neg c]
    by_cases c2 : i < y
    · rw [if_pos c2, if_pos c2, if_neg (by decide)]
    · rw [if_neg c2, if_neg c2, if_pos rfl]
theorem pu_plan {P n : Nat} {s g : Nat → Int32} {F : Nat → Nat → Int32} (h : BR P n s F g) (i : Int32) : r_plan s F i = r_mplan g i := by
  obtain ⟨_, _, ⟨p1, N, p2, p3, p4⟩, _⟩ := h
  rw [r_plan, r_mplan, p1, p3]
  by_cases c : p_in (nI N) i = 0
  · rw [if_pos c]
    unfold p_in at c
    by_cases c1 : i < 0
    · rw [if_pos c1]
    · rw [if_neg c1] at c ⊢
      by_cases c2 : i < nI N
      · rw [if_pos c2] at c; exact absurd c (by decide)
      · rw [if_neg c2]
  · obtain ⟨j, hj, e, ec⟩ := in_n (by omega) c
    rw [if_neg c, ec, (p4 j hj).1.symm, e, if_neg (nI_pos (by omega)), if_pos (nI_lt hj (by omega))]
/-! ===== live, bar, list, depth ===== -/
theorem qb_0 {k y : Nat} {s : Nat → Int32} {i z : Int32} (h : p_in (s y) i = 0) : q_bit k y s i z = s := funext fun _ => if_pos h
theorem qb_1 {k y : Nat} {s : Nat → Int32} {i z : Int32} (h : ¬ p_in (s y) i = 0) : q_bit k y s i z = upd s k (p_wb (s k) i z) := funext fun _ => if_neg h
theorem mb_0 {k : Nat} {y : Int32} {s : Nat → Int32} {i z : Int32} (h : p_in y i = 0) : q_mbit k y s i z = s := funext fun _ => if_pos h
theorem mb_1 {k : Nat} {y : Int32} {s : Nat → Int32} {i z : Int32} (h : ¬ p_in y i = 0) : q_mbit k y s i z = upd s k (p_wb (s k) i z) := funext fun _ => if_neg h
theorem fo_cg {g g' : Nat → Int32} {n : Nat} (h : ∀ i, i < n → g (10 + i) = g' (10 + i)) (i : Nat) : p_mfo g n i = p_mfo g' n i := fw_cg h _
theorem wa_cg {g g' : Nat → Int32} {n : Nat} (h : ∀ i, i < n → g (10 + i) = g' (10 + i)) (h2 : ∀ i, i < n → g (2 + i) = g' (2 + i)) (i : Nat) : p_mwa g n i = p_mwa g' n i := by
  unfold p_mwa
  rw [fo_cg h, ga_cg h2]
theorem Bw_g {n : Nat} {F : Nat → Nat → Int32} {g g' : Nat → Int32} (hn : n ≤ 8) (h : Bw n F g) (he : ∀ j, 2 ≤ j → j < 26 → g' j = g j) : Bw n F g' := by
  intro i hi
  obtain ⟨w1, w2, w3, w4, w5⟩ := h i hi
  have e1 : ∀ i, i < n → g (10 + i) = g' (10 + i) := fun i hi => (he (10 + i) (by omega) (by omega)).symm
  have e2 : ∀ i, i < n → g (2 + i) = g' (2 + i) := fun i hi => (he (2 + i) (by omega) (by omega)).symm
  rw [he (2 + i) (by omega) (by omega), he (10 + i) (by omega) (by omega), he (18 + i) (by omega) (by omega), ← fo_cg e1, ← wa_cg e1 e2]
  exact ⟨w1, w2, w3, w4, w5⟩
theorem Bp_g {n : Nat} {s s' : Nat → Int32} {F : Nat → Nat → Int32} {g g' : Nat → Int32} (h : Bp n s F g) (hs : s' 15 = s 15) (he : ∀ j, 29 ≤ j → j < 36 → g' j = g j) : Bp n s' F g' := by
  obtain ⟨p1, N, p2, p3, p4⟩ := h
  refine ⟨by rw [hs, he 29 (by omega) (by omega)]; exact p1, N, p2, by rw [he 29 (by omega) (by omega)]; exact p3, fun i hi => ?_⟩
  rw [he (30 + i) (by omega) (by omega)]
  exact p4 i hi
theorem Bz_g {s s' : Nat → Int32} {F : Nat → Nat → Int32} {g g' : Nat → Int32} (h : Bz s F g) (h17 : s' 17 = s 17) (h18 : s' 18 = s 18) (he : ∀ j, 36 ≤ j → j < 53 → g' j = g j) : Bz s' F g' := by
  obtain ⟨p1, p0, N, p2, p3, p4⟩ := h
  refine ⟨by rw [h18, he 36 (by omega) (by omega)]; exact p1, by rw [h17]; exact p0, N, p2, by rw [he 36 (by omega) (by omega)]; exact p3, fun i hi => ?_⟩
  rw [he (37 + 2 * i) (by omega) (by omega), he (38 + 2 * i) (by omega) (by omega), h17]
  exact p4 i hi
theorem BR_li {P n : Nat} {s g : Nat → Int32} {F : Nat → Nat → Int32} {v : Int32} (h : BR P n s F g) (hv : lt8 v) : BR P n (upd s 3 v) F (upd g 0 v) := by
  obtain ⟨⟨a1, a2⟩, ⟨v1, v2, v3, v4, v5⟩, hp, hz, hw⟩ := h
  refine ⟨⟨⟨by rw [upd_ne (by decide)]; exact a1.1, a1.2⟩, by rw [upd_ne (by decide)]; exact a2.1, a2.2⟩, ⟨?_, ⟨by rw [upd_eq, upd_eq], by rw [upd_eq]; exact hv⟩, ?_, ?_, ?_⟩, Bp_g hp (upd_ne (by decide)) (fun j h1 h2 => upd_ne (by omega)), Bz_g hz (upd_ne (by decide)) (upd_ne (by decide)) (fun j h1 h2 => upd_ne (by omega)), Bw_g a2.2 hw (fun j h1 h2 => upd_ne (by omega))⟩
  · rw [upd_ne (by decide), upd_ne (by decide)]; exact v1
  · rw [upd_ne (by decide), upd_ne (by decide)]; exact v3
  · rw [upd_ne (by decide), upd_ne (by decide)]; exact v4
  · rw [upd_ne (by decide), upd_ne (by decide)]; exact v5
theorem BR_ba {P n : Nat} {s g : Nat → Int32} {F : Nat → Nat → Int32} {v : Int32} (h : BR P n s F g) (hv : lt8 v) : BR P n (upd s 4 v) F (upd g 1 v) := by
  obtain ⟨⟨a1, a2⟩, ⟨v1, v2, v3, v4, v5⟩, hp, hz, hw⟩ := h
  refine ⟨⟨⟨by rw [upd_ne (by decide)]; exact a1.1, a1.2⟩, by rw [upd_ne (by decide)]; exact a2.1, a2.2⟩, ⟨?_, ?_, ⟨by rw [upd_eq, upd_eq], by rw [upd_eq]; exact hv⟩, ?_, ?_⟩, Bp_g hp (upd_ne (by decide)) (fun j h1 h2 => upd_ne (by omega)), Bz_g hz (upd_ne (by decide)) (upd_ne (by decide)) (fun j h1 h2 => upd_ne (by omega)), Bw_g a2.2 hw (fun j h1 h2 => upd_ne (by omega))⟩
  · rw [upd_ne (by decide), upd_ne (by decide)]; exact v1
  · rw [upd_ne (by decide), upd_ne (by decide)]; exact v2
  · rw [upd_ne (by decide), upd_ne (by decide)]; exact v4
  · rw [upd_ne (by decide), upd_ne (by decide)]; exact v5
theorem BR_ls {P n : Nat} {s g : Nat → Int32} {F : Nat → Nat → Int32} {v : Int32} (h : BR P n s F g) (hv : ltn n v) : BR P n (upd s 6 v) F (upd g 27 v) := by
  obtain ⟨⟨a1, a2⟩, ⟨v1, v2, v3, v4, v5⟩, hp, hz, hw⟩ := h
  refine ⟨⟨⟨by rw [upd_ne (by decide)]; exact a1.1, a1.2⟩, by rw [upd_ne (by decide)]; exact a2.1, a2.2⟩, ⟨?_, ?_, ?_, ?_, ⟨by rw [upd_eq, upd_eq], by rw [upd_eq]; exact hv⟩⟩, Bp_g hp (upd_ne (by decide)) (fun j h1 h2 => upd_ne (by omega)), Bz_g hz (upd_ne (by decide)) (upd_ne (by decide)) (fun j h1 h2 => upd_ne (by omega)), Bw_g a2.2 hw (fun j h1 h2 => upd_ne (by omega))⟩
  · rw [upd_ne (by decide), upd_ne (by decide)]; exact v1
  · rw [upd_ne (by decide), upd_ne (by decide)]; exact v2
  · rw [upd_ne (by decide), upd_ne (by decide)]; exact v3
  · rw [upd_ne (by decide), upd_ne (by decide)]; exact v4
theorem BR_ho {P n : Nat} {s g : Nat → Int32} {F : Nat → Nat → Int32} {v : Int32} (h : BR P n s F g) (hv : ltn n v) : BR P n (upd s 5 v) F (upd g 26 v) := by
  obtain ⟨⟨a1, a2⟩, ⟨v1, v2, v3, v4, v5⟩, hp, hz, hw⟩ := h
  refine ⟨⟨⟨by rw [upd_ne (by decide)]; exact a1.1, a1.2⟩, by rw [upd_ne (by decide)]; exact a2.1, a2.2⟩, ⟨?_, ?_, ?_, ⟨by rw [upd_eq, upd_eq], by rw [upd_eq]; exact hv⟩, ?_⟩, Bp_g hp (upd_ne (by decide)) (fun j h1 h2 => upd_ne (by omega)), Bz_g hz (upd_ne (by decide)) (upd_ne (by decide)) (fun j h1 h2 => upd_ne (by omega)), Bw_g a2.2 hw (fun j h1 h2 => upd_ne (by omega))⟩
  · rw [upd_ne (by decide), upd_ne (by decide)]; exact v1
  · rw [upd_ne (by decide), upd_ne (by decide)]; exact v2
  · rw [upd_ne (by decide), upd_ne (by decide)]; exact v3
  · rw [upd_ne (by decide), upd_ne (by decide)]; exact v5
theorem BR_de {P n d : Nat} {s g : Nat → Int32} {F : Nat → Nat → Int32} (h : BR P n s F g) (hd : d ≤ 8) : BR P n (upd s 2 (nI d)) F (upd g 28 (nI d)) := by
  obtain ⟨⟨a1, a2⟩, ⟨v1, v2, v3, v4, v5⟩, hp, hz, hw⟩ := h
  refine ⟨⟨⟨by rw [upd_ne (by decide)]; exact a1.1, a1.2⟩, by rw [upd_ne (by decide)]; exact a2.1, a2.2⟩, ⟨⟨by rw [upd_eq, upd_eq], d, hd, by rw [upd_eq]⟩, ?_, ?_, ?_, ?_⟩, Bp_g hp (upd_ne (by decide)) (fun j h1 h2 => upd_ne (by omega)), Bz_g hz (upd_ne (by decide)) (upd_ne (by decide)) (fun j h1 h2 => upd_ne (by omega)), Bw_g a2.2 hw (fun j h1 h2 => upd_ne (by omega))⟩
  · rw [upd_ne (by decide), upd_ne (by decide)]; exact v2
  · rw [upd_ne (by decide), upd_ne (by decide)]; exact v3
  · rw [upd_ne (by decide), upd_ne (by decide)]; exact v4
  · rw [upd_ne (by decide), upd_ne (by decide)]; exact v5
theorem pu_live {P n : Nat} {s g : Nat → Int32} {F : Nat → Nat → Int32} (h : BR P n s F g) (p z : Int32) : r_bit 3 0 s p = r_bitv (nI P) (g 0) p ∧ BR P n (q_bit 3 0 s p z) F (q_mbit 0 (nI P) g p z) := by
  have e0 := h.1.1.1
  have e3 := h.2.1.2.1.1
  refine ⟨by rw [r_bit, r_bitv, e0, e3], ?_⟩
  by_cases c : p_in (nI P) p = 0
  · rw [qb_0 (by rw [e0]; exact c), mb_0 c]; exact h
  · rw [qb_1 (by rw [e0]; exact c), mb_1 c, e3]
    obtain ⟨j, hj, e, _⟩ := in_n h.1.1.2 c
    rw [e]
    exact BR_li h (wb_lt8 h.2.1.2.1.2 (by have := h.1.1.2; omega) z)
theorem pu_bar {P n : Nat} {s g : Nat → Int32} {F : Nat → Nat → Int32} (h : BR P n s F g) (p z : Int32) : r_bit 4 0 s p = r_bitv (nI P) (g 1) p ∧ BR P n (q_bit 4 0 s p z) F (q_mbit 1 (nI P) g p z) := by
  have e0 := h.1.1.1
  have e3 := h.2.1.2.2.1.1
  refine ⟨by rw [r_bit, r_bitv, e0, e3], ?_⟩
  by_cases c : p_in (nI P) p = 0
  · rw [qb_0 (by rw [e0]; exact c), mb_0 c]; exact h
  · rw [qb_1 (by rw [e0]; exact c), mb_1 c, e3]
    obtain ⟨j, hj, e, _⟩ := in_n h.1.1.2 c
    rw [e]
    exact BR_ba h (wb_lt8 h.2.1.2.2.1.2 (by have := h.1.1.2; omega) z)
theorem pu_list {P n : Nat} {s g : Nat → Int32} {F : Nat → Nat → Int32} (h : BR P n s F g) (p z : Int32) : r_bit 6 1 s p = r_bitv (nI n) (g 27) p ∧ BR P n (q_bit 6 1 s p z) F (q_mbit 27 (nI n) g p z) := by
  have e0 := h.1.2.1
  have e3 := h.2.1.2.2.2.2.1
  refine ⟨by rw [r_bit, r_bitv, e0, e3], ?_⟩
  by_cases c : p_in (nI n) p = 0
  · rw [qb_0 (by rw [e0]; exact c), mb_0 c]; exact h
  · rw [qb_1 (by rw [e0]; exact c), mb_1 c, e3]
    obtain ⟨j, hj, e, _⟩ := in_n h.1.2.2 c
    rw [e]
    exact BR_ls h (wb_ltn' h.1.2.2 h.2.1.2.2.2.2.2 hj z)
theorem qc_n {k : Nat} {y : Int32} {s : Nat → Int32} {i : Int32} (h : i < 0 ∨ y < i) : q_cut k y s i = s := by
  funext j
  rw [q_cut]
  by_cases c : i < 0
  · rw [if_pos c]
  · rw [if_neg c, if_pos (h.resolve_left c)]
theorem qc_y {k : Nat} {y : Int32} {s : Nat → Int32} {i : Int32} (h : ¬ i < 0) (h2 : ¬ y < i) : q_cut k y s i = upd s k i := by
  funext j
  rw [q_cut, if_neg h, if_neg h2]
theorem mc_n {k : Nat} {y : Int32} {s : Nat → Int32} {i : Int32} (h : i < 0 ∨ y < i) : q_mcut k y s i = s := by
  funext j
  rw [q_mcut]
  by_cases c : i < 0
  · rw [if_pos c]
  · rw [if_neg c, if_pos (h.resolve_left c)]
theorem mc_y {k : Nat} {y : Int32} {s : Nat → Int32} {i : Int32} (h : ¬ i < 0) (h2 : ¬ y < i) : q_mcut k y s i = upd s k i := by
  funext j
  rw [q_mcut, if_neg h, if_neg h2]
theorem pu_depth {P n : Nat} {s g : Nat → Int32} {F : Nat → Nat → Int32} (h : BR P n s F g) (i : Int32) : r_cut 2 8 s i = r_cutv 8 (g 28) i ∧ BR P n (q_cut 2 8 s i) F (q_mcut 28 8 g i) := by
  refine ⟨by rw [r_cut, r_cutv, h.2.1.1.1], ?_⟩
  by_cases c : i < 0 ∨ (8 : Int32) < i
  · rw [qc_n c, mc_n c]; exact h
  · have c1 : ¬ i < 0 := fun q => c (Or.inl q)
    have c2 : ¬ (8 : Int32) < i := fun q => c (Or.inr q)
    rw [qc_y c1 c2, mc_y c1 c2]
    obtain ⟨j, hj, e⟩ := nI_of c1
    rw [e, show (8 : Int32) = nI 8 from rfl, nI_ltI (by omega) hj] at c2
    rw [e]
    exact BR_de h (by omega)

/-! ===== Reader: names; a line of one ===== -/
def k_eqs (ta : Nat → Int32) (bs : List Int32) (u : Nat) : Nat → Nat → Int32
  | 0, _ => 1
  | k + 1, j => if ta (u + j) = bs.getD j 0 then k_eqs ta bs u k (j + 1) else 0
def k_nm (ta : Nat → Int32) (e : eT) (i : Nat) : Int32 := if e_ki e = 1 ∧ e_be e - e_fi e = nI (s_len.getD i 0) then k_eqs ta (s_byt.getD i []) (e_fi e).toNatClampNeg (s_len.getD i 0) 0 else 0
def kJ (e : eT) (t : Nat) : Prop := ∃ u b, e_fi e = nI u ∧ e_be e = nI b ∧ u ≤ b ∧ b ≤ t
theorem kJ_I {e : eT} {t : Nat} (h : kJ e t) : kI e t := by
  obtain ⟨u, b, -, h1, -, h2⟩ := h
  exact ⟨b, h1, h2⟩
theorem kJ_nx {ta : Nat → Int32} {e : eT} {t : Nat} (ht : t ≤ 160) (h : kI e t) : kJ (k_nx ta (nI t) e).2 t := by
  obtain ⟨p, hp, hpt⟩ := h
  have hut := p_ru_le ta (t := t) 32 32 (by decide) ht 161 p hpt
  rw [k_nx, hp, nI_clamp (by omega)]
  obtain ⟨u, hu⟩ : ∃ u, u = p_ru ta (nI t) 32 32 161 p := ⟨_, rfl⟩
  rw [← hu] at hut ⊢
  unfold k_n1
  by_cases c : nI u < nI t
  · rw [if_pos c]
    have hlt : u < t := by rw [nI_ltI (by omega) (by omega)] at c; exact c
    split
    · exact ⟨u, u + 1, rfl, rfl, by omega, hlt⟩
    split
    · have e2 := p_ru_le ta (t := t) 48 57 (by decide) ht 161 u (by omega)
      unfold k_n2
      split
      · exact ⟨u, _, rfl, rfl, e2.1, e2.2⟩
      · exact ⟨u, _, rfl, rfl, e2.1, e2.2⟩
    · have e2 := p_ru_le ta (t := t) 97 122 (by decide) ht 161 u (by omega)
      exact ⟨u, _, rfl, rfl, e2.1, e2.2⟩
  · rw [if_neg c]
    exact ⟨u, u, rfl, rfl, Nat.le_refl u, hut.2⟩
def c_X1_isName : sCtr := ((yX1_isName, cX1_isName, 3, (some .boolean)), (2, 1, 5, 106), true,
  rd3fp,
  fun vs L => ∃ (xb : Nat) (e : eT) (ln : Int32) (ta : Nat → Int32) (t i : Nat), vs = [.ref 0, .ref (500 + i)] ∧ L = rd3 xb e ln ta ∧ ln = nI t ∧ t ≤ 160 ∧ kJ e t ∧ i < 10,
  fun vs L r _ => r = some (.int (k_nm (bF L 2) (rE L) (vR vs 1 - 500))))
theorem sta_X1_isName : s_Sta c_X1_isName := ⟨⟨by decide +kernel, by decide +kernel, by decide +kernel⟩, List.mem_of_getElem? (i := 369) (by decide +kernel), List.mem_of_getElem? (i := 66) (by decide +kernel), ⟨List.mem_of_getElem? (i := 368) (by decide +kernel), List.mem_of_getElem? (i := 4) (by decide +kernel), Or.inl ⟨_, rfl, rfl⟩⟩⟩

def k_X1_isName : List sBk := [
  (0, false, [true, true, false], [o0 0 (.aload_n 0), oN 1 (.getfield 51) [1, 4, 219], oK 4 (.iconst 1) (.int 1), oN 5 (.if_icmp .ne 19) [1], o0 8 (.aload_n 0), oN 9 (.getfield 29) [1, 6, 221], o0 12 (.aload_n 0), oN 13 (.getfield 77) [1, 5, 220], o0 16 .isub, o0 17 (.aload_n 1), oC 18 (.invokevirtual 87) [370] c_J0_length_8abf5, oN 21 (.if_icmp .eq 5) [2], oN 24 .nop [1]]),
  (24, false, [false, false, false], [oK 24 (.iconst 0) (.int 0), o0 25 .ireturn]),
  (26, false, [true, true, false], [oK 26 (.iconst 0) (.int 0), o0 27 (.istore_n 2), oN 28 .nop [3]]),
  (28, true, [true, true, true], [o0 28 (.iload_n 2), o0 29 (.aload_n 1), oC 30 (.invokevirtual 87) [370] c_J0_length_8abf5, oN 33 (.if_icmp .ge 33) [5], o0 36 (.aload_n 0), oN 37 (.getfield 18) [1, 3, 218], oN 40 (.getfield 80) [4, 0, 94], o0 43 (.aload_n 0), oN 44 (.getfield 77) [1, 5, 220], o0 47 (.iload_n 2), o0 48 .iadd, o0 49 .baload, o0 50 (.aload_n 1), o0 51 (.iload_n 2), oC 52 (.invokevirtual 92) [380] c_J0_charAt_5068e, oN 55 (.if_icmp .eq 5) [4], oK 58 (.iconst 0) (.int 0), o0 59 .ireturn]),
  (60, false, [true, true, true], [oK 60 (.iinc 2 1) (.int 1), oN 63 (.goto (-35)) [3]]),
  (66, false, [false, false, false], [oK 66 (.iconst 1) (.int 1), o0 67 .ireturn])]
set_option maxRecDepth 100000 in
theorem ck_X1_isName : s_ck RX1 cX1_isName 3 5 106 k_X1_isName = true := by decide +kernel

set_option maxRecDepth 100000 in
set_option maxHeartbeats 4000000 in
theorem isn_0 (xb : Nat) (e : eT) (ln : Int32) (ta : Nat → Int32) (t : Nat) (hln : ln = nI t) (ht2 : t ≤ 160) (hJ : kJ e t) (G : Nat → sK) (hG : s_Clo none k_X1_isName G (s_PP (some .boolean) true c_X1_isName.2.2.2.2.2 [.ref 0, .ref 500] (rd3 xb e ln ta)) true) : G 0 (s_ent 3 [.ref 0, .ref 500]) [] (rd3 xb e ln ta) := by
  obtain ⟨K, hK⟩ : ∃ K, K = k_nm ta e 0 := ⟨_, rfl⟩
  obtain ⟨u, b, hu, hb, hub, hbt⟩ := hJ
  have fin : ∀ v : Int32, (v = 0 ∨ v = 1) → v = K → (v = 0 ∨ v = 1) ∧ s_PP (some .boolean) true c_X1_isName.2.2.2.2.2 [.ref 0, .ref 500] (rd3 xb e ln ta) (some (.int v)) (rd3 xb e ln ta) := by
    intro v h01 hv
    refine ⟨h01, rfl, ?_, fun _ => rfl⟩
    show some (Value.int v) = some (Value.int (k_nm (bF (rd3 xb e ln ta) 2) (rE (rd3 xb e ln ta)) 0))
    rw [rB_3, rE_3, hv, hK]
  have hsub : e_be e - e_fi e = nI (b - u) := by rw [hu, hb]; exact p_sub_nI hub (by omega)
  refine hG 0 _ _ _ (And.intro (fun c => ?_) (fun c => ?_))
  rotate_left
  · have c : ¬ e_ki e = 1 := c
    exact fin 0 (Or.inl rfl) (by rw [hK, k_nm, if_neg (fun z => c z.1)])
  have c : e_ki e = 1 := c
  refine And.intro ⟨0, by decide, rfl, rfl⟩ ?_
  intro r hr
  obtain rfl : r = some (.int (nI 3)) := hr
  refine And.intro (fun c2 => ?_) (fun c2 => ?_)
  rotate_left
  · have c2 : ¬ e_be e - e_fi e = nI 3 := c2
    exact fin 0 (Or.inl rfl) (by rw [hK, k_nm, if_neg (fun z => c2 z.2)])
  have c2 : e_be e - e_fi e = nI 3 := c2
  have hbu : b = u + 3 := by
    have h1 := hsub.symm.trans c2
    have h2 := (nI_eq (by omega) (by decide)).mp h1
    omega
  have huc : (e_fi e).toNatClampNeg = u := by rw [hu, nI_clamp (by omega)]
  have hK2 : K = k_eqs ta (s_byt.getD 0 []) u 3 0 := by rw [hK, k_nm, if_pos ⟨c, c2⟩, huc]; rfl
  have loop : ∀ (k j : Nat) (x : Int32), j + k = 3 → x = nI j → K = k_eqs ta (s_byt.getD 0 []) u k j → G 3 [some (.ref 0), some (.ref 500), some (.int x)] [] (rd3 xb e ln ta) := by
    intro k
    induction k with
    | zero =>
      intro j x hj hx hk
      refine hG 3 _ _ _ (And.intro ⟨0, by decide, rfl, rfl⟩ ?_)
      intro r hr
      obtain rfl : r = some (.int (nI 3)) := hr
      refine And.intro (fun c3 => ?_) (fun c3 => ?_)
      · have c3 : x < nI 3 := c3
        rw [hx, nI_ltI (by omega) (by omega)] at c3; omega
      · exact fin 1 (Or.inr rfl) hk.symm
    | succ k ih =>
      intro j x hj hx hk
      rw [k_eqs] at hk
      refine hG 3 _ _ _ (And.intro ⟨0, by decide, rfl, rfl⟩ ?_)
      intro r hr
      obtain rfl : r = some (.int (nI 3)) := hr
      refine And.intro (fun c3 => ?_) (fun c3 => ?_)
      rotate_left
      · have c3 : ¬ x < nI 3 := c3
        rw [hx, nI_ltI (by omega) (by omega)] at c3; omega
      have hxj : e_fi e + x = nI (u + j) := by rw [hu, hx, nI_add]
      have hxc : (e_fi e + x).toNatClampNeg = u + j := by rw [hxj, nI_clamp (by omega)]
      refine And.intro (by show vp_in (e_fi e + x) 160; rw [hxj]; exact vp_in_nI (by omega) (by omega)) ?_
      refine And.intro ⟨0, j, x, by decide, rfl, rfl, hx, by show j < 3; omega⟩ ?_
      intro r hr
      obtain ⟨ch, hch⟩ : ∃ ch, ch = (s_byt.getD 0 []).getD x.toNatClampNeg 0 := ⟨_, rfl⟩
      obtain rfl : r = some (.int ch) := by rw [hch]; exact hr
      have hxn : x.toNatClampNeg = j := by rw [hx, nI_clamp (by omega)]
      rw [hxn] at hch
      rw [← hch] at hk
      refine And.intro (fun c4 => ?_) (fun c4 => ?_)
      · have c4 : ta (e_fi e + x).toNatClampNeg = ch := c4
        rw [hxc] at c4
        rw [if_pos c4] at hk
        exact ih (j + 1) _ (by omega) (by rw [hx, nI_1]) hk
      · have c4 : ¬ ta (e_fi e + x).toNatClampNeg = ch := c4
        rw [hxc] at c4
        rw [if_neg c4] at hk
        exact fin 0 (Or.inl rfl) hk.symm
  exact loop 3 0 0 (by omega) nI_0.symm hK2
set_option maxRecDepth 100000 in
set_option maxHeartbeats 4000000 in
theorem isn_1 (xb : Nat) (e : eT) (ln : Int32) (ta : Nat → Int32) (t : Nat) (hln : ln = nI t) (ht2 : t ≤ 160) (hJ : kJ e t) (G : Nat → sK) (hG : s_Clo none k_X1_isName G (s_PP (some .boolean) true c_X1_isName.2.2.2.2.2 [.ref 0, .ref 501] (rd3 xb e ln ta)) true) : G 0 (s_ent 3 [.ref 0, .ref 501]) [] (rd3 xb e ln ta) := by
  obtain ⟨K, hK⟩ : ∃ K, K = k_nm ta e 1 := ⟨_, rfl⟩
  obtain ⟨u, b, hu, hb, hub, hbt⟩ := hJ
  have fin : ∀ v : Int32, (v = 0 ∨ v = 1) → v = K → (v = 0 ∨ v = 1) ∧ s_PP (some .boolean) true c_X1_isName.2.2.2.2.2 [.ref 0, .ref 501] (rd3 xb e ln ta) (some (.int v)) (rd3 xb e ln ta) := by
    intro v h01 hv
    refine ⟨h01, rfl, ?_, fun _ => rfl⟩
    show some (Value.int v) = some (Value.int (k_nm (bF (rd3 xb e ln ta) 2) (rE (rd3 xb e ln ta)) 1))
    rw [rB_3, rE_3, hv, hK]
  have hsub : e_be e - e_fi e = nI (b - u) := by rw [hu, hb]; exact p_sub_nI hub (by omega)
  refine hG 0 _ _ _ (And.intro (fun c => ?_) (fun c => ?_))
  rotate_left
  · have c : ¬ e_ki e = 1 := c
    exact fin 0 (Or.inl rfl) (by rw [hK, k_nm, if_neg (fun z => c z.1)])
  have c : e_ki e = 1 := c
  refine And.intro ⟨1, by decide, rfl, rfl⟩ ?_
  intro r hr
  obtain rfl : r = some (.int (nI 4)) := hr
  refine And.intro (fun c2 => ?_) (fun c2 => ?_)
  rotate_left
  · have c2 : ¬ e_be e - e_fi e = nI 4 := c2
    exact fin 0 (Or.inl rfl) (by rw [hK, k_nm, if_neg (fun z => c2 z.2)])
  have c2 : e_be e - e_fi e = nI 4 := c2
  have hbu : b = u + 4 := by
    have h1 := hsub.symm.trans c2
    have h2 := (nI_eq (by omega) (by decide)).mp h1
    omega
  have huc : (e_fi e).toNatClampNeg = u := by rw [hu, nI_clamp (by omega)]
  have hK2 : K = k_eqs ta (s_byt.getD 1 []) u 4 0 := by rw [hK, k_nm, if_pos ⟨c, c2⟩, huc]; rfl
  have loop : ∀ (k j : Nat) (x : Int32), j + k = 4 → x = nI j → K = k_eqs ta (s_byt.getD 1 []) u k j → G 3 [some (.ref 0), some (.ref 501), some (.int x)] [] (rd3 xb e ln ta) := by
    intro k
    induction k with
    | zero =>
      intro j x hj hx hk
      refine hG 3 _ _ _ (And.intro ⟨1, by decide, rfl, rfl⟩ ?_)
      intro r hr
      obtain rfl : r = some (.int (nI 4)) := hr
      refine And.intro (fun c3 => ?_) (fun c3 => ?_)
      · have c3 : x < nI 4 := c3
        rw [hx, nI_ltI (by omega) (by omega)] at c3; omega
      · exact fin 1 (Or.inr rfl) hk.symm
    | succ k ih =>
      intro j x hj hx hk
      rw [k_eqs] at hk
      refine hG 3 _ _ _ (And.intro ⟨1, by decide, rfl, rfl⟩ ?_)
      intro r hr
      obtain rfl : r = some (.int (nI 4)) := hr
      refine And.intro (fun c3 => ?_) (fun c3 => ?_)
      rotate_left
      · have c3 : ¬ x < nI 4 := c3
        rw [hx, nI_ltI (by omega) (by omega)] at c3; omega
      have hxj : e_fi e + x = nI (u + j) := by rw [hu, hx, nI_add]
      have hxc : (e_fi e + x).toNatClampNeg = u + j := by rw [hxj, nI_clamp (by omega)]
      refine And.intro (by show vp_in (e_fi e + x) 160; rw [hxj]; exact vp_in_nI (by omega) (by omega)) ?_
      refine And.intro ⟨1, j, x, by decide, rfl, rfl, hx, by show j < 4; omega⟩ ?_
      intro r hr
      obtain ⟨ch, hch⟩ : ∃ ch, ch = (s_byt.getD 1 []).getD x.toNatClampNeg 0 := ⟨_, rfl⟩
      obtain rfl : r = some (.int ch) := by rw [hch]; exact hr
      have hxn : x.toNatClampNeg = j := by rw [hx, nI_clamp (by omega)]
      rw [hxn] at hch
      rw [← hch] at hk
      refine And.intro (fun c4 => ?_) (fun c4 => ?_)
      · have c4 : ta (e_fi e + x).toNatClampNeg = ch := c4
        rw [hxc] at c4
        rw [if_pos c4] at hk
        exact ih (j + 1) _ (by omega) (by rw [hx, nI_1]) hk
      · have c4 : ¬ ta (e_fi e + x).toNatClampNeg = ch := c4
        rw [hxc] at c4
        rw [if_neg c4] at hk
        exact fin 0 (Or.inl rfl) hk.symm
  exact loop 4 0 0 (by omega) nI_0.symm hK2
set_option maxRecDepth 100000 in
set_option maxHeartbeats 4000000 in
theorem isn_2 (xb : Nat) (e : eT) (ln : Int32) (ta : Nat → Int32) (t : Nat) (hln : ln = nI t) (ht2 : t ≤ 160) (hJ : kJ e t) (G : Nat → sK) (hG : s_Clo none k_X1_isName G (s_PP (some .boolean) true c_X1_isName.2.2.2.2.2 [.ref 0, .ref 502] (rd3 xb e ln ta)) true) : G 0 (s_ent 3 [.ref 0, .ref 502]) [] (rd3 xb e ln ta) := by
  obtain ⟨K, hK⟩ : ∃ K, K = k_nm ta e 2 := ⟨_, rfl⟩
  obtain ⟨u, b, hu, hb, hub, hbt⟩ := hJ
  have fin : ∀ v : Int32, (v = 0 ∨ v = 1) → v = K → (v = 0 ∨ v = 1) ∧ s_PP (some .boolean) true c_X1_isName.2.2.2.2.2 [.ref 0, .ref 502] (rd3 xb e ln ta) (some (.int v)) (rd3 xb e ln ta) := by
    intro v h01 hv
    refine ⟨h01, rfl, ?_, fun _ => rfl⟩
    show some (Value.int v) = some (Value.int (k_nm (bF (rd3 xb e ln ta) 2) (rE (rd3 xb e ln ta)) 2))
    rw [rB_3, rE_3, hv, hK]
  have hsub : e_be e - e_fi e = nI (b - u) := by rw [hu, hb]; exact p_sub_nI hub (by omega)
  refine hG 0 _ _ _ (And.intro (fun c => ?_) (fun c => ?_))
  rotate_left
  · have c : ¬ e_ki e = 1 := c
    exact fin 0 (Or.inl rfl) (by rw [hK, k_nm, if_neg (fun z => c z.1)])
  have c : e_ki e = 1 := c
  refine And.intro ⟨2, by decide, rfl, rfl⟩ ?_
  intro r hr
  obtain rfl : r = some (.int (nI 5)) := hr
  refine And.intro (fun c2 => ?_) (fun c2 => ?_)
  rotate_left
  · have c2 : ¬ e_be e - e_fi e = nI 5 := c2
    exact fin 0 (Or.inl rfl) (by rw [hK, k_nm, if_neg (fun z => c2 z.2)])
  have c2 : e_be e - e_fi e = nI 5 := c2
  have hbu : b = u + 5 := by
    have h1 := hsub.symm.trans c2
    have h2 := (nI_eq (by omega) (by decide)).mp h1
    omega
  have huc : (e_fi e).toNatClampNeg = u := by rw [hu, nI_clamp (by omega)]
  have hK2 : K = k_eqs ta (s_byt.getD 2 []) u 5 0 := by rw [hK, k_nm, if_pos ⟨c, c2⟩, huc]; rfl
  have loop : ∀ (k j : Nat) (x : Int32), j + k = 5 → x = nI j → K = k_eqs ta (s_byt.getD 2 []) u k j → G 3 [some (.ref 0), some (.ref 502), some (.int x)] [] (rd3 xb e ln ta) := by
    intro k
    induction k with
    | zero =>
      intro j x hj hx hk
      refine hG 3 _ _ _ (And.intro ⟨2, by decide, rfl, rfl⟩ ?_)
      intro r hr
      obtain rfl : r = some (.int (nI 5)) := hr
      refine And.intro (fun c3 => ?_) (fun c3 => ?_)
      · have c3 : x < nI 5 := c3
        rw [hx, nI_ltI (by omega) (by omega)] at c3; omega
      · exact fin 1 (Or.inr rfl) hk.symm
    | succ k ih =>
      intro j x hj hx hk
      rw [k_eqs] at hk
      refine hG 3 _ _ _ (And.intro ⟨2, by decide, rfl, rfl⟩ ?_)
      intro r hr
      obtain rfl : r = some (.int (nI 5)) := hr
      refine And.intro (fun c3 => ?_) (fun c3 => ?_)
      rotate_left
      · have c3 : ¬ x < nI 5 := c3
        rw [hx, nI_ltI (by omega) (by omega)] at c3; omega
      have hxj : e_fi e + x = nI (u + j) := by rw [hu, hx, nI_add]
      have hxc : (e_fi e + x).toNatClampNeg = u + j := by rw [hxj, nI_clamp (by omega)]
      refine And.intro (by show vp_in (e_fi e + x) 160; rw [hxj]; exact vp_in_nI (by omega) (by omega)) ?_
      refine And.intro ⟨2, j, x, by decide, rfl, rfl, hx, by show j < 5; omega⟩ ?_
      intro r hr
      obtain ⟨ch, hch⟩ : ∃ ch, ch = (s_byt.getD 2 []).getD x.toNatClampNeg 0 := ⟨_, rfl⟩
      obtain rfl : r = some (.int ch) := by rw [hch]; exact hr
      have hxn : x.toNatClampNeg = j := by rw [hx, nI_clamp (by omega)]
      rw [hxn] at hch
      rw [← hch] at hk
      refine And.intro (fun c4 => ?_) (fun c4 => ?_)
      · have c4 : ta (e_fi e + x).toNatClampNeg = ch := c4
        rw [hxc] at c4
        rw [if_pos c4] at hk
        exact ih (j + 1) _ (by omega) (by rw [hx, nI_1]) hk
      · have c4 : ¬ ta (e_fi e + x).toNatClampNeg = ch := c4
        rw [hxc] at c4
        rw [if_neg c4] at hk
        exact fin 0 (Or.inl rfl) hk.symm
  exact loop 5 0 0 (by omega) nI_0.symm hK2
set_option maxRecDepth 100000 in
set_option maxHeartbeats 4000000 in
theorem isn_3 (xb : Nat) (e : eT) (ln : Int32) (ta : Nat → Int32) (t : Nat) (hln : ln = nI t) (ht2 : t ≤ 160) (hJ : kJ e t) (G : Nat → sK) (hG : s_Clo none k_X1_isName G (s_PP (some .boolean) true c_X1_isName.2.2.2.2.2 [.ref 0, .ref 503] (rd3 xb e ln ta)) true) : G 0 (s_ent 3 [.ref 0, .ref 503]) [] (rd3 xb e ln ta) := by
  obtain ⟨K, hK⟩ : ∃ K, K = k_nm ta e 3 := ⟨_, rfl⟩
  obtain ⟨u, b, hu, hb, hub, hbt⟩ := hJ
  have fin : ∀ v : Int32, (v = 0 ∨ v = 1) → v = K → (v = 0 ∨ v = 1) ∧ s_PP (some .boolean) true c_X1_isName.2.2.2.2.2 [.ref 0, .ref 503] (rd3 xb e ln ta) (some (.int v)) (rd3 xb e ln ta) := by
    intro v h01 hv
    refine ⟨h01, rfl, ?_, fun _ => rfl⟩
    show some (Value.int v) = some (Value.int (k_nm (bF (rd3 xb e ln ta) 2) (rE (rd3 xb e ln ta)) 3))
    rw [rB_3, rE_3, hv, hK]
  have hsub : e_be e - e_fi e = nI (b - u) := by rw [hu, hb]; exact p_sub_nI hub (by omega)
  refine hG 0 _ _ _ (And.intro (fun c => ?_) (fun c => ?_))
  rotate_left
  · have c : ¬ e_ki e = 1 := c
    exact fin 0 (Or.inl rfl) (by rw [hK, k_nm, if_neg (fun z => c z.1)])
  have c : e_ki e = 1 := c
  refine And.intro ⟨3, by decide, rfl, rfl⟩ ?_
  intro r hr
  obtain rfl : r = some (.int (nI 5)) := hr
  refine And.intro (fun c2 => ?_) (fun c2 => ?_)
  rotate_left
  · have c2 : ¬ e_be e - e_fi e = nI 5 := c2
    exact fin 0 (Or.inl rfl) (by rw [hK, k_nm, if_neg (fun z => c2 z.2)])
  have c2 : e_be e - e_fi e = nI 5 := c2
  have hbu : b = u + 5 := by
    have h1 := hsub.symm.trans c2
    have h2 := (nI_eq (by omega) (by decide)).mp h1
    omega
  have huc : (e_fi e).toNatClampNeg = u := by rw [hu, nI_clamp (by omega)]
  have hK2 : K = k_eqs ta (s_byt.getD 3 []) u 5 0 := by rw [hK, k_nm, if_pos ⟨c, c2⟩, huc]; rfl
  have loop : ∀ (k j : Nat) (x : Int32), j + k = 5 → x = nI j → K = k_eqs ta (s_byt.getD 3 []) u k j → G 3 [some (.ref 0), some (.ref 503), some (.int x)] [] (rd3 xb e ln ta) := by
    intro k
    induction k with
    | zero =>
      intro j x hj hx hk
      refine hG 3 _ _ _ (And.intro ⟨3, by decide, rfl, rfl⟩ ?_)
      intro r hr
      obtain rfl : r = some (.int (nI 5)) := hr
      refine And.intro (fun c3 => ?_) (fun c3 => ?_)
      · have c3 : x < nI 5 := c3
        rw [hx, nI_ltI (by omega) (by omega)] at c3; omega
      · exact fin 1 (Or.inr rfl) hk.symm
    | succ k ih =>
      intro j x hj hx hk
      rw [k_eqs] at hk
      refine hG 3 _ _ _ (And.intro ⟨3, by decide, rfl, rfl⟩ ?_)
      intro r hr
      obtain rfl : r = some (.int (nI 5)) := hr
      refine And.intro (fun c3 => ?_) (fun c3 => ?_)
      rotate_left
      · have c3 : ¬ x < nI 5 := c3
        rw [hx, nI_ltI (by omega) (by omega)] at c3; omega
      have hxj : e_fi e + x = nI (u + j) := by rw [hu, hx, nI_add]
      have hxc : (e_fi e + x).toNatClampNeg = u + j := by rw [hxj, nI_clamp (by omega)]
      refine And.intro (by show vp_in (e_fi e + x) 160; rw [hxj]; exact vp_in_nI (by omega) (by omega)) ?_
      refine And.intro ⟨3, j, x, by decide, rfl, rfl, hx, by show j < 5; omega⟩ ?_
      intro r hr
      obtain ⟨ch, hch⟩ : ∃ ch, ch = (s_byt.getD 3 []).getD x.toNatClampNeg 0 := ⟨_, rfl⟩
      obtain rfl : r = some (.int ch) := by rw [hch]; exact hr
      have hxn : x.toNatClampNeg = j := by rw [hx, nI_clamp (by omega)]
      rw [hxn] at hch
      rw [← hch] at hk
      refine And.intro (fun c4 => ?_) (fun c4 => ?_)
      · have c4 : ta (e_fi e + x).toNatClampNeg = ch := c4
        rw [hxc] at c4
        rw [if_pos c4] at hk
        exact ih (j + 1) _ (by omega) (by rw [hx, nI_1]) hk
      · have c4 : ¬ ta (e_fi e + x).toNatClampNeg = ch := c4
        rw [hxc] at c4
        rw [if_neg c4] at hk
        exact fin 0 (Or.inl rfl) hk.symm
  exact loop 5 0 0 (by omega) nI_0.symm hK2
set_option maxRecDepth 100000 in
set_option maxHeartbeats 4000000 in
theorem isn_4 (xb : Nat) (e : eT) (ln : Int32) (ta : Nat → Int32) (t : Nat) (hln : ln = nI t) (ht2 : t ≤ 160) (hJ : kJ e t) (G : Nat → sK) (hG : s_Clo none k_X1_isName G (s_PP (some .boolean) true c_X1_isName.2.2.2.2.2 [.ref 0, .ref 504] (rd3 xb e ln ta)) true) : G 0 (s_ent 3 [.ref 0, .ref 504]) [] (rd3 xb e ln ta) := by
  obtain ⟨K, hK⟩ : ∃ K, K = k_nm ta e 4 := ⟨_, rfl⟩
  obtain ⟨u, b, hu, hb, hub, hbt⟩ := hJ
  have fin : ∀ v : Int32, (v = 0 ∨ v = 1) → v = K → (v = 0 ∨ v = 1) ∧ s_PP (some .boolean) true c_X1_isName.2.2.2.2.2 [.ref 0, .ref 504] (rd3 xb e ln ta) (some (.int v)) (rd3 xb e ln ta) := by
    intro v h01 hv
    refine ⟨h01, rfl, ?_, fun _ => rfl⟩
    show some (Value.int v) = some (Value.int (k_nm (bF (rd3 xb e ln ta) 2) (rE (rd3 xb e ln ta)) 4))
    rw [rB_3, rE_3, hv, hK]
  have hsub : e_be e - e_fi e = nI (b - u) := by rw [hu, hb]; exact p_sub_nI hub (by omega)
  refine hG 0 _ _ _ (And.intro (fun c => ?_) (fun c => ?_))
  rotate_left
  · have c : ¬ e_ki e = 1 := c
    exact fin 0 (Or.inl rfl) (by rw [hK, k_nm, if_neg (fun z => c z.1)])
  have c : e_ki e = 1 := c
  refine And.intro ⟨4, by decide, rfl, rfl⟩ ?_
  intro r hr
  obtain rfl : r = some (.int (nI 4)) := hr
  refine And.intro (fun c2 => ?_) (fun c2 => ?_)
  rotate_left
  · have c2 : ¬ e_be e - e_fi e = nI 4 := c2
    exact fin 0 (Or.inl rfl) (by rw [hK, k_nm, if_neg (fun z => c2 z.2)])
  have c2 : e_be e - e_fi e = nI 4 := c2
  have hbu : b = u + 4 := by
    have h1 := hsub.symm.trans c2
    have h2 := (nI_eq (by omega) (by decide)).mp h1
    omega
  have huc : (e_fi e).toNatClampNeg = u := by rw [hu, nI_clamp (by omega)]
  have hK2 : K = k_eqs ta (s_byt.getD 4 []) u 4 0 := by rw [hK, k_nm, if_pos ⟨c, c2⟩, huc]; rfl
  have loop : ∀ (k j : Nat) (x : Int32), j + k = 4 → x = nI j → K = k_eqs ta (s_byt.getD 4 []) u k j → G 3 [some (.ref 0), some (.ref 504), some (.int x)] [] (rd3 xb e ln ta) := by
    intro k
    induction k with
    | zero =>
      intro j x hj hx hk
      refine hG 3 _ _ _ (And.intro ⟨4, by decide, rfl, rfl⟩ ?_)
      intro r hr
      obtain rfl : r = some (.int (nI 4)) := hr
      refine And.intro (fun c3 => ?_) (fun c3 => ?_)
      · have c3 : x < nI 4 := c3
        rw [hx, nI_ltI (by omega) (by omega)] at c3; omega
      · exact fin 1 (Or.inr rfl) hk.symm
    | succ k ih =>
      intro j x hj hx hk
      rw [k_eqs] at hk
      refine hG 3 _ _ _ (And.intro ⟨4, by decide, rfl, rfl⟩ ?_)
      intro r hr
      obtain rfl : r = some (.int (nI 4)) := hr
      refine And.intro (fun c3 => ?_) (fun c3 => ?_)
      rotate_left
      · have c3 : ¬ x < nI 4 := c3
        rw [hx, nI_ltI (by omega) (by omega)] at c3; omega
      have hxj : e_fi e + x = nI (u + j) := by rw [hu, hx, nI_add]
      have hxc : (e_fi e + x).toNatClampNeg = u + j := by rw [hxj, nI_clamp (by omega)]
      refine And.intro (by show vp_in (e_fi e + x) 160; rw [hxj]; exact vp_in_nI (by omega) (by omega)) ?_
      refine And.intro ⟨4, j, x, by decide, rfl, rfl, hx, by show j < 4; omega⟩ ?_
      intro r hr
      obtain ⟨ch, hch⟩ : ∃ ch, ch = (s_byt.getD 4 []).getD x.toNatClampNeg 0 := ⟨_, rfl⟩
      obtain rfl : r = some (.int ch) := by rw [hch]; exact hr
      have hxn : x.toNatClampNeg = j := by rw [hx, nI_clamp (by omega)]
      rw [hxn] at hch
      rw [← hch] at hk
      refine And.intro (fun c4 => ?_) (fun c4 => ?_)
      · have c4 : ta (e_fi e + x).toNatClampNeg = ch := c4
        rw [hxc] at c4
        rw [if_pos c4] at hk
        exact ih (j + 1) _ (by omega) (by rw [hx, nI_1]) hk
      · have c4 : ¬ ta (e_fi e + x).toNatClampNeg = ch := c4
        rw [hxc] at c4
        rw [if_neg c4] at hk
        exact fin 0 (Or.inl rfl) hk.symm
  exact loop 4 0 0 (by omega) nI_0.symm hK2
set_option maxRecDepth 100000 in
set_option maxHeartbeats 4000000 in
theorem isn_5 (xb : Nat) (e : eT) (ln : Int32) (ta : Nat → Int32) (t : Nat) (hln : ln = nI t) (ht2 : t ≤ 160) (hJ : kJ e t) (G : Nat → sK) (hG : s_Clo none k_X1_isName G (s_PP (some .boolean) true c_X1_isName.2.2.2.2.2 [.ref 0, .ref 505] (rd3 xb e ln ta)) true) : G 0 (s_ent 3 [.ref 0, .ref 505]) [] (rd3 xb e ln ta) := by
  obtain ⟨K, hK⟩ : ∃ K, K = k_nm ta e 5 := ⟨_, rfl⟩
  obtain ⟨u, b, hu, hb, hub, hbt⟩ := hJ
  have fin : ∀ v : Int32, (v = 0 ∨ v = 1) → v = K → (v = 0 ∨ v = 1) ∧ s_PP (some .boolean) true c_X1_isName.2.2.2.2.2 [.ref 0, .ref 505] (rd3 xb e ln ta) (some (.int v)) (rd3 xb e ln ta) := by
    intro v h01 hv
    refine ⟨h01, rfl, ?_, fun _ => rfl⟩
    show some (Value.int v) = some (Value.int (k_nm (bF (rd3 xb e ln ta) 2) (rE (rd3 xb e ln ta)) 5))
    rw [rB_3, rE_3, hv, hK]
  have hsub : e_be e - e_fi e = nI (b - u) := by rw [hu, hb]; exact p_sub_nI hub (by omega)
  refine hG 0 _ _ _ (And.intro (fun c => ?_) (fun c => ?_))
  rotate_left
  · have c : ¬ e_ki e = 1 := c
    exact fin 0 (Or.inl rfl) (by rw [hK, k_nm, if_neg (fun z => c z.1)])
  have c : e_ki e = 1 := c
  refine And.intro ⟨5, by decide, rfl, rfl⟩ ?_
  intro r hr
  obtain rfl : r = some (.int (nI 5)) := hr
  refine And.intro (fun c2 => ?_) (fun c2 => ?_)
  rotate_left
  · have c2 : ¬ e_be e - e_fi e = nI 5 := c2
    exact fin 0 (Or.inl rfl) (by rw [hK, k_nm, if_neg (fun z => c2 z.2)])
  have c2 : e_be e - e_fi e = nI 5 := c2
  have hbu : b = u + 5 := by
    have h1 := hsub.symm.trans c2
    have h2 := (nI_eq (by omega) (by decide)).mp h1
    omega
  have huc : (e_fi e).toNatClampNeg = u := by rw [hu, nI_clamp (by omega)]
  have hK2 : K = k_eqs ta (s_byt.getD 5 []) u 5 0 := by rw [hK, k_nm, if_pos ⟨c, c2⟩, huc]; rfl
  have loop : ∀ (k j : Nat) (x : Int32), j + k = 5 → x = nI j → K = k_eqs ta (s_byt.getD 5 []) u k j → G 3 [some (.ref 0), some (.ref 505), some (.int x)] [] (rd3 xb e ln ta) := by
    intro k
    induction k with
    | zero =>
      intro j x hj hx hk
      refine hG 3 _ _ _ (And.intro ⟨5, by decide, rfl, rfl⟩ ?_)
      intro r hr
      obtain rfl : r = some (.int (nI 5)) := hr
      refine And.intro (fun c3 => ?_) (fun c3 => ?_)
      · have c3 : x < nI 5 := c3
        rw [hx, nI_ltI (by omega) (by omega)] at c3; omega
      · exact fin 1 (Or.inr rfl) hk.symm
    | succ k ih =>
      intro j x hj hx hk
      rw [k_eqs] at hk
      refine hG 3 _ _ _ (And.intro ⟨5, by decide, rfl, rfl⟩ ?_)
      intro r hr
      obtain rfl : r = some (.int (nI 5)) := hr
      refine And.intro (fun c3 => ?_) (fun c3 => ?_)
      rotate_left
      · have c3 : ¬ x < nI 5 := c3
        rw [hx, nI_ltI (by omega) (by omega)] at c3; omega
      have hxj : e_fi e + x = nI (u + j) := by rw [hu, hx, nI_add]
      have hxc : (e_fi e + x).toNatClampNeg = u + j := by rw [hxj, nI_clamp (by omega)]
      refine And.intro (by show vp_in (e_fi e + x) 160; rw [hxj]; exact vp_in_nI (by omega) (by omega)) ?_
      refine And.intro ⟨5, j, x, by decide, rfl, rfl, hx, by show j < 5; omega⟩ ?_
      intro r hr
      obtain ⟨ch, hch⟩ : ∃ ch, ch = (s_byt.getD 5 []).getD x.toNatClampNeg 0 := ⟨_, rfl⟩
      obtain rfl : r = some (.int ch) := by rw [hch]; exact hr
      have hxn : x.toNatClampNeg = j := by rw [hx, nI_clamp (by omega)]
      rw [hxn] at hch
      rw [← hch] at hk
      refine And.intro (fun c4 => ?_) (fun c4 => ?_)
      · have c4 : ta (e_fi e + x).toNatClampNeg = ch := c4
        rw [hxc] at c4
        rw [if_pos c4] at hk
        exact ih (j + 1) _ (by omega) (by rw [hx, nI_1]) hk
      · have c4 : ¬ ta (e_fi e + x).toNatClampNeg = ch := c4
        rw [hxc] at c4
        rw [if_neg c4] at hk
        exact fin 0 (Or.inl rfl) hk.symm
  exact loop 5 0 0 (by omega) nI_0.symm hK2
set_option maxRecDepth 100000 in
set_option maxHeartbeats 4000000 in
theorem isn_6 (xb : Nat) (e : eT) (ln : Int32) (ta : Nat → Int32) (t : Nat) (hln : ln = nI t) (ht2 : t ≤ 160) (hJ : kJ e t) (G : Nat → sK) (hG : s_Clo none k_X1_isName G (s_PP (some .boolean) true c_X1_isName.2.2.2.2.2 [.ref 0, .ref 506] (rd3 xb e ln ta)) true) : G 0 (s_ent 3 [.ref 0, .ref 506]) [] (rd3 xb e ln ta) := by
  obtain ⟨K, hK⟩ : ∃ K, K = k_nm ta e 6 := ⟨_, rfl⟩
  obtain ⟨u, b, hu, hb, hub, hbt⟩ := hJ
  have fin : ∀ v : Int32, (v = 0 ∨ v = 1) → v = K → (v = 0 ∨ v = 1) ∧ s_PP (some .boolean) true c_X1_isName.2.2.2.2.2 [.ref 0, .ref 506] (rd3 xb e ln ta) (some (.int v)) (rd3 xb e ln ta) := by
    intro v h01 hv
    refine ⟨h01, rfl, ?_, fun _ => rfl⟩
    show some (Value.int v) = some (Value.int (k_nm (bF (rd3 xb e ln ta) 2) (rE (rd3 xb e ln ta)) 6))
    rw [rB_3, rE_3, hv, hK]
  have hsub : e_be e - e_fi e = nI (b - u) := by rw [hu, hb]; exact p_sub_nI hub (by omega)
  refine hG 0 _ _ _ (And.intro (fun c => ?_) (fun c => ?_))
  rotate_left
  · have c : ¬ e_ki e = 1 := c
    exact fin 0 (Or.inl rfl) (by rw [hK, k_nm, if_neg (fun z => c z.1)])
  have c : e_ki e = 1 := c
  refine And.intro ⟨6, by decide, rfl, rfl⟩ ?_
  intro r hr
  obtain rfl : r = some (.int (nI 4)) := hr
  refine And.intro (fun c2 => ?_) (fun c2 => ?_)
  rotate_left
  · have c2 : ¬ e_be e - e_fi e = nI 4 := c2
    exact fin 0 (Or.inl rfl) (by rw [hK, k_nm, if_neg (fun z => c2 z.2)])
  have c2 : e_be e - e_fi e = nI 4 := c2
  have hbu : b = u + 4 := by
    have h1 := hsub.symm.trans c2
    have h2 := (nI_eq (by omega) (by decide)).mp h1
    omega
  have huc : (e_fi e).toNatClampNeg = u := by rw [hu, nI_clamp (by omega)]
  have hK2 : K = k_eqs ta (s_byt.getD 6 []) u 4 0 := by rw [hK, k_nm, if_pos ⟨c, c2⟩, huc]; rfl
  have loop : ∀ (k j : Nat) (x : Int32), j + k = 4 → x = nI j → K = k_eqs ta (s_byt.getD 6 []) u k j → G 3 [some (.ref 0), some (.ref 506), some (.int x)] [] (rd3 xb e ln ta) := by
    intro k
    induction k with
    | zero =>
      intro j x hj hx hk
      refine hG 3 _ _ _ (And.intro ⟨6, by decide, rfl, rfl⟩ ?_)
      intro r hr
      obtain rfl : r = some (.int (nI 4)) := hr
      refine And.intro (fun c3 => ?_) (fun c3 => ?_)
      · have c3 : x < nI 4 := c3
        rw [hx, nI_ltI (by omega) (by omega)] at c3; omega
      · exact fin 1 (Or.inr rfl) hk.symm
    | succ k ih =>
      intro j x hj hx hk
      rw [k_eqs] at hk
      refine hG 3 _ _ _ (And.intro ⟨6, by decide, rfl, rfl⟩ ?_)
      intro r hr
      obtain rfl : r = some (.int (nI 4)) := hr
      refine And.intro (fun c3 => ?_) (fun c3 => ?_)
      rotate_left
      · have c3 : ¬ x < nI 4 := c3
        rw [hx, nI_ltI (by omega) (by omega)] at c3; omega
      have hxj : e_fi e + x = nI (u + j) := by rw [hu, hx, nI_add]
      have hxc : (e_fi e + x).toNatClampNeg = u + j := by rw [hxj, nI_clamp (by omega)]
      refine And.intro (by show vp_in (e_fi e + x) 160; rw [hxj]; exact vp_in_nI (by omega) (by omega)) ?_
      refine And.intro ⟨6, j, x, by decide, rfl, rfl, hx, by show j < 4; omega⟩ ?_
      intro r hr
      obtain ⟨ch, hch⟩ : ∃ ch, ch = (s_byt.getD 6 []).getD x.toNatClampNeg 0 := ⟨_, rfl⟩
      obtain rfl : r = some (.int ch) := by rw [hch]; exact hr
      have hxn : x.toNatClampNeg = j := by rw [hx, nI_clamp (by omega)]
      rw [hxn] at hch
      rw [← hch] at hk
      refine And.intro (fun c4 => ?_) (fun c4 => ?_)
      · have c4 : ta (e_fi e + x).toNatClampNeg = ch := c4
        rw [hxc] at c4
        rw [if_pos c4] at hk
        exact ih (j + 1) _ (by omega) (by rw [hx, nI_1]) hk
      · have c4 : ¬ ta (e_fi e + x).toNatClampNeg = ch := c4
        rw [hxc] at c4
        rw [if_neg c4] at hk
        exact fin 0 (Or.inl rfl) hk.symm
  exact loop 4 0 0 (by omega) nI_0.symm hK2
set_option maxRecDepth 100000 in
set_option maxHeartbeats 4000000 in
theorem isn_7 (xb : Nat) (e : eT) (ln : Int32) (ta : Nat → Int32) (t : Nat) (hln : ln = nI t) (ht2 : t ≤ 160) (hJ : kJ e t) (G : Nat → sK) (hG : s_Clo none k_X1_isName G (s_PP (some .boolean) true c_X1_isName.2.2.2.2.2 [.ref 0, .ref 507] (rd3 xb e ln ta)) true) : G 0 (s_ent 3 [.ref 0, .ref 507]) [] (rd3 xb e ln ta) := by
  obtain ⟨K, hK⟩ : ∃ K, K = k_nm ta e 7 := ⟨_, rfl⟩
  obtain ⟨u, b, hu, hb, hub, hbt⟩ := hJ
  have fin : ∀ v : Int32, (v = 0 ∨ v = 1) → v = K → (v = 0 ∨ v = 1) ∧ s_PP (some .boolean) true c_X1_isName.2.2.2.2.2 [.ref 0, .ref 507] (rd3 xb e ln ta) (some (.int v)) (rd3 xb e ln ta) := by
    intro v h01 hv
    refine ⟨h01, rfl, ?_, fun _ => rfl⟩
    show some (Value.int v) = some (Value.int (k_nm (bF (rd3 xb e ln ta) 2) (rE (rd3 xb e ln ta)) 7))
    rw [rB_3, rE_3, hv, hK]
  have hsub : e_be e - e_fi e = nI (b - u) := by rw [hu, hb]; exact p_sub_nI hub (by omega)
  refine hG 0 _ _ _ (And.intro (fun c => ?_) (fun c => ?_))
  rotate_left
  · have c : ¬ e_ki e = 1 := c
    exact fin 0 (Or.inl rfl) (by rw [hK, k_nm, if_neg (fun z => c z.1)])
  have c : e_ki e = 1 := c
  refine And.intro ⟨7, by decide, rfl, rfl⟩ ?_
  intro r hr
  obtain rfl : r = some (.int (nI 5)) := hr
  refine And.intro (fun c2 => ?_) (fun c2 => ?_)
  rotate_left
  · have c2 : ¬ e_be e - e_fi e = nI 5 := c2
    exact fin 0 (Or.inl rfl) (by rw [hK, k_nm, if_neg (fun z => c2 z.2)])
  have c2 : e_be e - e_fi e = nI 5 := c2
  have hbu : b = u + 5 := by
    have h1 := hsub.symm.trans c2
    have h2 := (nI_eq (by omega) (by decide)).mp h1
    omega
  have huc : (e_fi e).toNatClampNeg = u := by rw [hu, nI_clamp (by omega)]
  have hK2 : K = k_eqs ta (s_byt.getD 7 []) u 5 0 := by rw [hK, k_nm, if_pos ⟨c, c2⟩, huc]; rfl
  have loop : ∀ (k j : Nat) (x : Int32), j + k = 5 → x = nI j → K = k_eqs ta (s_byt.getD 7 []) u k j → G 3 [some (.ref 0), some (.ref 507), some (.int x)] [] (rd3 xb e ln ta) := by
    intro k
    induction k with
    | zero =>
      intro j x hj hx hk
      refine hG 3 _ _ _ (And.intro ⟨7, by decide, rfl, rfl⟩ ?_)
      intro r hr
      obtain rfl : r = some (.int (nI 5)) := hr
      refine And.intro (fun c3 => ?_) (fun c3 => ?_)
      · have c3 : x < nI 5 := c3
        rw [hx, nI_ltI (by omega) (by omega)] at c3; omega
      · exact fin 1 (Or.inr rfl) hk.symm
    | succ k ih =>
      intro j x hj hx hk
      rw [k_eqs] at hk
      refine hG 3 _ _ _ (And.intro ⟨7, by decide, rfl, rfl⟩ ?_)
      intro r hr
      obtain rfl : r = some (.int (nI 5)) := hr
      refine And.intro (fun c3 => ?_) (fun c3 => ?_)
      rotate_left
      · have c3 : ¬ x < nI 5 := c3
        rw [hx, nI_ltI (by omega) (by omega)] at c3; omega
      have hxj : e_fi e + x = nI (u + j) := by rw [hu, hx, nI_add]
      have hxc : (e_fi e + x).toNatClampNeg = u + j := by rw [hxj, nI_clamp (by omega)]
      refine And.intro (by show vp_in (e_fi e + x) 160; rw [hxj]; exact vp_in_nI (by omega) (by omega)) ?_
      refine And.intro ⟨7, j, x, by decide, rfl, rfl, hx, by show j < 5; omega⟩ ?_
      intro r hr
      obtain ⟨ch, hch⟩ : ∃ ch, ch = (s_byt.getD 7 []).getD x.toNatClampNeg 0 := ⟨_, rfl⟩
      obtain rfl : r = some (.int ch) := by rw [hch]; exact hr
      have hxn : x.toNatClampNeg = j := by rw [hx, nI_clamp (by omega)]
      rw [hxn] at hch
      rw [← hch] at hk
      refine And.intro (fun c4 => ?_) (fun c4 => ?_)
      · have c4 : ta (e_fi e + x).toNatClampNeg = ch := c4
        rw [hxc] at c4
        rw [if_pos c4] at hk
        exact ih (j + 1) _ (by omega) (by rw [hx, nI_1]) hk
      · have c4 : ¬ ta (e_fi e + x).toNatClampNeg = ch := c4
        rw [hxc] at c4
        rw [if_neg c4] at hk
        exact fin 0 (Or.inl rfl) hk.symm
  exact loop 5 0 0 (by omega) nI_0.symm hK2
set_option maxRecDepth 100000 in
set_option maxHeartbeats 4000000 in
theorem isn_8 (xb : Nat) (e : eT) (ln : Int32) (ta : Nat → Int32) (t : Nat) (hln : ln = nI t) (ht2 : t ≤ 160) (hJ : kJ e t) (G : Nat → sK) (hG : s_Clo none k_X1_isName G (s_PP (some .boolean) true c_X1_isName.2.2.2.2.2 [.ref 0, .ref 508] (rd3 xb e ln ta)) true) : G 0 (s_ent 3 [.ref 0, .ref 508]) [] (rd3 xb e ln ta) := by
  obtain ⟨K, hK⟩ : ∃ K, K = k_nm ta e 8 := ⟨_, rfl⟩
  obtain ⟨u, b, hu, hb, hub, hbt⟩ := hJ
  have fin : ∀ v : Int32, (v = 0 ∨ v = 1) → v = K → (v = 0 ∨ v = 1) ∧ s_PP (some .boolean) true c_X1_isName.2.2.2.2.2 [.ref 0, .ref 508] (rd3 xb e ln ta) (some (.int v)) (rd3 xb e ln ta) := by
    intro v h01 hv
    refine ⟨h01, rfl, ?_, fun _ => rfl⟩
    show some (Value.int v) = some (Value.int (k_nm (bF (rd3 xb e ln ta) 2) (rE (rd3 xb e ln ta)) 8))
    rw [rB_3, rE_3, hv, hK]
  have hsub : e_be e - e_fi e = nI (b - u) := by rw [hu, hb]; exact p_sub_nI hub (by omega)
  refine hG 0 _ _ _ (And.intro (fun c => ?_) (fun c => ?_))
  rotate_left
  · have c : ¬ e_ki e = 1 := c
    exact fin 0 (Or.inl rfl) (by rw [hK, k_nm, if_neg (fun z => c z.1)])
  have c : e_ki e = 1 := c
  refine And.intro ⟨8, by decide, rfl, rfl⟩ ?_
  intro r hr
  obtain rfl : r = some (.int (nI 6)) := hr
  refine And.intro (fun c2 => ?_) (fun c2 => ?_)
  rotate_left
  · have c2 : ¬ e_be e - e_fi e = nI 6 := c2
    exact fin 0 (Or.inl rfl) (by rw [hK, k_nm, if_neg (fun z => c2 z.2)])
  have c2 : e_be e - e_fi e = nI 6 := c2
  have hbu : b = u + 6 := by
    have h1 := hsub.symm.trans c2
    have h2 := (nI_eq (by omega) (by decide)).mp h1
    omega
  have huc : (e_fi e).toNatClampNeg = u := by rw [hu, nI_clamp (by omega)]
  have hK2 : K = k_eqs ta (s_byt.getD 8 []) u 6 0 := by rw [hK, k_nm, if_pos ⟨c, c2⟩, huc]; rfl
  have loop : ∀ (k j : Nat) (x : Int32), j + k = 6 → x = nI j → K = k_eqs ta (s_byt.getD 8 []) u k j → G 3 [some (.ref 0), some (.ref 508), some (.int x)] [] (rd3 xb e ln ta) := by
    intro k
    induction k with
    | zero =>
      intro j x hj hx hk
      refine hG 3 _ _ _ (And.intro ⟨8, by decide, rfl, rfl⟩ ?_)
      intro r hr
      obtain rfl : r = some (.int (nI 6)) := hr
      refine And.intro (fun c3 => ?_) (fun c3 => ?_)
      · have c3 : x < nI 6 := c3
        rw [hx, nI_ltI (by omega) (by omega)] at c3; omega
      · exact fin 1 (Or.inr rfl) hk.symm
    | succ k ih =>
      intro j x hj hx hk
      rw [k_eqs] at hk
      refine hG 3 _ _ _ (And.intro ⟨8, by decide, rfl, rfl⟩ ?_)
      intro r hr
      obtain rfl : r = some (.int (nI 6)) := hr
      refine And.intro (fun c3 => ?_) (fun c3 => ?_)
      rotate_left
      · have c3 : ¬ x < nI 6 := c3
        rw [hx, nI_ltI (by omega) (by omega)] at c3; omega
      have hxj : e_fi e + x = nI (u + j) := by rw [hu, hx, nI_add]
      have hxc : (e_fi e + x).toNatClampNeg = u + j := by rw [hxj, nI_clamp (by omega)]
      refine And.intro (by show vp_in (e_fi e + x) 160; rw [hxj]; exact vp_in_nI (by omega) (by omega)) ?_
      refine And.intro ⟨8, j, x, by decide, rfl, rfl, hx, by show j < 6; omega⟩ ?_
      intro r hr
      obtain ⟨ch, hch⟩ : ∃ ch, ch = (s_byt.getD 8 []).getD x.toNatClampNeg 0 := ⟨_, rfl⟩
      obtain rfl : r = some (.int ch) := by rw [hch]; exact hr
      have hxn : x.toNatClampNeg = j := by rw [hx, nI_clamp (by omega)]
      rw [hxn] at hch
      rw [← hch] at hk
      refine And.intro (fun c4 => ?_) (fun c4 => ?_)
      · have c4 : ta (e_fi e + x).toNatClampNeg = ch := c4
        rw [hxc] at c4
        rw [if_pos c4] at hk
        exact ih (j + 1) _ (by omega) (by rw [hx, nI_1]) hk
      · have c4 : ¬ ta (e_fi e + x).toNatClampNeg = ch := c4
        rw [hxc] at c4
        rw [if_neg c4] at hk
        exact fin 0 (Or.inl rfl) hk.symm
  exact loop 6 0 0 (by omega) nI_0.symm hK2
set_option maxRecDepth 100000 in
set_option maxHeartbeats 4000000 in
theorem isn_9 (xb : Nat) (e : eT) (ln : Int32) (ta : Nat → Int32) (t : Nat) (hln : ln = nI t) (ht2 : t ≤ 160) (hJ : kJ e t) (G : Nat → sK) (hG : s_Clo none k_X1_isName G (s_PP (some .boolean) true c_X1_isName.2.2.2.2.2 [.ref 0, .ref 509] (rd3 xb e ln ta)) true) : G 0 (s_ent 3 [.ref 0, .ref 509]) [] (rd3 xb e ln ta) := by
  obtain ⟨K, hK⟩ : ∃ K, K = k_nm ta e 9 := ⟨_, rfl⟩
  obtain ⟨u, b, hu, hb, hub, hbt⟩ := hJ
  have fin : ∀ v : Int32, (v = 0 ∨ v = 1) → v = K → (v = 0 ∨ v = 1) ∧ s_PP (some .boolean) true c_X1_isName.2.2.2.2.2 [.ref 0, .ref 509] (rd3 xb e ln ta) (some (.int v)) (rd3 xb e ln ta) := by
    intro v h01 hv
    refine ⟨h01, rfl, ?_, fun _ => rfl⟩
    show some (Value.int v) = some (Value.int (k_nm (bF (rd3 xb e ln ta) 2) (rE (rd3 xb e ln ta)) 9))
    rw [rB_3, rE_3, hv, hK]
  have hsub : e_be e - e_fi e = nI (b - u) := by rw [hu, hb]; exact p_sub_nI hub (by omega)
  refine hG 0 _ _ _ (And.intro (fun c => ?_) (fun c => ?_))
  rotate_left
  · have c : ¬ e_ki e = 1 := c
    exact fin 0 (Or.inl rfl) (by rw [hK, k_nm, if_neg (fun z => c z.1)])
  have c : e_ki e = 1 := c
  refine And.intro ⟨9, by decide, rfl, rfl⟩ ?_
  intro r hr
  obtain rfl : r = some (.int (nI 4)) := hr
  refine And.intro (fun c2 => ?_) (fun c2 => ?_)
  rotate_left
  · have c2 : ¬ e_be e - e_fi e = nI 4 := c2
    exact fin 0 (Or.inl rfl) (by rw [hK, k_nm, if_neg (fun z => c2 z.2)])
  have c2 : e_be e - e_fi e = nI 4 := c2
  have hbu : b = u + 4 := by
    have h1 := hsub.symm.trans c2
    have h2 := (nI_eq (by omega) (by decide)).mp h1
    omega
  have huc : (e_fi e).toNatClampNeg = u := by rw [hu, nI_clamp (by omega)]
  have hK2 : K = k_eqs ta (s_byt.getD 9 []) u 4 0 := by rw [hK, k_nm, if_pos ⟨c, c2⟩, huc]; rfl
  have loop : ∀ (k j : Nat) (x : Int32), j + k = 4 → x = nI j → K = k_eqs ta (s_byt.getD 9 []) u k j → G 3 [some (.ref 0), some (.ref 509), some (.int x)] [] (rd3 xb e ln ta) := by
    intro k
    induction k with
    | zero =>
      intro j x hj hx hk
      refine hG 3 _ _ _ (And.intro ⟨9, by decide, rfl, rfl⟩ ?_)
      intro r hr
      obtain rfl : r = some (.int (nI 4)) := hr
      refine And.intro (fun c3 => ?_) (fun c3 => ?_)
      · have c3 : x < nI 4 := c3
        rw [hx, nI_ltI (by omega) (by omega)] at c3; omega
      · exact fin 1 (Or.inr rfl) hk.symm
    | succ k ih =>
      intro j x hj hx hk
      rw [k_eqs] at hk
      refine hG 3 _ _ _ (And.intro ⟨9, by decide, rfl, rfl⟩ ?_)
      intro r hr
      obtain rfl : r = some (.int (nI 4)) := hr
      refine And.intro (fun c3 => ?_) (fun c3 => ?_)
      rotate_left
      · have c3 : ¬ x < nI 4 := c3
        rw [hx, nI_ltI (by omega) (by omega)] at c3; omega
      have hxj : e_fi e + x = nI (u + j) := by rw [hu, hx, nI_add]
      have hxc : (e_fi e + x).toNatClampNeg = u + j := by rw [hxj, nI_clamp (by omega)]
      refine And.intro (by show vp_in (e_fi e + x) 160; rw [hxj]; exact vp_in_nI (by omega) (by omega)) ?_
      refine And.intro ⟨9, j, x, by decide, rfl, rfl, hx, by show j < 4; omega⟩ ?_
      intro r hr
      obtain ⟨ch, hch⟩ : ∃ ch, ch = (s_byt.getD 9 []).getD x.toNatClampNeg 0 := ⟨_, rfl⟩
      obtain rfl : r = some (.int ch) := by rw [hch]; exact hr
      have hxn : x.toNatClampNeg = j := by rw [hx, nI_clamp (by omega)]
      rw [hxn] at hch
      rw [← hch] at hk
      refine And.intro (fun c4 => ?_) (fun c4 => ?_)
      · have c4 : ta (e_fi e + x).toNatClampNeg = ch := c4
        rw [hxc] at c4
        rw [if_pos c4] at hk
        exact ih (j + 1) _ (by omega) (by rw [hx, nI_1]) hk
      · have c4 : ¬ ta (e_fi e + x).toNatClampNeg = ch := c4
        rw [hxc] at c4
        rw [if_neg c4] at hk
        exact fin 0 (Or.inl rfl) hk.symm
  exact loop 4 0 0 (by omega) nI_0.symm hK2
theorem okb_X1_isName : s_okb k_X1_isName := by
  show s_Ok c_J0_length_8abf5 ∧ s_Ok c_J0_length_8abf5 ∧ s_Ok c_J0_charAt_5068e ∧ True
  exact ⟨ok_J0_length_8abf5, ok_J0_length_8abf5, ok_J0_charAt_5068e, trivial⟩
set_option maxRecDepth 100000 in
set_option maxHeartbeats 4000000 in
theorem ok_X1_isName : s_Ok c_X1_isName := by
  refine s_ok_of k_X1_isName (by decide +kernel) sta_X1_isName ck_X1_isName okb_X1_isName ?_
  rintro vs L ⟨xb, e, ln, ta, t, i, rfl, rfl, hln, ht2, hJ, hi⟩
  refine ⟨rfl, fun G hG => ?_⟩
  match i, hi with
  | 0, _ => exact isn_0 xb e ln ta t hln ht2 hJ G hG
  | 1, _ => exact isn_1 xb e ln ta t hln ht2 hJ G hG
  | 2, _ => exact isn_2 xb e ln ta t hln ht2 hJ G hG
  | 3, _ => exact isn_3 xb e ln ta t hln ht2 hJ G hG
  | 4, _ => exact isn_4 xb e ln ta t hln ht2 hJ G hG
  | 5, _ => exact isn_5 xb e ln ta t hln ht2 hJ G hG
  | 6, _ => exact isn_6 xb e ln ta t hln ht2 hJ G hG
  | 7, _ => exact isn_7 xb e ln ta t hln ht2 hJ G hG
  | 8, _ => exact isn_8 xb e ln ta t hln ht2 hJ G hG
  | 9, _ => exact isn_9 xb e ln ta t hln ht2 hJ G hG
abbrev oT : Type := Int32 × eT × Int32 × Int32 × Int32
def k_on3 (N : Int32 × eT) (pe li ba a b : Int32) : oT := (N.1, N.2, pe + 1, p_wb li pe a, p_wb ba pe b)
def k_on2 (ta : Nat → Int32) (ln : Int32) (e : eT) (pe li ba a b c : Int32) : oT := if a = 0 ∧ b = 0 ∧ c = 0 then (0, k_bl e 2 (e_fi e), pe, li, ba) else k_on3 (k_ts ta ln e) pe li ba a b
def k_on1 (ta : Nat → Int32) (ln : Int32) (N : Int32 × eT) (pe li ba : Int32) : oT := if N.1 = 0 then (0, N.2, pe, li, ba) else k_on2 ta ln N.2 pe li ba (k_nm ta N.2 7) (k_nm ta N.2 8) (k_nm ta N.2 9)
def k_on (ta : Nat → Int32) (ln : Int32) (e : eT) (pe li ba : Int32) : oT := if pe < 8 then k_on1 ta ln (k_nx ta ln e) pe li ba else (0, k_bl e 5 (e_fi e), pe, li, ba)
def c_X1_takeOne : sCtr := ((yX1_takeOne, cX1_takeOne, 3, (some .boolean)), (2, 0, 6, 128), false,
  rdfp,
  fun vs L => ∃ (e : eT) (ln : Int32) (ta : Nat → Int32) (s : Nat → Int32) (F : Nat → Nat → Int32) (t : Nat), vs = [.ref 0] ∧ L = rdW e ln ta s F ∧ ln = nI t ∧ t ≤ 160 ∧ kI e t,
  fun _ L r L' => ∃ X, X = k_on (bF L 2) (oI L 1 1) (rE L) (oI L 3 0) (oI L 3 3) (oI L 3 4) ∧ r = some (.int X.1) ∧ L' = rdL L X.2.1 (upd (upd (upd (oI L 3) 3 X.2.2.2.1) 4 X.2.2.2.2) 0 X.2.2.1) (bG 3 L))
theorem sta_X1_takeOne : s_Sta c_X1_takeOne := ⟨⟨by decide +kernel, by decide +kernel, by decide +kernel⟩, List.mem_of_getElem? (i := 421) (by decide +kernel), List.mem_of_getElem? (i := 66) (by decide +kernel), ⟨List.mem_of_getElem? (i := 420) (by decide +kernel), List.mem_of_getElem? (i := 5) (by decide +kernel), Or.inl ⟨_, rfl, rfl⟩⟩⟩

def k_X1_takeOne : List sBk := [
  (0, false, [true, false, false], [o0 0 (.aload_n 0), oN 1 (.getfield 12) [1, 0, 212], oN 4 (.getfield 57) [0, 0, 116], oK 7 (.bipush 8) (.int 8), oN 9 (.if_icmp .lt 13) [1], o0 12 (.aload_n 0), oK 13 (.iconst 5) (.int 5), o0 14 (.aload_n 0), oN 15 (.getfield 77) [1, 5, 220], oC 18 (.invokevirtual 63) [357] c_X1_blame, o0 21 .ireturn]),
  (22, false, [true, false, false], [o0 22 (.aload_n 0), oC 23 (.invokevirtual 42) [349] c_X1_nextToken, oN 26 (.ifCond .ne 5) [2], oK 29 (.iconst 0) (.int 0), o0 30 .ireturn]),
  (31, false, [true, false, false], [o0 31 (.aload_n 0), oV 32 (.ldc 135) [7, 0] (.ref 507), oC 34 (.invokevirtual 98) [366] c_X1_isName, o0 37 (.istore_n 1), o0 38 (.aload_n 0), oV 39 (.ldc 137) [8, 0] (.ref 508), oC 41 (.invokevirtual 98) [366] c_X1_isName, o0 44 (.istore_n 2), o0 45 (.iload_n 1), oN 46 (.ifCond .ne 26) [3], o0 49 (.iload_n 2), oN 50 (.ifCond .ne 22) [3], o0 53 (.aload_n 0), oV 54 (.ldc 139) [9, 0] (.ref 509), oC 56 (.invokevirtual 98) [366] c_X1_isName, oN 59 (.ifCond .ne 13) [3], o0 62 (.aload_n 0), oK 63 (.iconst 2) (.int 2), o0 64 (.aload_n 0), oN 65 (.getfield 77) [1, 5, 220], oC 68 (.invokevirtual 63) [357] c_X1_blame, o0 71 .ireturn]),
  (72, true, [true, true, true], [o0 72 (.aload_n 0), oN 73 (.getfield 12) [1, 0, 212], o0 76 (.aload_n 0), oN 77 (.getfield 12) [1, 0, 212], oN 80 (.getfield 141) [0, 3, 128], o0 83 (.aload_n 0), oN 84 (.getfield 12) [1, 0, 212], oN 87 (.getfield 57) [0, 0, 116], o0 90 (.iload_n 1), oC 91 (.invokestatic 144) [1, 0] c_X5_withBit, oN 94 (.putfield 141) [0, 3, 128], o0 97 (.aload_n 0), oN 98 (.getfield 12) [1, 0, 212], o0 101 (.aload_n 0), oN 102 (.getfield 12) [1, 0, 212], oN 105 (.getfield 148) [0, 4, 131], o0 108 (.aload_n 0), oN 109 (.getfield 12) [1, 0, 212], oN 112 (.getfield 57) [0, 0, 116], o0 115 (.iload_n 2), oC 116 (.invokestatic 144) [1, 0] c_X5_withBit, oN 119 (.putfield 148) [0, 4, 131], o0 122 (.aload_n 0), oN 123 (.getfield 12) [1, 0, 212], o0 126 .dup, oN 127 (.getfield 57) [0, 0, 116], oK 130 (.iconst 1) (.int 1), o0 131 .iadd, oN 132 (.putfield 57) [0, 0, 116], o0 135 (.aload_n 0), oC 136 (.invokevirtual 150) [428] c_X1_takeStop, o0 139 .ireturn])]
set_option maxRecDepth 100000 in
theorem ck_X1_takeOne : s_ck RX1 cX1_takeOne 3 6 128 k_X1_takeOne = true := by decide +kernel

theorem okb_X1_takeOne : s_okb k_X1_takeOne := by
  show s_Ok c_X1_blame ∧ s_Ok c_X1_nextToken ∧ s_Ok c_X1_isName ∧ s_Ok c_X1_isName ∧ s_Ok c_X1_isName ∧ s_Ok c_X1_blame ∧ s_Ok c_X5_withBit ∧ s_Ok c_X5_withBit ∧ s_Ok c_X1_takeStop ∧ True
  exact ⟨ok_X1_blame, ok_X1_nextToken, ok_X1_isName, ok_X1_isName, ok_X1_isName, ok_X1_blame, ok_X5_withBit, ok_X5_withBit, ok_X1_takeStop, trivial⟩
set_option maxRecDepth 100000 in
set_option maxHeartbeats 4000000 in
theorem ok_X1_takeOne : s_Ok c_X1_takeOne := by
  refine s_ok_of k_X1_takeOne (by decide +kernel) sta_X1_takeOne ck_X1_takeOne okb_X1_takeOne ?_
  rintro vs L ⟨e, ln, ta, s, F, t, rfl, rfl, hln, ht2, hI⟩
  refine ⟨rfl, fun G hG => ?_⟩
  obtain ⟨X, hX⟩ : ∃ X, X = k_on ta ln e (s 0) (s 3) (s 4) := ⟨_, rfl⟩
  have fin : ∀ (v d2 d3 d4 : Int32) (e2 : eT), v = 0 ∨ v = 1 → X = (v, e2, d2, d3, d4) → (v = 0 ∨ v = 1) ∧ s_PP (some .boolean) false c_X1_takeOne.2.2.2.2.2 [.ref 0] (rdW e ln ta s F) (some (.int v)) (rdW e2 ln ta (upd (upd (upd s 3 d3) 4 d4) 0 d2) F) := by
    intro v d2 d3 d4 e2 h01 h
    refine ⟨h01, rfl, ⟨(v, e2, d2, d3, d4), ?_, rfl, rfl⟩, fun h => by cases h⟩
    show (v, e2, d2, d3, d4) = k_on (bF (rdW e ln ta s F) 2) (oI (rdW e ln ta s F) 1 1) (rE (rdW e ln ta s F)) (s 0) (s 3) (s 4)
    rw [rB_W, rO_W, rE_W, ← hX, h]
  unfold k_on at hX
  refine hG 0 _ _ _ (And.intro (fun c => ?_) (fun c => ?_))
  rotate_left
  · have c : ¬ s 0 < 8 := c
    rw [if_neg c] at hX
    refine And.intro ⟨_, _, e, 5, e_fi (e), rfl, rfl⟩ ?_
    rintro r L' ⟨rfl, hL⟩
    obtain rfl : L' = [rdO 1003 1001 (k_bl (e) 5 (e_fi (e)))] := hL
    exact fin 0 (s 0) (s 3) (s 4) (k_bl e 5 (e_fi e)) (Or.inl rfl) hX
  have c : s 0 < 8 := c
  rw [if_pos c] at hX
  have hJ1 := kJ_nx (ta := ta) ht2 hI
  rw [← hln] at hJ1
  obtain ⟨pp, hpp, hppt⟩ := id hI
  refine And.intro ⟨_, e, ln, ta, pp, t, rfl, rfl, hln, ht2, hpp, hppt⟩ ?_
  rintro r L' ⟨hr, hL⟩
  replace hr : r = some (.int (k_nx (bF (rd3 1003 (e) ln ta) 2) (oI (rd3 1003 (e) ln ta) 1 1) (rE (rd3 1003 (e) ln ta))).1) := hr
  replace hL : L' = rd3L (rd3 1003 (e) ln ta) (k_nx (bF (rd3 1003 (e) ln ta) 2) (oI (rd3 1003 (e) ln ta) 1 1) (rE (rd3 1003 (e) ln ta))).2 := hL
  rw [rB_3, rO_3, rE_3] at hr
  rw [rB_3, rO_3, rE_3, rL_3] at hL
  obtain ⟨N1, hN1⟩ : ∃ N, N = k_nx ta ln (e) := ⟨_, rfl⟩
  rw [← hN1] at hr hL
  obtain ⟨v1, e1⟩ := N1
  dsimp only at hr hL
  subst hr hL
  rw [← hN1] at hJ1
  rw [← hN1, k_on1] at hX
  dsimp only at hX hJ1
  refine And.intro (fun q => ?_) (fun q => ?_)
  · have q : v1 = 0 := q
    rw [if_pos q] at hX
    exact fin 0 (s 0) (s 3) (s 4) e1 (Or.inl rfl) hX
  have q : ¬ v1 = 0 := q
  rw [if_neg q] at hX
  refine And.intro ⟨_, e1, ln, ta, t, 7, rfl, rfl, hln, ht2, hJ1, by decide⟩ ?_
  intro r hr
  replace hr : r = some (.int (k_nm (bF (rd3 1003 (e1) ln ta) 2) (rE (rd3 1003 (e1) ln ta)) 7)) := hr
  rw [rB_3, rE_3] at hr
  obtain ⟨a, ha⟩ : ∃ q, q = k_nm ta (e1) 7 := ⟨_, rfl⟩
  rw [← ha] at hr
  subst hr
  refine And.intro ⟨_, e1, ln, ta, t, 8, rfl, rfl, hln, ht2, hJ1, by decide⟩ ?_
  intro r hr
  replace hr : r = some (.int (k_nm (bF (rd3 1003 (e1) ln ta) 2) (rE (rd3 1003 (e1) ln ta)) 8)) := hr
  rw [rB_3, rE_3] at hr
  obtain ⟨b, hb⟩ : ∃ q, q = k_nm ta (e1) 8 := ⟨_, rfl⟩
  rw [← hb] at hr
  subst hr
  obtain ⟨c9, hc9⟩ : ∃ c, c = k_nm ta e1 9 := ⟨_, rfl⟩
  rw [← ha, ← hb, ← hc9, k_on2] at hX
  have g3 : ¬ (a = 0 ∧ b = 0 ∧ c9 = 0) → G 3 [some (.ref 0), some (.int a), some (.int b)] [] (rdW e1 ln ta s F) := by
    intro hn
    rw [if_neg hn] at hX
    refine hG 3 _ _ _ ?_
    refine And.intro ⟨_, _, _, rfl⟩ ?_
    intro r hr
    obtain rfl : r = some (.int (p_wb (s 3) (s 0) a)) := hr
    refine And.intro ⟨_, _, _, rfl⟩ ?_
    intro r hr
    obtain rfl : r = some (.int (p_wb (s 4) (s 0) b)) := hr
    have h01 := k_ts_01 ta ln e1
    have hI1 := kJ_I hJ1
    obtain ⟨pp, hpp, hppt⟩ := id hI1
    refine And.intro ⟨_, e1, ln, ta, pp, t, rfl, rfl, hln, ht2, hpp, hppt⟩ ?_
    rintro r L' ⟨hr, hL⟩
    replace hr : r = some (.int (k_ts (bF (rd3 1003 (e1) ln ta) 2) (oI (rd3 1003 (e1) ln ta) 1 1) (rE (rd3 1003 (e1) ln ta))).1) := hr
    replace hL : L' = rd3L (rd3 1003 (e1) ln ta) (k_ts (bF (rd3 1003 (e1) ln ta) 2) (oI (rd3 1003 (e1) ln ta) 1 1) (rE (rd3 1003 (e1) ln ta))).2 := hL
    rw [rB_3, rO_3, rE_3] at hr
    rw [rB_3, rO_3, rE_3, rL_3] at hL
    obtain ⟨N2, hN2⟩ : ∃ N, N = k_ts ta ln (e1) := ⟨_, rfl⟩
    rw [← hN2] at hr hL
    obtain ⟨v2, e2⟩ := N2
    dsimp only at hr hL
    subst hr hL
    rw [← hN2, k_on3] at hX
    rw [← hN2] at h01
    exact fin v2 _ _ _ e2 h01 hX
  refine And.intro (fun qa => ?_) (fun qa => ?_)
  rotate_left
  · have qa : ¬ a = 0 := qa
    exact g3 (fun z => qa z.1)
  have qa : a = 0 := qa
  refine And.intro (fun qb => ?_) (fun qb => ?_)
  rotate_left
  · have qb : ¬ b = 0 := qb
    exact g3 (fun z => qb z.2.1)
  have qb : b = 0 := qb
  refine And.intro ⟨_, e1, ln, ta, t, 9, rfl, rfl, hln, ht2, hJ1, by decide⟩ ?_
  intro r hr
  replace hr : r = some (.int (k_nm (bF (rd3 1003 (e1) ln ta) 2) (rE (rd3 1003 (e1) ln ta)) 9)) := hr
  rw [rB_3, rE_3] at hr
  obtain ⟨d, hd⟩ : ∃ q, q = k_nm ta (e1) 9 := ⟨_, rfl⟩
  rw [← hd] at hr
  subst hr
  have hdc : d = c9 := hd.trans hc9.symm
  refine And.intro (fun qc => ?_) (fun qc => ?_)
  rotate_left
  · have qc : ¬ d = 0 := qc
    exact g3 (fun z => qc (hdc.trans z.2.2))
  have qc : d = 0 := qc
  rw [if_pos ⟨qa, qb, hdc.symm.trans qc⟩] at hX
  refine And.intro ⟨_, _, e1, 2, e_fi (e1), rfl, rfl⟩ ?_
  rintro r L' ⟨rfl, hL⟩
  obtain rfl : L' = [rdO 1003 1001 (k_bl (e1) 2 (e_fi (e1)))] := hL
  exact fin 0 (s 0) (s 3) (s 4) (k_bl e1 2 (e_fi e1)) (Or.inl rfl) hX

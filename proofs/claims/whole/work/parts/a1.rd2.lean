/-! ===== Reader: the next token ===== -/
def e_tk (e : eT) (k f b v : Int32) : eT := (e.1, e.2.1, k, f, b, v, e.2.2.2.2.2.2)
def k_dg (ta : Nat → Int32) (u : Nat) : Nat → Int32
  | 0 => 0
  | k + 1 => k_dg ta u k * 10 + ta (u + k) - 48
def k_n2 (ta : Nat → Int32) (e : eT) (u b : Nat) : Int32 × eT := if b - u < 1 ∨ 2 < b - u then (0, k_bl (e_tk e 2 (nI u) (nI b) (e_va e)) 1 (nI u)) else (1, e_tk e 2 (nI u) (nI b) (k_dg ta u (b - u)))
def k_n1 (ta : Nat → Int32) (ln : Int32) (e : eT) (u : Nat) : Int32 × eT :=
  if nI u < ln then
    (if ta u = 59 then (1, e_tk e 3 (nI u) (nI (u + 1)) (e_va e))
     else if p_rg 97 122 (ta u) = 0 then k_n2 ta e u (p_ru ta ln 48 57 161 u)
     else (1, e_tk e 1 (nI u) (nI (p_ru ta ln 97 122 161 u)) (e_va e)))
  else (1, e_tk e 0 (nI u) (nI u) (e_va e))
def k_nx (ta : Nat → Int32) (ln : Int32) (e : eT) : Int32 × eT := k_n1 ta ln e (p_ru ta ln 32 32 161 (e_be e).toNatClampNeg)
def c_X1_nextToken : sCtr := ((yX1_nextToken, cX1_nextToken, 4, (some .boolean)), (2, 0, 1, 24), false,
  rd3fp,
  fun vs L => ∃ (xb : Nat) (e : eT) (ln : Int32) (ta : Nat → Int32) (p t : Nat), vs = [.ref 0] ∧ L = rd3 xb e ln ta ∧ ln = nI t ∧ t ≤ 160 ∧ e_be e = nI p ∧ p ≤ t,
  fun _ L r L' => r = some (.int (k_nx (bF L 2) (oI L 1 1) (rE L)).1) ∧ L' = rd3L L (k_nx (bF L 2) (oI L 1 1) (rE L)).2)
theorem sta_X1_nextToken : s_Sta c_X1_nextToken := ⟨⟨by decide +kernel, by decide +kernel, by decide +kernel⟩, List.mem_of_getElem? (i := 352) (by decide +kernel), List.mem_of_getElem? (i := 66) (by decide +kernel), ⟨List.mem_of_getElem? (i := 351) (by decide +kernel), List.mem_of_getElem? (i := 0) (by decide +kernel), Or.inl ⟨_, rfl, rfl⟩⟩⟩

def k_X1_nextToken : List sBk := [
  (0, false, [true, false, false, false], [o0 0 (.aload_n 0), o0 1 (.aload_n 0), o0 2 (.aload_n 0), oN 3 (.getfield 29) [1, 6, 221], oK 6 (.bipush 32) (.int 32), oK 8 (.bipush 32) (.int 32), oC 10 (.invokevirtual 73) [353] c_X1_runEnd, oN 13 (.putfield 77) [1, 5, 220], o0 16 (.aload_n 0), o0 17 (.aload_n 0), oN 18 (.getfield 77) [1, 5, 220], oN 21 (.putfield 29) [1, 6, 221], o0 24 (.aload_n 0), oN 25 (.getfield 77) [1, 5, 220], o0 28 (.aload_n 0), oN 29 (.getfield 18) [1, 3, 218], oN 32 (.getfield 46) [4, 1, 96], oN 35 (.if_icmp .lt 10) [1], o0 38 (.aload_n 0), oK 39 (.iconst 0) (.int 0), oN 40 (.putfield 51) [1, 4, 219], oK 43 (.iconst 1) (.int 1), o0 44 .ireturn]),
  (45, false, [true, false, false, false], [o0 45 (.aload_n 0), oN 46 (.getfield 18) [1, 3, 218], oN 49 (.getfield 80) [4, 0, 94], o0 52 (.aload_n 0), oN 53 (.getfield 77) [1, 5, 220], o0 56 .baload, o0 57 (.istore_n 1), o0 58 (.iload_n 1), oK 59 (.bipush 59) (.int 59), oN 61 (.if_icmp .ne 20) [2], o0 64 (.aload_n 0), oK 65 (.iconst 3) (.int 3), oN 66 (.putfield 51) [1, 4, 219], o0 69 (.aload_n 0), o0 70 (.aload_n 0), oN 71 (.getfield 77) [1, 5, 220], oK 74 (.iconst 1) (.int 1), o0 75 .iadd, oN 76 (.putfield 29) [1, 6, 221], oK 79 (.iconst 1) (.int 1), o0 80 .ireturn]),
  (81, false, [true, true, false, false], [o0 81 (.iload_n 1), oK 82 (.bipush 97) (.int 97), oN 84 (.if_icmp .lt 32) [3], o0 87 (.iload_n 1), oK 88 (.bipush 122) (.int 122), oN 90 (.if_icmp .gt 26) [3], o0 93 (.aload_n 0), oK 94 (.iconst 1) (.int 1), oN 95 (.putfield 51) [1, 4, 219], o0 98 (.aload_n 0), o0 99 (.aload_n 0), o0 100 (.aload_n 0), oN 101 (.getfield 77) [1, 5, 220], oK 104 (.bipush 97) (.int 97), oK 106 (.bipush 122) (.int 122), oC 108 (.invokevirtual 73) [353] c_X1_runEnd, oN 111 (.putfield 29) [1, 6, 221], oK 114 (.iconst 1) (.int 1), o0 115 .ireturn]),
  (116, false, [true, false, false, false], [o0 116 (.aload_n 0), oK 117 (.iconst 2) (.int 2), oN 118 (.putfield 51) [1, 4, 219], o0 121 (.aload_n 0), o0 122 (.aload_n 0), o0 123 (.aload_n 0), oN 124 (.getfield 77) [1, 5, 220], oK 127 (.bipush 48) (.int 48), oK 129 (.bipush 57) (.int 57), oC 131 (.invokevirtual 73) [353] c_X1_runEnd, oN 134 (.putfield 29) [1, 6, 221], o0 137 (.aload_n 0), oN 138 (.getfield 29) [1, 6, 221], o0 141 (.aload_n 0), oN 142 (.getfield 77) [1, 5, 220], o0 145 .isub, o0 146 (.istore_n 2), o0 147 (.iload_n 2), oK 148 (.iconst 1) (.int 1), oN 149 (.if_icmp .lt 8) [4], o0 152 (.iload_n 2), oK 153 (.iconst 2) (.int 2), oN 154 (.if_icmp .le 13) [5], oN 157 .nop [4]]),
  (157, true, [true, false, false, false], [o0 157 (.aload_n 0), oK 158 (.iconst 1) (.int 1), o0 159 (.aload_n 0), oN 160 (.getfield 77) [1, 5, 220], oC 163 (.invokevirtual 63) [357] c_X1_blame, o0 166 .ireturn]),
  (167, false, [true, false, false, false], [o0 167 (.aload_n 0), oK 168 (.iconst 0) (.int 0), oN 169 (.putfield 84) [1, 7, 222], o0 172 (.aload_n 0), oN 173 (.getfield 77) [1, 5, 220], o0 176 (.istore_n 3), oN 177 .nop [6]]),
  (177, true, [true, false, false, true], [o0 177 (.iload_n 3), o0 178 (.aload_n 0), oN 179 (.getfield 29) [1, 6, 221], oN 182 (.if_icmp .ge 33) [7], o0 185 (.aload_n 0), o0 186 (.aload_n 0), oN 187 (.getfield 84) [1, 7, 222], oK 190 (.bipush 10) (.int 10), o0 192 .imul, o0 193 (.aload_n 0), oN 194 (.getfield 18) [1, 3, 218], oN 197 (.getfield 80) [4, 0, 94], o0 200 (.iload_n 3), o0 201 .baload, o0 202 .iadd, oK 203 (.bipush 48) (.int 48), o0 205 .isub, oN 206 (.putfield 84) [1, 7, 222], oK 209 (.iinc 3 1) (.int 1), oN 212 (.goto (-35)) [6]]),
  (215, false, [false, false, false, false], [oK 215 (.iconst 1) (.int 1), o0 216 .ireturn])]
set_option maxRecDepth 100000 in
theorem ck_X1_nextToken : s_ck RX1 cX1_nextToken 4 1 24 k_X1_nextToken = true := by decide +kernel

theorem okb_X1_nextToken : s_okb k_X1_nextToken := by
  show s_Ok c_X1_runEnd ∧ s_Ok c_X1_runEnd ∧ s_Ok c_X1_runEnd ∧ s_Ok c_X1_blame ∧ True
  exact ⟨ok_X1_runEnd, ok_X1_runEnd, ok_X1_runEnd, ok_X1_blame, trivial⟩
set_option maxRecDepth 100000 in
set_option maxHeartbeats 4000000 in
theorem ok_X1_nextToken : s_Ok c_X1_nextToken := by
  refine s_ok_of k_X1_nextToken (by decide +kernel) sta_X1_nextToken ck_X1_nextToken okb_X1_nextToken ?_
  rintro vs L ⟨xb, e, ln, ta, p, t, rfl, rfl, hln, ht2, hp, hpt⟩
  refine ⟨rfl, fun G hG => ?_⟩
  obtain ⟨R, hR⟩ : ∃ R, R = k_nx ta ln e := ⟨_, rfl⟩
  have fin : ∀ (v : Int32) (e2 : eT), v = 0 ∨ v = 1 → R = (v, e2) → (v = 0 ∨ v = 1) ∧ s_PP (some .boolean) false c_X1_nextToken.2.2.2.2.2 [.ref 0] (rd3 xb e ln ta) (some (.int v)) (rd3 xb e2 ln ta) := by
    intro v e2 h01 h
    refine ⟨h01, rfl, ⟨?_, ?_⟩, fun h => by cases h⟩
    · show some (Value.int v) = some (Value.int (k_nx (bF (rd3 xb e ln ta) 2) (oI (rd3 xb e ln ta) 1 1) (rE (rd3 xb e ln ta))).1)
      rw [rB_3, rO_3, rE_3, ← hR, h]
    · show rd3 xb e2 ln ta = rd3L (rd3 xb e ln ta) (k_nx (bF (rd3 xb e ln ta) 2) (oI (rd3 xb e ln ta) 1 1) (rE (rd3 xb e ln ta))).2
      rw [rB_3, rO_3, rE_3, rL_3, ← hR, h]
  have hut := p_ru_le ta (t := t) 32 32 (by decide) ht2 161 p hpt
  rw [← hln] at hut
  have hpc : (e_be e).toNatClampNeg = p := by rw [hp, nI_clamp (by omega)]
  obtain ⟨u, hu⟩ : ∃ u, u = p_ru ta ln 32 32 161 p := ⟨_, rfl⟩
  rw [← hu] at hut
  have hR1 : R = k_n1 ta ln e u := by rw [hR, k_nx, hpc, ← hu]
  refine hG 0 _ _ _ (And.intro ⟨_, e, ln, ta, _, _, _, p, t, rfl, rfl, hln, ht2, hp, hpt, by decide⟩ ?_)
  intro r hr
  replace hr : r = some (.int (nI (p_ru ta ln 32 32 161 (e_be e).toNatClampNeg))) := hr
  rw [hpc, ← hu] at hr
  subst hr
  refine And.intro (fun c => ?_) (fun c => ?_)
  rotate_left
  · have c : ¬ nI u < ln := c
    exact fin 1 (e_tk e 0 (nI u) (nI u) (e_va e)) (Or.inr rfl) (by rw [hR1, k_n1, if_neg c])
  have c : nI u < ln := c
  have hutl : u < t := by rw [hln, nI_ltI (by omega) (by omega)] at c; exact c
  have huc : (nI u).toNatClampNeg = u := nI_clamp (by omega)
  have hinu : vp_in (nI u) 160 := vp_in_nI (by omega) (by omega)
  obtain ⟨ch, hch⟩ : ∃ ch, ch = ta u := ⟨_, rfl⟩
  rw [k_n1, if_pos c, ← hch] at hR1
  refine And.intro hinu (And.intro (fun c2 => ?_) (fun c2 => ?_))
  · have c2 : ch = 59 := by rw [hch, ← huc]; exact c2
    rw [if_pos c2, ← nI_1] at hR1
    exact fin 1 (e_tk e 3 (nI u) (nI u + 1) (e_va e)) (Or.inr rfl) hR1
  have c2 : ¬ ch = 59 := by rw [hch, ← huc]; exact c2
  rw [if_neg c2] at hR1
  have num : p_rg 97 122 ch = 0 → s_go none k_X1_nextToken G (s_PP (some .boolean) false c_X1_nextToken.2.2.2.2.2 [.ref 0] (rd3 xb e ln ta)) true 97 3 [some (.ref 0), some (.int (ta (nI u).toNatClampNeg)), none, none] [] (rd3 xb (e_tk e (e_ki e) (nI u) (nI u) (e_va e)) ln ta) := by
    intro c3
    rw [if_pos c3] at hR1
    have hbt := p_ru_le ta (t := t) 48 57 (by decide) ht2 161 u (by omega)
    rw [← hln] at hbt
    obtain ⟨b, hb⟩ : ∃ b, b = p_ru ta ln 48 57 161 u := ⟨_, rfl⟩
    rw [← hb] at hbt hR1
    refine And.intro ⟨_, e_tk e 2 (nI u) (nI u) (e_va e), ln, ta, _, _, _, u, t, rfl, rfl, hln, ht2, rfl, by omega, by decide⟩ ?_
    intro r hr
    replace hr : r = some (.int (nI (p_ru ta ln 48 57 161 (nI u).toNatClampNeg))) := hr
    rw [huc, ← hb] at hr
    subst hr
    have hsub : nI b - nI u = nI (b - u) := p_sub_nI hbt.1 (by omega)
    have g4 : (b - u < 1 ∨ 2 < b - u) → G 4 [some (.ref 0), none, none, none] [] (rd3 xb (e_tk e 2 (nI u) (nI b) (e_va e)) ln ta) := by
      intro hbad
      refine hG 4 _ _ _ (And.intro ⟨_, _, e_tk e 2 (nI u) (nI b) (e_va e), _, _, rfl, rfl⟩ ?_)
      rintro r L' ⟨rfl, hL⟩
      obtain rfl : L' = [rdO (s_rho [0] xb) 1001 (k_bl (e_tk e 2 (nI u) (nI b) (e_va e)) 1 (nI u))] := hL
      have ue := s_un_rho [0] (by decide)
      refine s_pk_conv (L2 := rd3 xb (k_bl (e_tk e 2 (nI u) (nI b) (e_va e)) 1 (nI u)) ln ta) ?_ ?_
      · show ([rdO (s_un [0] (s_rho [0] xb)) 1 (k_bl (e_tk e 2 (nI u) (nI b) (e_va e)) 1 (nI u)), .inr (.inr (4, [.ref 2, .int ln])), .inl (1, 160, ta)] : sH) = _
        rw [ue xb]
        rfl
      exact fin 0 _ (Or.inl rfl) (by rw [hR1, k_n2, if_pos hbad])
    refine And.intro (fun c4 => ?_) (fun c4 => ?_)
    · have c4 : nI b - nI u < 1 := c4
      rw [hsub, show (1 : Int32) = nI 1 from rfl, nI_ltI (by omega) (by omega)] at c4
      exact g4 (Or.inl c4)
    have c4 : ¬ nI b - nI u < 1 := c4
    rw [hsub, show (1 : Int32) = nI 1 from rfl, nI_ltI (by omega) (by omega)] at c4
    refine And.intro (fun c5 => ?_) (fun c5 => ?_)
    · have c5 : 2 < nI b - nI u := c5
      rw [hsub, show (2 : Int32) = nI 2 from rfl, nI_ltI (by omega) (by omega)] at c5
      exact g4 (Or.inr c5)
    have c5 : ¬ 2 < nI b - nI u := c5
    rw [hsub, show (2 : Int32) = nI 2 from rfl, nI_ltI (by omega) (by omega)] at c5
    rw [k_n2, if_neg (by omega)] at hR1
    have g6 : ∀ (m k : Nat) (x v : Int32), u + k + m = b → x = nI (u + k) → v = k_dg ta u k → G 6 [some (.ref 0), none, none, some (.int x)] [] (rd3 xb (e_tk e 2 (nI u) (nI b) v) ln ta) := by
      intro m
      induction m with
      | zero =>
        intro k x v hk hx hv
        refine hG 6 _ _ _ (And.intro (fun q => ?_) (fun q => ?_))
        · have q : x < nI b := q
          rw [hx, nI_ltI (by omega) (by omega)] at q; omega
        · exact fin 1 (e_tk e 2 (nI u) (nI b) v) (Or.inr rfl) (by rw [hR1, hv, show k = b - u by omega])
      | succ m ih =>
        intro k x v hk hx hv
        have hxc : x.toNatClampNeg = u + k := by rw [hx, nI_clamp (by omega)]
        refine hG 6 _ _ _ (And.intro (fun q => ?_) (fun q => ?_))
        rotate_left
        · have q : ¬ x < nI b := q
          rw [hx, nI_ltI (by omega) (by omega)] at q; omega
        refine And.intro (by rw [hx]; exact vp_in_nI (by omega) (by omega)) ?_
        exact ih (k + 1) _ (v * 10 + ta x.toNatClampNeg - 48) (by omega) (by rw [hx, nI_1]; rfl) (by rw [k_dg, hv, hxc])
    exact g6 (b - u) 0 _ 0 (by omega) rfl rfl
  refine And.intro (fun c3 => ?_) (fun c3 => ?_)
  · have c3 : ch < 97 := by rw [hch, ← huc]; exact c3
    exact num (by rw [p_rg, if_pos c3])
  have c3 : ¬ ch < 97 := by rw [hch, ← huc]; exact c3
  refine And.intro (fun c4 => ?_) (fun c4 => ?_)
  · have c4 : 122 < ch := by rw [hch, ← huc]; exact c4
    exact num (by rw [p_rg, if_neg c3, if_pos c4])
  have c4 : ¬ 122 < ch := by rw [hch, ← huc]; exact c4
  rw [if_neg (show ¬ p_rg 97 122 ch = 0 by rw [p_rg, if_neg c3, if_neg c4]; decide)] at hR1
  refine And.intro ⟨_, e_tk e 1 (nI u) (nI u) (e_va e), ln, ta, _, _, _, u, t, rfl, rfl, hln, ht2, rfl, by omega, by decide⟩ ?_
  intro r hr
  replace hr : r = some (.int (nI (p_ru ta ln 97 122 161 (nI u).toNatClampNeg))) := hr
  rw [huc] at hr
  obtain ⟨b, hb⟩ : ∃ b, b = p_ru ta ln 97 122 161 u := ⟨_, rfl⟩
  rw [← hb] at hr hR1
  subst hr
  exact fin 1 (e_tk e 1 (nI u) (nI b) (e_va e)) (Or.inr rfl) hR1

/-! ===== WishClerkModel: the next token ===== -/
def p_rg (lo hi c : Int32) : Int32 := if c < lo then 0 else if hi < c then 0 else 1
/-- where the run of bytes from lo to hi that begins at p ends -/
def p_ru (ta : Nat → Int32) (ln lo hi : Int32) : Nat → Nat → Nat
  | 0, p => p
  | f + 1, p => if p_rg lo hi (p_mlk ta ln (nI p)) = 0 then p else p_ru ta ln lo hi f (p + 1)
/-- the first two figures -/
def p_mv (ta : Nat → Int32) (ln : Int32) (u : Nat) : Nat → Int32
  | 0 => 0
  | k + 1 => if k < 2 then 10 * p_mv ta ln u k + p_mlk ta ln (nI (u + k)) - 48 else p_mv ta ln u k
theorem p_rg_m1 {lo hi : Int32} (h : 0 < lo) : p_rg lo hi (-1) = 0 := by
  rw [p_rg, if_pos]
  rw [Int32.lt_iff_toInt_lt] at h ⊢
  have z0 : (0 : Int32).toInt = 0 := rfl
  have z1 : (-1 : Int32).toInt = -1 := rfl
  omega
theorem p_mlk_o {ta : Nat → Int32} {t p : Nat} (ht : t ≤ 160) (hp : t ≤ p) (hp2 : p < 1000) : p_mlk ta (nI t) (nI p) = -1 := by
  rw [p_mlk, if_neg]
  rw [nI_ltI (by omega) (by omega)]; omega
theorem p_ru_le (ta : Nat → Int32) {t : Nat} (lo hi : Int32) (h : 0 < lo) (ht : t ≤ 160) : ∀ f p, p ≤ t → p ≤ p_ru ta (nI t) lo hi f p ∧ p_ru ta (nI t) lo hi f p ≤ t
  | 0, p, hp => ⟨Nat.le_refl _, hp⟩
  | f + 1, p, hp => by
    rw [p_ru]
    by_cases q : p_rg lo hi (p_mlk ta (nI t) (nI p)) = 0
    · rw [if_pos q]; exact ⟨Nat.le_refl _, hp⟩
    · rw [if_neg q]
      have : p < t := by
        rcases Nat.lt_or_ge p t with r | r
        · exact r
        · rw [p_mlk_o ht r (by omega), p_rg_m1 h] at q; exact absurd rfl q
      have r := p_ru_le ta lo hi h ht f (p + 1) (by omega)
      exact ⟨by omega, r.2⟩
def p_nxU (ta s : Nat → Int32) : Nat := p_ru ta (s 15) 32 32 161 (s 16).toNatClampNeg
def p_nx3 (s : Nat → Int32) (p u : Nat) (k : Int32) : Nat → Int32 := upd (upd (upd s 16 (nI p)) 17 (nI u)) 18 k
def q_nx1 (ta s : Nat → Int32) (u : Nat) : Nat → Int32 := fun j =>
  if p_mlk ta (s 15) (nI u) < 0 then p_nx3 s u u 0 j
  else if p_rg 97 122 (p_mlk ta (s 15) (nI u)) = 0 then
    (if p_rg 48 57 (p_mlk ta (s 15) (nI u)) = 0 then upd (q_mmust (p_nx3 s u u 3) (if p_mlk ta (s 15) (nI u) = 59 then 1 else 0) 1) 16 (nI (u + 1)) j
     else q_mmust (upd (p_nx3 s (p_ru ta (s 15) 48 57 161 u) u 2) 19 (p_mv ta (s 15) u (p_ru ta (s 15) 48 57 161 u - u))) (if 2 < p_ru ta (s 15) 48 57 161 u - u then 0 else 1) 1 j)
  else p_nx3 s (p_ru ta (s 15) 97 122 161 u) u 1 j
def q_nx (ta s : Nat → Int32) : Nat → Int32 := fun j => if 0 < s 20 then s j else q_nx1 ta s (p_nxU ta s) j
theorem p_rg_1 (c k : Int32) : p_rg k k c = 0 ↔ ¬ c = k := by
  unfold p_rg
  by_cases h : c < k
  · rw [if_pos h]
    exact ⟨fun _ q => by rw [q] at h; exact absurd h (Int32.lt_irrefl _), fun _ => rfl⟩
  · rw [if_neg h]
    by_cases h2 : k < c
    · rw [if_pos h2]
      exact ⟨fun _ q => by rw [q] at h2; exact absurd h2 (Int32.lt_irrefl _), fun _ => rfl⟩
    · rw [if_neg h2]
      refine ⟨fun q => absurd q (by decide), fun q => absurd ?_ q⟩
      rw [Int32.lt_iff_toInt_lt] at h h2
      exact Int32.toInt_inj.mp (by omega)
def c_X6_next : sCtr := ((yX6_next, cX6_next, 2, none), (7, 0, 1, 25), false,
  mdfp,
  fun vs L => ∃ (s : Nat → Int32) (A : Nat → Nat → Int32) (p t : Nat), vs = [.ref 0] ∧ L = mdW s A ∧ s 16 = nI p ∧ p ≤ t ∧ s 15 = nI t ∧ t ≤ 160,
  fun _ L r L' => r = none ∧ L' = mdW (q_nx (bF L 8) (oI L 0)) (bF L))
theorem sta_X6_next : s_Sta c_X6_next := ⟨⟨by decide +kernel, by decide +kernel, by decide +kernel⟩, List.mem_of_getElem? (i := 935) (by decide +kernel), List.mem_of_getElem? (i := 70) (by decide +kernel), ⟨List.mem_of_getElem? (i := 934) (by decide +kernel), List.mem_of_getElem? (i := 29) (by decide +kernel), Or.inl ⟨_, rfl, rfl⟩⟩⟩

def k_X6_next : List sBk := [
  (0, false, [true, false], [o0 0 (.aload_n 0), oN 1 (.getfield 97) [6, 20, 842], oN 4 (.ifCond .le 4) [1], o0 7 .return_]),
  (8, true, [true, false], [o0 8 (.aload_n 0), o0 9 (.aload_n 0), oN 10 (.getfield 106) [6, 16, 838], oC 13 (.invokevirtual 109) [936] c_X6_look, oK 16 (.bipush 32) (.int 32), oN 18 (.if_icmp .ne 16) [2], o0 21 (.aload_n 0), o0 22 .dup, oN 23 (.getfield 106) [6, 16, 838], oK 26 (.iconst 1) (.int 1), o0 27 .iadd, oN 28 (.putfield 106) [6, 16, 838], oN 31 (.goto (-23)) [1]]),
  (34, false, [true, false], [o0 34 (.aload_n 0), o0 35 (.aload_n 0), oN 36 (.getfield 106) [6, 16, 838], oN 39 (.putfield 100) [6, 17, 839], o0 42 (.aload_n 0), o0 43 (.aload_n 0), oN 44 (.getfield 106) [6, 16, 838], oC 47 (.invokevirtual 109) [936] c_X6_look, o0 50 (.istore_n 1), o0 51 (.iload_n 1), oN 52 (.ifCond .ge 11) [3], o0 55 (.aload_n 0), oK 56 (.iconst 0) (.int 0), oN 57 (.putfield 121) [6, 18, 840], oN 60 (.goto 214) [15]]),
  (63, false, [true, true], [o0 63 (.iload_n 1), o0 64 .i2l, oV 65 (.ldc2_w 124) [940] (.long 97), oV 68 (.ldc2_w 126) [941] (.long 122), oC 71 (.invokestatic 90) [921] c_X6_in, oN 74 (.ifCond .eq 42) [5], o0 77 (.aload_n 0), oK 78 (.iconst 1) (.int 1), oN 79 (.putfield 121) [6, 18, 840], oN 82 .nop [4]]),
  (82, true, [true, false], [o0 82 (.aload_n 0), o0 83 (.aload_n 0), oN 84 (.getfield 106) [6, 16, 838], oC 87 (.invokevirtual 109) [936] c_X6_look, o0 90 .i2l, oV 91 (.ldc2_w 124) [940] (.long 97), oV 94 (.ldc2_w 126) [941] (.long 122), oC 97 (.invokestatic 90) [921] c_X6_in, oN 100 (.ifCond .eq 174) [15], o0 103 (.aload_n 0), o0 104 .dup, oN 105 (.getfield 106) [6, 16, 838], oK 108 (.iconst 1) (.int 1), o0 109 .iadd, oN 110 (.putfield 106) [6, 16, 838], oN 113 (.goto (-31)) [4]]),
  (116, false, [true, true], [o0 116 (.iload_n 1), o0 117 .i2l, oV 118 (.ldc2_w 128) [942] (.long 48), oV 121 (.ldc2_w 130) [943] (.long 57), oC 124 (.invokestatic 90) [921] c_X6_in, oN 127 (.ifCond .eq 116) [12], o0 130 (.aload_n 0), oK 131 (.iconst 2) (.int 2), oN 132 (.putfield 121) [6, 18, 840], o0 135 (.aload_n 0), oK 136 (.iconst 0) (.int 0), oN 137 (.putfield 132) [6, 19, 841], oN 140 .nop [6]]),
  (140, true, [true, false], [o0 140 (.aload_n 0), o0 141 (.aload_n 0), oN 142 (.getfield 106) [6, 16, 838], oC 145 (.invokevirtual 109) [936] c_X6_look, o0 148 .i2l, oV 149 (.ldc2_w 128) [942] (.long 48), oV 152 (.ldc2_w 130) [943] (.long 57), oC 155 (.invokestatic 90) [921] c_X6_in, oN 158 (.ifCond .eq 59) [9], o0 161 (.aload_n 0), o0 162 (.aload_n 0), oN 163 (.getfield 106) [6, 16, 838], o0 166 (.aload_n 0), oN 167 (.getfield 100) [6, 17, 839], o0 170 .isub, oK 171 (.iconst 2) (.int 2), oN 172 (.if_icmp .ge 25) [7], oK 175 (.bipush 10) (.int 10), o0 177 (.aload_n 0), oN 178 (.getfield 132) [6, 19, 841], o0 181 .imul, o0 182 (.aload_n 0), o0 183 (.aload_n 0), oN 184 (.getfield 106) [6, 16, 838], oC 187 (.invokevirtual 109) [936] c_X6_look, o0 190 .iadd, oK 191 (.bipush 48) (.int 48), o0 193 .isub, oN 194 (.goto 7) [8]]),
  (197, false, [true, false], [o0 197 (.aload_n 0), oN 198 (.getfield 132) [6, 19, 841], oN 201 .nop [8]]),
  (201, false, [true, false], [oN 201 (.putfield 132) [6, 19, 841], o0 204 (.aload_n 0), o0 205 .dup, oN 206 (.getfield 106) [6, 16, 838], oK 209 (.iconst 1) (.int 1), o0 210 .iadd, oN 211 (.putfield 106) [6, 16, 838], oN 214 (.goto (-74)) [6]]),
  (217, false, [true, false], [o0 217 (.aload_n 0), o0 218 (.aload_n 0), oN 219 (.getfield 106) [6, 16, 838], o0 222 (.aload_n 0), oN 223 (.getfield 100) [6, 17, 839], o0 226 .isub, oK 227 (.iconst 2) (.int 2), oN 228 (.if_icmp .gt 7) [10], oK 231 (.iconst 1) (.int 1), oN 232 (.goto 4) [11]]),
  (235, false, [false, false], [oK 235 (.iconst 0) (.int 0), oN 236 .nop [11]]),
  (236, false, [false, false], [oK 236 (.iconst 1) (.int 1), oC 237 (.invokevirtual 135) [944] c_X6_must, oN 240 (.goto 34) [15]]),
  (243, false, [true, true], [o0 243 (.aload_n 0), oK 244 (.iconst 3) (.int 3), oN 245 (.putfield 121) [6, 18, 840], o0 248 (.aload_n 0), o0 249 (.iload_n 1), oK 250 (.bipush 59) (.int 59), oN 252 (.if_icmp .ne 7) [13], oK 255 (.iconst 1) (.int 1), oN 256 (.goto 4) [14]]),
  (259, false, [true, false], [oK 259 (.iconst 0) (.int 0), oN 260 .nop [14]]),
  (260, false, [true, false], [oK 260 (.iconst 1) (.int 1), oC 261 (.invokevirtual 135) [944] c_X6_must, o0 264 (.aload_n 0), o0 265 .dup, oN 266 (.getfield 106) [6, 16, 838], oK 269 (.iconst 1) (.int 1), o0 270 .iadd, oN 271 (.putfield 106) [6, 16, 838], oN 274 .nop [15]]),
  (274, false, [false, false], [o0 274 .return_])]
set_option maxRecDepth 100000 in
theorem ck_X6_next : s_ck RX6 cX6_next 2 1 25 k_X6_next = true := by decide +kernel

set_option maxRecDepth 100000 in
set_option maxHeartbeats 1000000 in
theorem ok_X6_next : s_Ok c_X6_next := by
  refine s_ok_of k_X6_next (by decide +kernel) sta_X6_next ck_X6_next (And.intro ok_X6_look (And.intro ok_X6_look (And.intro ok_X6_in (And.intro ok_X6_look (And.intro ok_X6_in (And.intro ok_X6_in (And.intro ok_X6_look (And.intro ok_X6_in (And.intro ok_X6_look (And.intro ok_X6_must (And.intro ok_X6_must trivial))))))))))) ?_
  rintro vs L ⟨s, A, p0, t, rfl, rfl, hp, hpt, ht, ht2⟩
  refine ⟨rfl, fun G hG => ?_⟩
  have fin : ∀ f : Nat → Int32, q_nx (A 8) s = f → s_PP none false c_X6_next.2.2.2.2.2 [.ref 0] (mdW s A) none (mdW f A) := fun f hf => ⟨rfl, ⟨rfl, by rw [← hf]; rfl⟩, fun h => by cases h⟩
  refine hG 0 _ _ _ (And.intro (fun h => ?_) (fun h => ?_))
  · have h : 0 < s 20 := h
    exact fin s (by funext j; rw [q_nx, if_pos h])
  have h : ¬ 0 < s 20 := h
  have hU : p_nxU (A 8) s = p_ru (A 8) (nI t) 32 32 161 p0 := by rw [p_nxU, hp, ht, nI_clamp (by omega)]
  have hut := p_ru_le (A 8) (t := t) 32 32 (by decide) ht2 161 p0 hpt
  have fin1 : ∀ f : Nat → Int32, q_nx1 (A 8) s (p_ru (A 8) (nI t) 32 32 161 p0) = f → s_PP none false c_X6_next.2.2.2.2.2 [.ref 0] (mdW s A) none (mdW f A) := fun f hf => fin f (by rw [← hf, ← hU]; funext j; rw [q_nx, if_neg h])
  obtain ⟨u, hu⟩ : ∃ u, u = p_ru (A 8) (nI t) 32 32 161 p0 := ⟨_, rfl⟩
  rw [← hu] at fin1 hut
  have loop4 : ∀ (f p : Nat), p ≤ t → t < f + p → p_ru (A 8) (nI t) 97 122 f p = p_ru (A 8) (nI t) 97 122 161 u → ¬ p_mlk (A 8) (s 15) (nI u) < 0 → ¬ p_rg 97 122 (p_mlk (A 8) (s 15) (nI u)) = 0 → G 4 [some (.ref 0), none] [] (mdW (p_nx3 s p u 1) A) := by
    intro f
    induction f with
    | zero => intro p hpt hf; omega
    | succ f ih =>
      intro p hpt hf hq h1 h2
      refine hG 4 _ _ _ (And.intro ⟨p_nx3 s p u 1, A, _, p, t, rfl, rfl, rfl, by omega, ht, ht2⟩ ?_)
      intro r hr
      obtain ⟨c, hc⟩ : ∃ c, c = p_mlk (A 8) (nI t) (nI p) := ⟨_, rfl⟩
      obtain rfl : r = some (.int c) := by rw [hc, ← ht]; exact hr
      refine And.intro ⟨_, _, _, rfl⟩ ?_
      intro r hr
      obtain ⟨g, hg⟩ : ∃ g, g = p_rg 97 122 c := ⟨_, rfl⟩
      obtain rfl : r = some (.int g) := by rw [hg, p_rg, ← p_in64_i]; exact hr
      refine And.intro (fun h3 => ?_) (fun h3 => ?_)
      · have h3 : g = 0 := h3
        exact fin1 _ (by
          funext j
          rw [q_nx1, if_neg h1, if_neg h2, ht, ← hq, p_ru, ← hc, ← hg, if_pos h3])
      · have h3 : ¬ g = 0 := h3
        have hlt : p < t := by
          rcases Nat.lt_or_ge p t with r | r
          · exact r
          · rw [hg, hc, p_mlk_o ht2 r (by omega)] at h3; exact absurd (p_rg_m1 (by decide)) h3
        have k := ih (p + 1) (by omega) (by omega) (by rw [← hq, p_ru, ← hc, ← hg, if_neg h3]) h1 h2
        have e : nI p + 1 = nI (p + 1) := nI_1 p
        refine (?_ : G 4 [some (.ref 0), none] [] (mdW (upd (p_nx3 s p u 1) 16 (nI p + 1)) A))
        rw [e]
        exact k
  sorry

/-! ===== WishClerkModel: the draft is kept ===== -/
def q_cpf (f g : Nat → Int32) (n : Nat) : Nat → Int32 := fun j => if j < n then g j else f j
theorem q_cpf0 (f g : Nat → Int32) : q_cpf f g 0 = f := by
  funext j
  rw [q_cpf, if_neg (by omega)]
theorem q_cpfS (f g : Nat → Int32) (i : Nat) : upd (q_cpf f g i) i (g i) = q_cpf f g (i + 1) := by
  funext j
  rw [upd]
  by_cases hj : j = i
  · rw [if_pos hj, q_cpf, if_pos (by omega), hj]
  · rw [if_neg hj]
    unfold q_cpf
    by_cases h2 : j < i
    · rw [if_pos h2, if_pos (by omega)]
    · rw [if_neg h2, if_neg (by omega)]
def q_kdS (s : Nat → Int32) : Nat → Int32 := upd (upd s 2 (s 7)) 3 (s 8)
def q_kd (A : Nat → Nat → Int32) (n : Nat) : Nat → Nat → Int32 := va_up (va_up (va_up (va_up A 1 (q_cpf (A 1) (A 5) 53)) 3 (q_cpf (A 3) (A 6) n)) 4 (q_cpf (A 4) (A 7) n)) 2 (upd (upd (A 2) 0 0) 1 0)
def c_X6_keepDraft : sCtr := ((yX6_keepDraft, cX6_keepDraft, 2, none), (7, 0, 0, 0), false,
  mdfp,
  fun vs L => ∃ (s : Nat → Int32) (A : Nat → Nat → Int32) (n : Nat), vs = [.ref 0] ∧ L = mdW s A ∧ s 8 = nI n ∧ n ≤ 8,
  fun _ L r L' => r = none ∧ L' = mdW (q_kdS (oI L 0)) (q_kd (bF L) (oI L 0 8).toNatClampNeg))
theorem sta_X6_keepDraft : s_Sta c_X6_keepDraft := ⟨⟨by decide +kernel, by decide +kernel, by decide +kernel⟩, List.mem_of_getElem? (i := 821) (by decide +kernel), List.mem_of_getElem? (i := 70) (by decide +kernel), ⟨List.mem_of_getElem? (i := 820) (by decide +kernel), List.mem_of_getElem? (i := 28) (by decide +kernel), Or.inl ⟨_, rfl, rfl⟩⟩⟩

def k_X6_keepDraft : List sBk := [
  (0, false, [true, false], [oK 0 (.iconst 0) (.int 0), o0 1 (.istore_n 1), oN 2 .nop [1]]),
  (2, true, [true, true], [o0 2 (.iload_n 1), oK 3 (.bipush 53) (.int 53), oN 5 (.if_icmp .ge 21) [2], o0 8 (.aload_n 0), oN 9 (.getfield 7) [6, 0, 822], o0 12 (.iload_n 1), o0 13 (.aload_n 0), oN 14 (.getfield 23) [6, 6, 828], o0 17 (.iload_n 1), o0 18 .iaload, o0 19 .iastore, oK 20 (.iinc 1 1) (.int 1), oN 23 (.goto (-21)) [1]]),
  (26, false, [true, false], [o0 26 (.aload_n 0), o0 27 (.aload_n 0), oN 28 (.getfield 65) [6, 7, 829], oN 31 (.putfield 82) [6, 2, 824], o0 34 (.aload_n 0), o0 35 (.aload_n 0), oN 36 (.getfield 69) [6, 8, 830], oN 39 (.putfield 85) [6, 3, 825], oK 42 (.iconst 0) (.int 0), o0 43 (.istore_n 1), oN 44 .nop [3]]),
  (44, true, [true, true], [o0 44 (.iload_n 1), o0 45 (.aload_n 0), oN 46 (.getfield 85) [6, 3, 825], oN 49 (.if_icmp .ge 33) [4], o0 52 (.aload_n 0), oN 53 (.getfield 17) [6, 4, 826], o0 56 (.iload_n 1), o0 57 (.aload_n 0), oN 58 (.getfield 26) [6, 9, 831], o0 61 (.iload_n 1), o0 62 .iaload, o0 63 .iastore, o0 64 (.aload_n 0), oN 65 (.getfield 20) [6, 5, 827], o0 68 (.iload_n 1), o0 69 (.aload_n 0), oN 70 (.getfield 29) [6, 10, 832], o0 73 (.iload_n 1), o0 74 .iaload, o0 75 .iastore, oK 76 (.iinc 1 1) (.int 1), oN 79 (.goto (-35)) [3]]),
  (82, false, [true, false], [o0 82 (.aload_n 0), oN 83 (.getfield 13) [6, 1, 823], oK 86 (.iconst 0) (.int 0), oK 87 (.iconst 0) (.int 0), o0 88 .bastore, o0 89 (.aload_n 0), oN 90 (.getfield 13) [6, 1, 823], oK 93 (.iconst 1) (.int 1), oK 94 (.iconst 0) (.int 0), o0 95 .bastore, o0 96 .return_])]
set_option maxRecDepth 100000 in
theorem ck_X6_keepDraft : s_ck RX6 cX6_keepDraft 2 0 0 k_X6_keepDraft = true := by decide +kernel

set_option maxRecDepth 100000 in
set_option maxHeartbeats 1000000 in
theorem ok_X6_keepDraft : s_Ok c_X6_keepDraft := by
  refine s_ok_of k_X6_keepDraft (by decide +kernel) sta_X6_keepDraft ck_X6_keepDraft trivial ?_
  rintro vs L ⟨s, A, n, rfl, rfl, hn, hn8⟩
  refine ⟨rfl, fun G hG => ?_⟩
  have en : (s 8).toNatClampNeg = n := by rw [hn, nI_clamp (by omega)]
  obtain ⟨B, hB⟩ : ∃ B, B = va_up A 1 (q_cpf (A 1) (A 5) 53) := ⟨_, rfl⟩
  have l3 : ∀ (k i : Nat) (x : Int32) (f g : Nat → Int32), i + k = n → x = nI i → f = q_cpf (A 3) (A 6) i → g = q_cpf (A 4) (A 7) i → G 3 [some (.ref 0), some (.int x)] [] (mdW (q_kdS s) (va_up (va_up (va_up A 1 (q_cpf (A 1) (A 5) 53)) 3 f) 4 g)) := by
    intro k
    induction k with
    | zero =>
      intro i x f g hi hx hf hg
      refine hG 3 _ _ _ (And.intro (fun q => ?_) (fun q => ?_))
      · have q : x < s 8 := q
        rw [hx, hn, nI_ltI (by omega) (by omega)] at q; omega
      · refine And.intro (vp_in_nI (n := 0) (N := 2) (by decide) (by decide)) (And.intro (vp_in_nI (n := 1) (N := 2) (by decide) (by decide)) ⟨rfl, ⟨rfl, ?_⟩, fun h => by cases h⟩)
        show mdW (q_kdS s) (va_up (va_up (va_up (va_up A 1 (q_cpf (A 1) (A 5) 53)) 3 f) 4 g) 2 (upd (upd (A 2) 0 0) 1 0)) = mdW (q_kdS s) (q_kd A (s 8).toNatClampNeg)
        rw [q_kd, en, hf, hg, show i = n by omega]
    | succ k ih =>
      intro i x f g hi hx hf hg
      have hin : vp_in x 8 := by rw [hx]; exact vp_in_nI (by omega) (by omega)
      have hxc : x.toNatClampNeg = i := by rw [hx, nI_clamp (by omega)]
      refine hG 3 _ _ _ (And.intro (fun q => ?_) (fun q => ?_))
      · refine And.intro hin (And.intro hin (And.intro hin (And.intro hin ?_)))
        exact ih (i + 1) _ (upd f x.toNatClampNeg (A 6 x.toNatClampNeg)) (upd g x.toNatClampNeg (A 7 x.toNatClampNeg)) (by omega) (by rw [hx, nI_1]) (by rw [hxc, hf, q_cpfS]) (by rw [hxc, hg, q_cpfS])
      · have q : ¬ x < s 8 := q
        rw [hx, hn, nI_ltI (by omega) (by omega)] at q; omega
  have l1 : ∀ (k i : Nat) (x : Int32) (f : Nat → Int32), i + k = 53 → x = nI i → f = q_cpf (A 1) (A 5) i → G 1 [some (.ref 0), some (.int x)] [] (mdW s (va_up A 1 f)) := by
    intro k
    induction k with
    | zero =>
      intro i x f hi hx hf
      refine hG 1 _ _ _ (And.intro (fun q => ?_) (fun q => ?_))
      · rw [hx, show (53 : Int32) = nI 53 from rfl, nI_ltI (by omega) (by omega)] at q; omega
      · rw [show f = q_cpf (A 1) (A 5) 53 by rw [hf, show i = 53 by omega]]
        exact l3 n 0 0 (A 3) (A 4) (by omega) nI_0.symm (q_cpf0 _ _).symm (q_cpf0 _ _).symm
    | succ k ih =>
      intro i x f hi hx hf
      have hxc : x.toNatClampNeg = i := by rw [hx, nI_clamp (by omega)]
      refine hG 1 _ _ _ (And.intro (fun q => ?_) (fun q => ?_))
      · refine And.intro ?_ (And.intro ?_ ?_)
        · show vp_in x 53
          rw [hx]; exact vp_in_nI (by omega) (by omega)
        · show vp_in x 159
          rw [hx]; exact vi159 _ (by omega)
        · exact ih (i + 1) _ (upd f x.toNatClampNeg (A 5 x.toNatClampNeg)) (by omega) (by rw [hx, nI_1]) (by rw [hxc, hf, q_cpfS])
      · rw [hx, show (53 : Int32) = nI 53 from rfl, nI_ltI (by omega) (by omega)] at q; omega
  have l := l1 53 0 0 (A 1) (by omega) nI_0.symm (q_cpf0 _ _).symm
  rw [va_up1] at l
  exact hG 0 _ _ _ l

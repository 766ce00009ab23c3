/-! ===== WishClerkModel: the draft ===== -/
def q_fd (s : Nat → Int32) : Nat → Int32 := upd (upd (upd (upd (upd s 7 0) 8 0) 11 0) 12 (-4)) 13 (-4)
def c_X6_firstDraft : sCtr := ((yX6_firstDraft, cX6_firstDraft, 2, none), (7, 0, 0, 0), false,
  mdfp,
  fun vs L => ∃ (s : Nat → Int32) (A : Nat → Nat → Int32), vs = [.ref 0] ∧ L = mdW s A,
  fun _ L r L' => r = none ∧ L' = mdW (q_fd (oI L 0)) (va_up (bF L) 5 (q_zk (bF L 5) 0 53)))
theorem sta_X6_firstDraft : s_Sta c_X6_firstDraft := ⟨⟨by decide +kernel, by decide +kernel, by decide +kernel⟩, List.mem_of_getElem? (i := 817) (by decide +kernel), List.mem_of_getElem? (i := 70) (by decide +kernel), ⟨List.mem_of_getElem? (i := 816) (by decide +kernel), List.mem_of_getElem? (i := 27) (by decide +kernel), Or.inl ⟨_, rfl, rfl⟩⟩⟩

def k_X6_firstDraft : List sBk := [
  (0, false, [true, false], [oK 0 (.iconst 0) (.int 0), o0 1 (.istore_n 1), oN 2 .nop [1]]),
  (2, true, [true, true], [o0 2 (.iload_n 1), oK 3 (.bipush 53) (.int 53), oN 5 (.if_icmp .ge 16) [2], o0 8 (.aload_n 0), oN 9 (.getfield 23) [6, 6, 828], o0 12 (.iload_n 1), oK 13 (.iconst 0) (.int 0), o0 14 .iastore, oK 15 (.iinc 1 1) (.int 1), oN 18 (.goto (-16)) [1]]),
  (21, false, [true, false], [o0 21 (.aload_n 0), oK 22 (.iconst 0) (.int 0), oN 23 (.putfield 65) [6, 7, 829], o0 26 (.aload_n 0), oK 27 (.iconst 0) (.int 0), oN 28 (.putfield 69) [6, 8, 830], o0 31 (.aload_n 0), oK 32 (.iconst 0) (.int 0), oN 33 (.putfield 72) [6, 11, 833], o0 36 (.aload_n 0), oK 37 (.bipush (-4)) (.int (-4)), oN 39 (.putfield 76) [6, 12, 834], o0 42 (.aload_n 0), oK 43 (.bipush (-4)) (.int (-4)), oN 45 (.putfield 79) [6, 13, 835], o0 48 .return_])]
set_option maxRecDepth 100000 in
theorem ck_X6_firstDraft : s_ck RX6 cX6_firstDraft 2 0 0 k_X6_firstDraft = true := by decide +kernel

set_option maxRecDepth 100000 in
set_option maxHeartbeats 1000000 in
theorem ok_X6_firstDraft : s_Ok c_X6_firstDraft := by
  refine s_ok_of k_X6_firstDraft (by decide +kernel) sta_X6_firstDraft ck_X6_firstDraft trivial ?_
  rintro vs L ⟨s, A, rfl, rfl⟩
  refine ⟨rfl, fun G hG => ?_⟩
  have loop : ∀ (k i : Nat) (x : Int32) (f : Nat → Int32), i + k = 53 → x = nI i → f = q_zk (A 5) 0 i → G 1 [some (.ref 0), some (.int x)] [] (mdW s (va_up A 5 f)) := by
    intro k
    induction k with
    | zero =>
      intro i x f hi hx hf
      refine hG 1 _ _ _ (And.intro (fun q => ?_) (fun q => ?_))
      · rw [hx, show (53 : Int32) = nI 53 from rfl, nI_ltI (by omega) (by omega)] at q; omega
      · refine And.intro (Or.inl rfl) ⟨rfl, ⟨rfl, ?_⟩, fun h => by cases h⟩
        show mdW (q_fd s) (va_up A 5 f) = mdW (q_fd s) (va_up A 5 (q_zk (A 5) 0 53))
        rw [hf, show i = 53 by omega]
    | succ k ih =>
      intro i x f hi hx hf
      refine hG 1 _ _ _ (And.intro (fun q => ?_) (fun q => ?_))
      · refine And.intro ?_ ?_
        · show vp_in x 53
          rw [hx]; exact vp_in_nI (by omega) (by omega)
        · exact ih (i + 1) _ (upd f x.toNatClampNeg 0) (by omega) (by rw [hx, nI_1]) (by rw [hx, nI_clamp (by omega), hf, ← q_zkS, Nat.zero_add])
      · rw [hx, show (53 : Int32) = nI 53 from rfl, nI_ltI (by omega) (by omega)] at q; omega
  have l := loop 53 0 0 (A 5) (by omega) nI_0.symm (q_zk0 _ _).symm
  rw [va_upI] at l
  exact hG 0 _ _ _ l

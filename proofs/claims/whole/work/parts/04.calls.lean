/-! ===== contracts of the small machine, and the call ===== -/
def gT : List Cond := lw_tbl.filter goodWord
theorem gT_in {w : Cond} (h : w ∈ gT) : w ∈ lw_tbl ∧ goodWord w = true := List.mem_filter.mp h
theorem gT_of {w : Cond} (h : w ∈ lw_tbl) (hg : goodWord w = true) : w ∈ gT := List.mem_filter.mpr ⟨h, hg⟩
def s_nests : List (String × Nat × MethodName) := [("WishClerk$Book", 88, yX5_hasBit), ("WishClerk$Reader", 144, yX5_withBit), ("WishClerk$Reader", 171, yX5_hasBit), ("WishClerk$Rows", 59, yX5_hasBit)]
def s_lit : List (Nat × String) := [(96, "one"), (105, "wish"), (110, "needs"), (115, "clash"), (120, "list"), (125, "depth"), (130, "plan"), (135, "alive"), (137, "barred"), (139, "dead")]
def s_len : List Nat := [3, 4, 5, 5, 4, 5, 4, 5, 6, 4]
def s_byt : List (List Int32) := [[111, 110, 101], [119, 105, 115, 104], [110, 101, 101, 100, 115], [99, 108, 97, 115, 104], [108, 105, 115, 116], [100, 101, 112, 116, 104], [112, 108, 97, 110], [97, 108, 105, 118, 101], [98, 97, 114, 114, 101, 100], [100, 101, 97, 100]]
def s_stz (A : Nat → Prop) (U : State) (H : Heap) : Prop := va_Z "java/lang/String" "COMPACT_STRINGS" "Z" (.int 1) A U H ∧ va_Zq "jdk/internal/util/Preconditions" "SIOOBE_FORMATTER" "Ljava/util/function/BiFunction;" A U H
def s_str (ad : Nat → Nat) (A : Nat → Prop) (U : State) (H : Heap) : Prop := ∃ adV : Nat → Nat, vk_S 10 s_len s_byt (fun i => ad (500 + i)) adV A U H ∧ (∀ (i : Nat) (q : Nat × String), s_lit[i]? = some q → vk_R "WishClerk$Reader" q.1 q.2 (ad (500 + i)) U) ∧ s_stz A U H
def s_nst (U : State) : Prop := ∀ q ∈ s_nests, va_Nw (.methodLinkNest q.1 q.2.1 q.2.2 "WishClerk") U
def s_Pc (D : va_G) (cy : Nat → ClassId) (ad : Nat → Nat) (sz : Nat) (vs : sS) (L : sH) : Array Value → State → Prop := fun av U =>
  av = (vs.map (s_rv ad)).toArray ∧ U.heap.size = sz ∧ va_P D vwCl (s_rl cy ad L) U.heap ∧ va_K D vwCl (s_tys cy) U ∧ va_D (fun _ => True) (s_rl cy ad L) ∧ s_nst U ∧ s_str ad (va_A (s_rl cy ad L) sz) U U.heap
def s_Qc (D : va_G) (cy : Nat → ClassId) (ad : Nat → Nat) (sz : Nat) (vs : sS) (L : sH) (ro : Bool) (post : sS → sH → sP) : Array Value → State → Outcome → State → Prop := fun _ st oc t =>
  (∃ (r : Option Value) (L' : sH), oc = .returned (r.map (s_rv ad)) ∧ (post vs L r L' ∧ (ro = true → L' = L)) ∧ L'.length = L.length ∧ va_P D vwCl (s_rl cy ad L') t.heap) ∧ va_F (va_A (s_rl cy ad L) sz) st t
def s_words (y : MethodName) (b : ByteArray) (n : Nat) (r : Option FieldType) : List Cond := .code y b n r :: gT
/-- what the tables say of a method -/
def s_Sta : sCtr → Prop
  | ((y, b, n, r), (kd, np, _, _), _) => (y.cls ≠ "java/lang/invoke/MethodHandle" ∧ y.cls ≠ "java/lang/invoke/VarHandle" ∧ (parseMethodDescriptor y.desc).map (fun d => d.parameters.length) = some np) ∧ Cond.code y b n r ∈ lw_tbl ∧ Cond.initialized y.cls ∈ lw_tbl ∧
    match kd with
    | 0 => Cond.static y ∈ lw_tbl
    | ci + 1 => Cond.instanceMethod y ∈ lw_tbl ∧ Cond.selects y.cls y y ∈ lw_tbl ∧ ((∃ q, vwCl[ci]? = some q ∧ q.1 = y.cls) ∨ (ci = 99 ∧ y.cls = "java/lang/String"))
def s_Ok : sCtr → Prop
  | ((y, b, n, r), (kd, np, fr, lo), ro, fp, pre, post) => s_Sta ((y, b, n, r), (kd, np, fr, lo), ro, fp, pre, post) ∧
    ∀ (l : Launch) (D : va_G) (cy : Nat → ClassId) (ad : Nat → Nat) (sz : Nat) (vs : sS) (L : sH), pre vs L → Met l y (s_words y b n r) { frames := fr, cells := 0, slots := 0, locals := lo } (s_Pc D cy ad sz vs L) (s_Qc D cy ad sz vs L ro post) 0 0 (va_A (s_rl cy ad L) sz)
theorem s_inc_lt : ∀ (fp : List Nat), s_inc fp = true → ∀ (i j a b : Nat), i < j → fp[i]? = some a → fp[j]? = some b → a < b
  | [], _, i, j, a, b, _, h, _ => by simp at h
  | [x], _, i, j, a, b, hij, _, h => by
    cases j with
    | zero => omega
    | succ j => simp at h
  | x :: y :: r, h, i, j, a, b, hij, h1, h2 => by
    unfold s_inc at h
    cases hb : Nat.blt x y with
    | false => rw [hb] at h; cases h
    | true =>
      rw [hb] at h
      have hxy : x < y := Nat.blt_eq.mp hb
      cases j with
      | zero => omega
      | succ j =>
        rw [List.getElem?_cons_succ] at h2
        cases i with
        | zero =>
          rw [List.getElem?_cons_zero] at h1
          cases h1
          cases j with
          | zero => rw [List.getElem?_cons_zero] at h2; cases h2; exact hxy
          | succ j => exact Nat.lt_trans hxy (s_inc_lt (y :: r) h 0 (j + 1) y b (by omega) rfl h2)
        | succ i => exact s_inc_lt (y :: r) h i j a b (by omega) h1 h2
theorem s_nin_ne : ∀ (r : List Nat) (a : Nat), s_nin a r = true → a ∉ r
  | [], a, _ => List.not_mem_nil
  | b :: r, a, h => by
    unfold s_nin at h
    cases hb : Nat.beq a b with
    | true => rw [hb] at h; cases h
    | false =>
      rw [hb] at h
      intro hm
      rcases List.mem_cons.mp hm with e | e
      · exact absurd hb (by rw [e, Nat.beq_refl]; exact fun z => by cases z)
      · exact s_nin_ne r a h e
theorem s_nd_nd : ∀ (r : List Nat), s_nd r = true → va_nd r = true
  | [], _ => rfl
  | a :: r, h => by
    unfold s_nd at h
    cases hb : s_nin a r with
    | false => rw [hb] at h; cases h
    | true =>
      rw [hb] at h
      simp only [va_nd, Bool.and_eq_true, decide_eq_true_eq]
      exact ⟨s_nin_ne r a hb, s_nd_nd r h⟩
theorem s_all_lt : ∀ (r : List Nat) (n : Nat), s_all n r = true → ∀ a ∈ r, a < n
  | [], n, _, a, h => absurd h List.not_mem_nil
  | b :: r, n, h, a, hm => by
    unfold s_all at h
    cases hb : Nat.blt b n with
    | false => rw [hb] at h; cases h
    | true =>
      rw [hb] at h
      rcases List.mem_cons.mp hm with e | e
      · rw [e]; exact Nat.blt_eq.mp hb
      · exact s_all_lt r n h a e
theorem s_fpk_spec {fp : List Nat} {n : Nat} (h : s_fpk fp n = true) : (∀ (i j a : Nat), fp[i]? = some a → fp[j]? = some a → i = j) ∧ ∀ a ∈ fp, a < n := by
  unfold s_fpk at h
  cases hi : s_inc fp with
  | true =>
    rw [hi] at h
    refine ⟨fun i j a h1 h2 => ?_, s_all_lt fp n h⟩
    rcases Nat.lt_trichotomy i j with q | q | q
    · exact absurd (s_inc_lt fp hi i j a a q h1 h2) (Nat.lt_irrefl a)
    · exact q
    · exact absurd (s_inc_lt fp hi j i a a q h2 h1) (Nat.lt_irrefl a)
  | false =>
    rw [hi] at h
    cases hn : s_nd fp with
    | false => rw [hn] at h; cases h
    | true =>
      rw [hn] at h
      exact ⟨va_nd_inj fp (s_nd_nd fp hn), s_all_lt fp n h⟩
theorem s_sub_at (fp0 : List Nat) (L : sH) : ∀ (fp : List Nat), (∀ a ∈ fp, a < L.length) → (s_sub fp0 L fp).length = fp.length ∧ ∀ (j a : Nat), fp[j]? = some a → ∃ c, L[a]? = some c ∧ (s_sub fp0 L fp)[j]? = some (s_mc (s_rho fp0) c)
  | [], _ => ⟨rfl, fun j a h => by simp at h⟩
  | b :: r, h => by
    have hb : b < L.length := h b List.mem_cons_self
    obtain ⟨h1, h2⟩ := s_sub_at fp0 L r (fun a ha => h a (List.mem_cons_of_mem _ ha))
    have he : s_sub fp0 L (b :: r) = s_mc (s_rho fp0) L[b] :: s_sub fp0 L r := by
      show (match s_nth L b with
        | some c => s_mc (s_rho fp0) c :: s_sub fp0 L r
        | none => []) = _
      rw [s_nth_eq, List.getElem?_eq_getElem hb]
    rw [he]
    refine ⟨by simp [h1], fun j a hj => ?_⟩
    cases j with
    | zero =>
      rw [List.getElem?_cons_zero] at hj
      cases hj
      exact ⟨L[b], List.getElem?_eq_getElem hb, rfl⟩
    | succ j =>
      rw [List.getElem?_cons_succ] at hj ⊢
      exact h2 j a hj
theorem s_put_len (fp0 : List Nat) : ∀ (fp : List Nat) (cs L : sH), (s_put fp0 fp cs L).length = L.length
  | [], cs, L => by cases cs <;> rfl
  | a :: r, [], L => rfl
  | a :: r, c :: cs, L => by
    show (s_put fp0 r cs (s_set L a (s_mc (s_un fp0) c))).length = _
    rw [s_put_len fp0 r cs, s_set_eq, List.length_set]
theorem s_put_out (fp0 : List Nat) : ∀ (fp : List Nat) (cs L : sH) (i : Nat), i ∉ fp → (s_put fp0 fp cs L)[i]? = L[i]?
  | [], cs, L, i, _ => by cases cs <;> rfl
  | a :: r, [], L, i, _ => rfl
  | a :: r, c :: cs, L, i, h => by
    show (s_put fp0 r cs (s_set L a (s_mc (s_un fp0) c)))[i]? = _
    rw [s_put_out fp0 r cs _ i (fun q => h (List.mem_cons_of_mem _ q)), s_set_eq, List.getElem?_set_ne (fun q => h (by rw [q]; exact List.mem_cons_self))]
theorem s_put_in (fp0 : List Nat) : ∀ (fp : List Nat) (cs L : sH) (j a : Nat) (c : sC), (∀ (i j a : Nat), fp[i]? = some a → fp[j]? = some a → i = j) → (∀ a ∈ fp, a < L.length) → fp[j]? = some a → cs[j]? = some c → (s_put fp0 fp cs L)[a]? = some (s_mc (s_un fp0) c)
  | [], cs, L, j, a, c, _, _, h, _ => by simp at h
  | b :: r, [], L, j, a, c, _, _, _, h => by simp at h
  | b :: r, x :: cs, L, j, a, c, hi, hl, h1, h2 => by
    show (s_put fp0 r cs (s_set L b (s_mc (s_un fp0) x)))[a]? = _
    cases j with
    | zero =>
      rw [List.getElem?_cons_zero] at h1 h2
      cases h1; cases h2
      have hn : b ∉ r := fun q => by
        obtain ⟨k, hk⟩ := List.getElem?_of_mem q
        have := hi 0 (k + 1) b rfl (by simpa using hk)
        omega
      rw [s_put_out fp0 r cs _ b hn, s_set_eq, List.getElem?_set_self (hl b List.mem_cons_self)]
    | succ j =>
      rw [List.getElem?_cons_succ] at h1 h2
      exact s_put_in fp0 r cs _ j a c (fun i k z q1 q2 => by
        have := hi (i + 1) (k + 1) z (by simpa using q1) (by simpa using q2)
        omega) (fun z hz => by rw [s_set_eq, List.length_set]; exact hl z (List.mem_cons_of_mem _ hz)) h1 h2
theorem s_pop_spec : ∀ (n : Nat) (acc st : sS) (f : sS → sS → Prop), s_pop n acc st f → ∃ xs rest, st = xs ++ rest ∧ xs.length = n ∧ f (xs.reverse ++ acc) rest
  | 0, acc, st, f, h => ⟨[], st, rfl, rfl, h⟩
  | n + 1, acc, [], f, h => h.elim
  | n + 1, acc, v :: st, f, h => by
    obtain ⟨xs, rest, h1, h2, h3⟩ := s_pop_spec n (v :: acc) st f h
    exact ⟨v :: xs, rest, by rw [h1]; rfl, by simp [h2], by simpa using h3⟩
theorem s_cat_sum (ad : Nat → Nat) : ∀ st : sS, ((st.map (s_rv ad)).map fun v => v.category).sum = s_cat st
  | [] => rfl
  | v :: r => by
    simp only [List.map_cons, List.sum_cons, s_cat_sum ad r]
    cases v <;> simp [s_rv, s_cat, Value.category] <;> omega

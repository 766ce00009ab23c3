/-! ===== the small machine's steps hold on the machine ===== -/
def s_rc (cy : Nat → ClassId) (ad : Nat → Nat) : sC → va_E
  | .inl (k, n, f) => .inl (cy k, (n, .inl f))
  | .inr (.inl (k, l)) => .inl (cy k, (l.length, .inr (.inr (.inr (.inr (fun j => ((s_nth l j).join).map ad))))))
  | .inr (.inr (c, fs)) => .inr (c, fs.map (s_rv ad))
def s_rl (cy : Nat → ClassId) (ad : Nat → Nat) (L : sH) : va_W := L.mapIdx (fun i c => (ad i, s_rc cy ad c))
def s_tys (cy : Nat → ClassId) : List (ClassId × FieldType) := [(cy 0, .int), (cy 1, .byte), (cy 2, .boolean), (cy 3, .object "WishClerk$Book"), (cy 4, .object "WishClerk$Sheet")]
def s_as (ad : Nat → Nat) : Nat → sL → List (Nat × Value)
  | _, [] => []
  | i, some v :: l => (i, s_rv ad v) :: s_as ad (i + 1) l
  | i, none :: l => s_as ad (i + 1) l
theorem s_nth_eq {α : Type} : ∀ (l : List α) (n : Nat), s_nth l n = l[n]?
  | [], n => by simp [s_nth]
  | a :: l, 0 => by simp [s_nth]
  | a :: l, n + 1 => by simp [s_nth, s_nth_eq l n]
theorem s_set_eq {α : Type} : ∀ (l : List α) (n : Nat) (v : α), s_set l n v = l.set n v
  | [], n, v => by simp [s_set]
  | a :: l, 0, v => by simp [s_set]
  | a :: l, n + 1, v => by simp [s_set, s_set_eq l n v]
theorem s_rl_at {cy : Nat → ClassId} {ad : Nat → Nat} {L : sH} {a : Nat} {c : sC} (h : s_nth L a = some c) : (s_rl cy ad L)[a]? = some (ad a, s_rc cy ad c) := by
  rw [s_nth_eq] at h
  simp [s_rl, h]
theorem s_rl_set (cy : Nat → ClassId) (ad : Nat → Nat) (L : sH) (a : Nat) (c : sC) : s_rl cy ad (s_set L a c) = (s_rl cy ad L).set a (ad a, s_rc cy ad c) := by
  rw [s_set_eq]
  apply List.ext_getElem?
  intro i
  simp only [s_rl, List.getElem?_mapIdx, List.getElem?_set, List.length_mapIdx]
  by_cases h : a = i
  · subst h
    by_cases h2 : a < L.length
    · simp [h2]
    · simp [h2]
  · simp [h]
theorem s_rl_len (cy : Nat → ClassId) (ad : Nat → Nat) (L : sH) : (s_rl cy ad L).length = L.length := by simp [s_rl]
theorem s_rv_cat (ad : Nat → Nat) (v : Value) : (s_rv ad v).category = v.category := by cases v <;> rfl
theorem s_rv_comp (f g : Nat → Nat) (v : Value) : s_rv f (s_rv g v) = s_rv (fun k => f (g k)) v := by cases v <;> rfl
theorem s_nth_map {α β : Type} (f : α → β) : ∀ (l : List α) (j : Nat), s_nth (l.map f) j = (s_nth l j).map f
  | [], j => rfl
  | a :: l, 0 => rfl
  | a :: l, j + 1 => s_nth_map f l j
theorem s_rc_mc (cy : Nat → ClassId) (ad r : Nat → Nat) (c : sC) : s_rc cy ad (s_mc r c) = s_rc cy (fun k => ad (r k)) c := by
  rcases c with ⟨k, n, f⟩ | ⟨k, l⟩ | ⟨c, fs⟩
  · rfl
  · have e : (fun j => ((s_nth (l.map (Option.map r)) j).join).map ad) = (fun j => ((s_nth l j).join).map (fun k => ad (r k))) := by
      funext j
      rw [s_nth_map]
      cases s_nth l j with
      | none => rfl
      | some x => cases x <;> rfl
    simp only [s_mc, s_rc, List.length_map, e]
  · simp only [s_mc, s_rc, List.map_map]
    congr 3
    funext v
    exact s_rv_comp ad r v
theorem s_rv_id {f : Nat → Nat} (h : ∀ k, f k = k) (v : Value) : s_rv f v = v := by cases v <;> simp [s_rv, h]
theorem s_ix_spec : ∀ (fp : List Nat) (k i : Nat), (∃ j, s_ix fp k i = i + j ∧ fp[j]? = some k) ∨ (s_ix fp k i = if k / 100 = 5 then k else k + 1000)
  | [], k, i => by
    refine Or.inr ?_
    unfold s_ix
    by_cases h : k / 100 = 5
    · have h2 : Nat.beq (k / 100) 5 = true := by rw [h]; rfl
      simp [h2, h]
    · have h2 : Nat.beq (k / 100) 5 = false := by
        cases hb : Nat.beq (k / 100) 5
        · rfl
        · exact absurd (Nat.eq_of_beq_eq_true hb) h
      simp [h2, h]
  | a :: r, k, i => by
    unfold s_ix
    cases h : Nat.beq a k with
    | true => exact Or.inl ⟨0, rfl, by simp [Nat.eq_of_beq_eq_true h]⟩
    | false =>
      rcases s_ix_spec r k (i + 1) with ⟨j, h1, h2⟩ | h1
      · refine Or.inl ⟨j + 1, ?_, by simpa using h2⟩
        show s_ix r k (i + 1) = _
        omega
      · exact Or.inr h1
theorem s_un_rho (fp : List Nat) (hf : fp.length ≤ 500) (k : Nat) : s_un fp (s_rho fp k) = k := by
  unfold s_rho s_un
  rcases s_ix_spec fp k 0 with ⟨j, h1, h2⟩ | h1
  · rw [h1, s_nth_eq, Nat.zero_add, h2]
  · rw [h1, s_nth_eq]
    by_cases h : k / 100 = 5
    · have h2 : Nat.beq (k / 100) 5 = true := by rw [h]; rfl
      rw [if_pos h, List.getElem?_eq_none (by omega)]
      simp [h2]
    · rw [if_neg h, List.getElem?_eq_none (by omega)]
      have h2 : Nat.beq ((k + 1000) / 100) 5 = false := by
        cases hb : Nat.beq ((k + 1000) / 100) 5
        · rfl
        · exact absurd (Nat.eq_of_beq_eq_true hb) (by omega)
      simp [h2]
theorem s_un_sp {fp : List Nat} (hf : fp.length ≤ 500) {k : Nat} (hk : k / 100 = 5) : s_un fp k = k := by
  unfold s_un
  rw [s_nth_eq, List.getElem?_eq_none (by omega)]
  have h2 : Nat.beq (k / 100) 5 = true := by rw [hk]; rfl
  simp [h2]
theorem s_as_mem (ad : Nat → Nat) : ∀ (l : sL) (i j : Nat) (w : Value), (j, w) ∈ s_as ad i l ↔ ∃ n v, j = i + n ∧ s_nth l n = some (some v) ∧ w = s_rv ad v
  | [], i, j, w => by simp [s_as, s_nth]
  | none :: l, i, j, w => by
    unfold s_as
    rw [s_as_mem ad l (i + 1) j w]
    constructor
    · rintro ⟨n, v, h1, h2, h3⟩
      exact ⟨n + 1, v, by omega, h2, h3⟩
    · rintro ⟨n, v, h1, h2, h3⟩
      cases n with
      | zero => simp [s_nth] at h2
      | succ n => exact ⟨n, v, by omega, h2, h3⟩
  | some x :: l, i, j, w => by
    unfold s_as
    rw [List.mem_cons, s_as_mem ad l (i + 1) j w]
    constructor
    · rintro (h | ⟨n, v, h1, h2, h3⟩)
      · obtain ⟨rfl, rfl⟩ := Prod.mk.inj h
        exact ⟨0, x, rfl, rfl, rfl⟩
      · exact ⟨n + 1, v, by omega, h2, h3⟩
    · rintro ⟨n, v, h1, h2, h3⟩
      cases n with
      | zero =>
        simp only [s_nth, Option.some.injEq] at h2
        subst h2
        exact Or.inl (by rw [h1, h3]; rfl)
      | succ n => exact Or.inr ⟨n, v, by omega, h2, h3⟩
theorem s_as_at {ad : Nat → Nat} {lr : Array Slot} {nL : Nat} {ls : sL} (h : lv_has lr nL (s_as ad 0 ls)) {n : Nat} {v : Value} (hn : s_nth ls n = some (some v)) : lr[n]? = some (.val (s_rv ad v)) :=
  h.2.2 (n, s_rv ad v) ((s_as_mem ad ls 0 n _).mpr ⟨n, v, (Nat.zero_add n).symm, hn, rfl⟩)
theorem s_c2_some {o : Option Value} {u : Value} (h : s_c2 o = some u) : o = some u ∧ u.category = 1 := by
  rcases o with _ | v
  · simp [s_c2] at h
  · cases v <;> simp [s_c2] at h <;> subst h <;> exact ⟨rfl, rfl⟩
theorem s_st1_at : ∀ (l : sL) (n : Nat) (v : Value) (j : Nat) (u : Value), s_nth (s_st1 l n v) j = some (some u) → (j = n ∧ u = v) ∨ (j ≠ n ∧ s_nth l j = some (some u) ∧ (j + 1 = n → u.category = 1))
  | [], n, v, j, u, h => by simp [s_st1, s_nth] at h
  | a :: l, 0, v, 0, u, h => by simp only [s_st1, s_nth, Option.some.injEq] at h; exact Or.inl ⟨rfl, h.symm⟩
  | a :: l, 0, v, j + 1, u, h => Or.inr ⟨by omega, h, fun e => by omega⟩
  | a :: l, 1, v, 0, u, h => by
    simp only [s_st1, s_nth, Option.some.injEq] at h
    obtain ⟨h1, h2⟩ := s_c2_some h
    exact Or.inr ⟨by omega, by simp [s_nth, h1], fun _ => h2⟩
  | a :: l, 1, v, j + 1, u, h => by
    rcases s_st1_at l 0 v j u h with ⟨h1, h2⟩ | ⟨h1, h2, h3⟩
    · exact Or.inl ⟨by omega, h2⟩
    · exact Or.inr ⟨by omega, h2, fun e => by omega⟩
  | a :: l, n + 2, v, 0, u, h => Or.inr ⟨by omega, h, fun e => by omega⟩
  | a :: l, n + 2, v, j + 1, u, h => by
    rcases s_st1_at l (n + 1) v j u h with ⟨h1, h2⟩ | ⟨h1, h2, h3⟩
    · exact Or.inl ⟨by omega, h2⟩
    · exact Or.inr ⟨by omega, h2, fun e => h3 (by omega)⟩
theorem s_clr_at : ∀ (l : sL) (j : Nat) (u : Value), s_nth (s_clr l) j = some (some u) → j ≠ 0 ∧ s_nth l j = some (some u)
  | [], j, u, h => by simp [s_clr, s_nth] at h
  | a :: l, 0, u, h => by simp [s_clr, s_nth] at h
  | a :: l, j + 1, u, h => ⟨by omega, h⟩
theorem s_st2_at : ∀ (l : sL) (n : Nat) (v : Value) (j : Nat) (u : Value), s_nth (s_st2 l n v) j = some (some u) → (j = n ∧ u = v) ∨ (j ≠ n ∧ j ≠ n + 1 ∧ s_nth l j = some (some u) ∧ (j + 1 = n → u.category = 1))
  | [], n, v, j, u, h => by simp [s_st2, s_nth] at h
  | a :: l, 0, v, 0, u, h => by simp only [s_st2, s_nth, Option.some.injEq] at h; exact Or.inl ⟨rfl, h.symm⟩
  | a :: l, 0, v, j + 1, u, h => by
    obtain ⟨h1, h2⟩ := s_clr_at l j u h
    exact Or.inr ⟨by omega, by omega, h2, fun e => by omega⟩
  | a :: l, 1, v, 0, u, h => by
    simp only [s_st2, s_nth, Option.some.injEq] at h
    obtain ⟨h1, h2⟩ := s_c2_some h
    exact Or.inr ⟨by omega, by omega, by simp [s_nth, h1], fun _ => h2⟩
  | a :: l, 1, v, j + 1, u, h => by
    rcases s_st2_at l 0 v j u h with ⟨h1, h2⟩ | ⟨h1, h2, h3, h4⟩
    · exact Or.inl ⟨by omega, h2⟩
    · exact Or.inr ⟨by omega, by omega, h3, fun e => by omega⟩
  | a :: l, n + 2, v, 0, u, h => Or.inr ⟨by omega, by omega, h, fun e => by omega⟩
  | a :: l, n + 2, v, j + 1, u, h => by
    rcases s_st2_at l (n + 1) v j u h with ⟨h1, h2⟩ | ⟨h1, h2, h3, h4⟩
    · exact Or.inl ⟨by omega, h2⟩
    · exact Or.inr ⟨by omega, by omega, h3, fun e => h4 (by omega)⟩
theorem s_mask_at : ∀ (m : List Bool) (l : sL) (j : Nat) (u : Value), s_nth (s_mask m l) j = some (some u) → s_nth l j = some (some u)
  | [], l, j, u, h => by simp [s_mask, s_nth] at h
  | true :: m, [], j, u, h => by simp [s_mask, s_nth] at h
  | false :: m, [], j, u, h => by simp [s_mask, s_nth] at h
  | true :: m, a :: l, 0, u, h => h
  | true :: m, a :: l, j + 1, u, h => s_mask_at m l j u h
  | false :: m, a :: l, 0, u, h => by simp [s_mask, s_nth] at h
  | false :: m, a :: l, j + 1, u, h => s_mask_at m l j u h
theorem s_has_st1 {ad : Nat → Nat} {lr : Array Slot} {nL i : Nat} {ls : sL} {v : Value} (h : lv_has lr nL ((i, s_rv ad v) :: (s_as ad 0 ls).filter (fun q => !(q.1 == i) && !(q.1 + 1 == i && q.2.category == 2)))) : lv_has lr nL (s_as ad 0 (s_st1 ls i v)) := by
  refine ⟨h.1, h.2.1, fun q hq => h.2.2 q ?_⟩
  obtain ⟨j, w⟩ := q
  obtain ⟨n, u, h1, h2, h3⟩ := (s_as_mem ad _ 0 j w).mp hq
  rw [Nat.zero_add] at h1
  subst h1
  rcases s_st1_at ls i v j u h2 with ⟨e1, e2⟩ | ⟨e1, e2, e3⟩
  · subst e1; subst e2; subst h3
    exact List.mem_cons_self
  · refine List.mem_cons_of_mem _ (List.mem_filter.mpr ⟨(s_as_mem ad ls 0 j w).mpr ⟨j, u, (Nat.zero_add j).symm, e2, h3⟩, ?_⟩)
    have hc : w.category = u.category := by rw [h3, s_rv_cat]
    by_cases hj : j + 1 = i
    · have := e3 hj
      simp [e1, hj, hc, this]
    · simp [e1, hj]
theorem s_has_st2 {ad : Nat → Nat} {lr : Array Slot} {nL i : Nat} {ls : sL} {v : Value} (h : lv_has lr nL ((i, s_rv ad v) :: (s_as ad 0 ls).filter (fun q => !(q.1 == i) && (!(q.1 == i + 1) && !(q.1 + 1 == i && q.2.category == 2))))) : lv_has lr nL (s_as ad 0 (s_st2 ls i v)) := by
  refine ⟨h.1, h.2.1, fun q hq => h.2.2 q ?_⟩
  obtain ⟨j, w⟩ := q
  obtain ⟨n, u, h1, h2, h3⟩ := (s_as_mem ad _ 0 j w).mp hq
  rw [Nat.zero_add] at h1
  subst h1
  rcases s_st2_at ls i v j u h2 with ⟨e1, e2⟩ | ⟨e1, e4, e2, e3⟩
  · subst e1; subst e2; subst h3
    exact List.mem_cons_self
  · refine List.mem_cons_of_mem _ (List.mem_filter.mpr ⟨(s_as_mem ad ls 0 j w).mpr ⟨j, u, (Nat.zero_add j).symm, e2, h3⟩, ?_⟩)
    have hc : w.category = u.category := by rw [h3, s_rv_cat]
    by_cases hj : j + 1 = i
    · have := e3 hj
      have e5 : ¬ j = i + 1 := by omega
      simp [e1, e5, hj, hc, this]
    · simp [e1, e4, hj]
theorem s_has_mask {ad : Nat → Nat} {lr : Array Slot} {nL : Nat} {ls : sL} (m : List Bool) (h : lv_has lr nL (s_as ad 0 ls)) : lv_has lr nL (s_as ad 0 (s_mask m ls)) := by
  refine ⟨h.1, h.2.1, fun q hq => h.2.2 q ?_⟩
  obtain ⟨j, w⟩ := q
  obtain ⟨n, u, h1, h2, h3⟩ := (s_as_mem ad _ 0 j w).mp hq
  exact (s_as_mem ad ls 0 j w).mpr ⟨n, u, h1, s_mask_at m ls n u h2, h3⟩
theorem s_frc_eq {α : Type} : ∀ (l : List α) (k : List α → Prop), s_frc l k = k l
  | [], k => rfl
  | a :: r, k => s_frc_eq r fun r' => k (a :: r')
theorem s_frV_eq : ∀ (l : List Value) (k : List Value → Prop), s_frV l k = k l
  | [], k => rfl
  | v :: r, k => by cases v <;> exact s_frV_eq r _
theorem s_frH_eq : ∀ (l : sH) (k : sH → Prop), s_frH l k = k l
  | [], k => rfl
  | .inl a :: r, k => s_frH_eq r _
  | .inr (.inl a) :: r, k => s_frH_eq r _
  | .inr (.inr (c, fs)) :: r, k => by
    show s_frV fs (fun fs' => s_frH r fun r' => k (.inr (.inr (c, fs')) :: r')) = _
    rw [s_frV_eq, s_frH_eq r]
theorem s_frN_eq (n : Nat) (k : Nat → Prop) : s_frN n k = k n := by
  unfold s_frN
  split <;> rfl
theorem s_frL_eq : ∀ (l : List Nat) (k : List Nat → Prop), s_frL l k = k l
  | [], k => rfl
  | a :: r, k => by
    show s_frN a (fun a' => s_frL r fun r' => k (a' :: r')) = _
    rw [s_frN_eq, s_frL_eq r]
theorem s_pk_eq (fp0 : List Nat) : ∀ (fp : List Nat) (cs L : sH) (k : sH → Prop), s_pk fp0 fp cs L k = k (s_put fp0 fp cs L)
  | [], cs, L, k => by cases cs <;> rfl
  | a :: r, [], L, k => rfl
  | a :: r, c :: cs, L, k => by
    show s_frc (s_set L a (s_mc (s_un fp0) c)) (fun L' => s_pk fp0 r cs L' k) = _
    rw [s_frc_eq, s_pk_eq fp0 r cs]
    rfl

/-! ===== constructors: the machine makes cells ===== -/
def k_rf (l : List (Option Nat)) : Nat → Option Nat := fun j => (s_nth l j).join
def k_rc (cy : Nat → ClassId) (ad : Nat → Nat) : sC → va_E
  | .inl (k, n, f) => .inl (cy k, (n, .inl f))
  | .inr (.inl (k, l)) => .inl (cy k, (l.length, .inr (.inr (.inr (.inr (k_rf (l.map (Option.map ad))))))))
  | .inr (.inr (c, fs)) => .inr (c, fs.map (s_rv ad))
def k_rl (cy : Nat → ClassId) (ad : Nat → Nat) : Nat → sH → va_W
  | _, [] => []
  | i, c :: r => (ad i, k_rc cy ad c) :: k_rl cy ad (i + 1) r
theorem k_rc_eq (cy : Nat → ClassId) (ad : Nat → Nat) (c : sC) : k_rc cy ad c = s_rc cy ad c := by
  rcases c with ⟨k, n, f⟩ | ⟨k, l⟩ | ⟨c, fs⟩
  · rfl
  · have e : k_rf (l.map (Option.map ad)) = fun j => ((s_nth l j).join).map ad := by
      funext j
      show (s_nth (l.map (Option.map ad)) j).join = _
      rw [s_nth_map]
      cases s_nth l j with
      | none => rfl
      | some x => cases x <;> rfl
    simp only [k_rc, s_rc, e]
  · rfl
theorem k_rl_at (cy : Nat → ClassId) (ad : Nat → Nat) : ∀ (L : sH) (i j : Nat), (k_rl cy ad i L)[j]? = (L[j]?).map (fun c => (ad (i + j), s_rc cy ad c))
  | [], i, j => by simp [k_rl]
  | c :: r, i, 0 => by simp [k_rl, k_rc_eq]
  | c :: r, i, j + 1 => by
    have e : i + 1 + j = i + (j + 1) := by omega
    have h := k_rl_at cy ad r (i + 1) j
    rw [e] at h
    rw [k_rl, List.getElem?_cons_succ, h, List.getElem?_cons_succ]
theorem k_rl_eq (cy : Nat → ClassId) (ad : Nat → Nat) (L : sH) : k_rl cy ad 0 L = s_rl cy ad L := by
  apply List.ext_getElem?
  intro j
  rw [k_rl_at]
  simp only [s_rl, List.getElem?_mapIdx, Nat.zero_add]
theorem k_rf_none (n : Nat) : (fun _ => none) = k_rf (List.replicate n none) := by
  funext j
  show none = (s_nth (List.replicate n none) j).join
  rw [s_nth_eq, List.getElem?_replicate]
  split <;> rfl
theorem k_rf_up {l : List (Option Nat)} {i v : Nat} (h : i < l.length) : va_up (k_rf l) i (some v) = k_rf (l.set i (some v)) := by
  funext j
  show (if j = i then some v else (s_nth l j).join) = (s_nth (l.set i (some v)) j).join
  rw [s_nth_eq, s_nth_eq]
  by_cases hj : j = i
  · subst hj
    rw [if_pos rfl, List.getElem?_set_self h]
    rfl
  · rw [if_neg hj, List.getElem?_set_ne (Ne.symm hj)]
/-- a new object's fields -/
def k_new (ci N : Nat) : List Value := (List.range N).map (fun j => defaultValue (s_fty ci j))
theorem k_new_V (ci N : Nat) : ∀ j, j < N → defaultValue (s_fty ci j) = vp_V (k_new ci N) j := by
  intro j hj
  simp [k_new, vp_V, List.getD_eq_getElem?_getD, List.getElem?_range, hj]
theorem k_RA {U : State} {a b : ClassId} {ty : FieldType} (h1 : va_RA U a ty) (h2 : va_RA U b ty) : a = b := by
  cases ty with
  | object C =>
    obtain ⟨_, _, _, _, _, h⟩ := h1
    obtain ⟨_, _, _, _, _, h'⟩ := h2
    exact Option.some.inj (h.symm.trans h')
  | _ =>
    have h : U.vm.findClass _ = some a := h1
    have h' : U.vm.findClass _ = some b := h2
    exact Option.some.inj (h.symm.trans h')
/-- an address by its place -/
def k_pk (l : List Nat) (f : Nat → Nat) (k : Nat) : Nat := match s_nth l k with
  | some a => a
  | none => f k
def k_nests : List (String × Nat × MethodName) := [("WishClerk", 11, yX4_init), ("WishClerk$Reader", 11, yX0_init), ("WishClerk", 27, yX2_init), ("WishClerk", 48, yX0_init), ("WishClerk", 53, yX3_init)]
def kX (f : Nat → Nat) (A : Nat → Prop) (U : State) : Prop := ((∀ q ∈ k_nests, va_Nw (.methodLinkNest q.1 q.2.1 q.2.2 "WishClerk") U) ∧ va_AO "WishClerk$Book" U ∧ va_AO "WishClerk$Sheet" U) ∧ s_nst U ∧ s_str f A U U.heap
def kPc (D : va_G) (cy : Nat → ClassId) (f : Nat → Nat) (ci : Nat) (fs : List Value) (As : List Value) (h0 sz : Nat) : Array Value → State → Prop := fun av U =>
  av = (.ref h0 :: As).toArray ∧ U.heap.size = sz ∧ va_P D vwCl [(h0, .inr (ci, fs))] U.heap ∧ va_K D vwCl (s_tys cy) U ∧ kX f (va_A [(h0, .inr (ci, fs))] sz) U
def kQc (D : va_G) (cy : Nat → ClassId) (ci : Nat) (fs : List Value) (L0 : sH) (post : Nat → (Nat → Nat) → Prop) (h0 sz : Nat) : Array Value → State → Outcome → State → Prop :=
  va_Qv (post h0) (fun (ad : Nat → Nat) t => va_P D vwCl (k_rl cy ad 0 L0) t.heap ∧ va_D (va_A [(h0, .inr (ci, fs))] sz) (k_rl cy ad 0 L0)) (va_A [(h0, .inr (ci, fs))] sz)
/-- a constructor's contract: out of a new object the cells L0, the object first -/
def kMet (l : Launch) (D : va_G) (cy : Nat → ClassId) (f : Nat → Nat) (y : MethodName) (b : ByteArray) (n fr lo mc ms ci : Nat) (fs As : List Value) (L0 : sH) (post : Nat → (Nat → Nat) → Prop) : Prop :=
  ∀ h0 sz, Met l y (s_words y b n none) { frames := fr, cells := mc, slots := ms, locals := lo } (kPc D cy f ci fs As h0 sz) (kQc D cy ci fs L0 post h0 sz) mc ms (va_A [(h0, .inr (ci, fs))] sz)
theorem k_blind (D : va_G) (cy : Nat → ClassId) (f : Nat → Nat) (ci : Nat) (fs As : List Value) (h0 sz : Nat) : FrameBlind (kPc D cy f ci fs As h0 sz) := by
  intro a U g mk h
  obtain ⟨q0, q1, qP, qK, ⟨qn, qa, qb⟩, qN, adV, qS, qR, qZ⟩ := h
  exact ⟨q0, q1, qP, va_K.moved (u := U) (U := U.calling g mk a) (Vm.Alike.refl U.vm) qK, ⟨fun w hw => va_Nw.same rfl rfl (qn w hw), va_AO.moved (u := U) (U := U.calling g mk a) (Vm.Alike.refl U.vm) qa, va_AO.moved (u := U) (U := U.calling g mk a) (Vm.Alike.refl U.vm) qb⟩, fun w hw => va_Nw.same rfl rfl (qN w hw), adV, vk_S.moved (u := U) (U := U.calling g mk a) (Vm.Alike.refl U.vm) qS, fun i q hq => vk_R.same rfl (qR i q hq), va_Z.moved (u := U) (U := U.calling g mk a) (Vm.Alike.refl U.vm) qZ.1, va_Zq.moved (u := U) (U := U.calling g mk a) (Vm.Alike.refl U.vm) qZ.2⟩
theorem k_X_warm {f : Nat → Nat} {A B : Nat → Prop} {s U : State} {H : Heap} {locs : List Loc} (hW : s.WarmedH U.vm) (hU : U.heap = H) (hS : va_S A s.heap H locs) (hAB : ∀ q, B q → A q) (h : kX f A s) : kX f B U :=
  ⟨⟨fun q hq => va_Nw.warmM hW (h.1.1 q hq), va_AO.moved hW.alike h.1.2.1, va_AO.moved hW.alike h.1.2.2⟩, s_nst_warm hW h.2.1, s_str_warm hW hU hS hAB h.2.2⟩
theorem k_one {x : Nat × va_E} {k : Nat} {q : Nat × va_E} (h : ([x] : va_W)[k]? = some q) : q = x := by
  cases k with
  | zero => simpa using h.symm
  | succ k => simp at h
theorem k_wo : Cond.instanceMethod objectInit ∈ gT ∧ Cond.code objectInit ⟨#[0xb1]⟩ 1 none ∈ gT := by
  refine ⟨gT_of ?_ rfl, gT_of ?_ rfl⟩ <;> decide +kernel
section SMake
variable {p : Program} {l : Launch} {e : Env} {R : Room} {s : State} {m : MethodId} {args : Array Value} {below : List Frame} {meth : Method} {c : Code} {D : va_G} {cy : Nat → ClassId} {f : Nat → Nat} {A : Nat → Prop} {Q : State → Prop} {own : String} {cc : ByteArray} {nL cl sl : Nat} {ls : Array Slot} {rest : List Value} {pc : Nat} {ws : va_W}
def kE (p : Program) (s : State) (m : MethodId) (args : Array Value) (c : Code) (D : va_G) (cy : Nat → ClassId) (f : Nat → Nat) (A : Nat → Prop) (own : String) (cc : ByteArray) (nL : Nat) : Prop :=
  (p.tables.exec = Jvm.exec ∧ c.code = cc ∧ c.maxLocals = nL ∧ s.vm.findClass own = some m.cls ∧ (∀ w ∈ gT, w.before args s = true)) ∧ va_K D vwCl (s_tys cy) s ∧ (∀ q, s.heap.size ≤ q → A q) ∧ kX f A s
def kG (p : Program) (l : Launch) (e : Env) (R : Room) (s : State) (m : MethodId) (args : Array Value) (below : List Frame) (meth : Method) (c : Code) (D : va_G) (A : Nat → Prop) (Q : State → Prop) (pc : Nat) (ls : Array Slot) (st : List Value) (ws : va_W) (cl sl : Nat) : Prop :=
  ∀ (H : Heap) (locs : List Loc), va_P D vwCl ws H → va_D A ws → va_S A s.heap H locs → W p l e R s m args below meth c H locs cl sl Q (F0 m pc ls st)
theorem k_al (hE : kE p s m args c D cy f A own cc nL) {k : Fin 4} {i x : Nat} (hi : (k : Nat) = i) (hl : ls[i]? = some (.val (.ref x))) (hdg : decode cc pc = .ok (.aload_n k, 1)) (kk : kG p l e R s m args below meth c D A Q (pc + 1) ls (.ref x :: rest) ws cl sl) : kG p l e R s m args below meth c D A Q pc ls rest ws cl sl :=
  fun H locs hP hD hS => lv_aload_n hE.1.1 hE.1.2.1 hdg hi hl (kk H locs hP hD hS)
theorem k_il (hE : kE p s m args c D cy f A own cc nL) {k : Fin 4} {i : Nat} {x : Int32} (hi : (k : Nat) = i) (hl : ls[i]? = some (.val (.int x))) (hdg : decode cc pc = .ok (.iload_n k, 1)) (kk : kG p l e R s m args below meth c D A Q (pc + 1) ls (.int x :: rest) ws cl sl) : kG p l e R s m args below meth c D A Q pc ls rest ws cl sl :=
  fun H locs hP hD hS => lv_iload_n hE.1.1 hE.1.2.1 hdg hi hl (kk H locs hP hD hS)
theorem k_bi (hE : kE p s m args c D cy f A own cc nL) {n : Int} {v : Int32} (hdg : decode cc pc = .ok (.bipush n, 2)) (hv : (Int8.ofInt n).toInt32 = v) (kk : kG p l e R s m args below meth c D A Q (pc + 2) ls (.int v :: rest) ws cl sl) : kG p l e R s m args below meth c D A Q pc ls rest ws cl sl :=
  fun H locs hP hD hS => lv_bipush hE.1.1 hE.1.2.1 hdg hv (kk H locs hP hD hS)
theorem k_si (hE : kE p s m args c D cy f A own cc nL) {n : Int} {v : Int32} (hdg : decode cc pc = .ok (.sipush n, 3)) (hv : (Int16.ofInt n).toInt32 = v) (kk : kG p l e R s m args below meth c D A Q (pc + 3) ls (.int v :: rest) ws cl sl) : kG p l e R s m args below meth c D A Q pc ls rest ws cl sl :=
  fun H locs hP hD hS => lv_sipush hE.1.1 hE.1.2.1 hdg hv (kk H locs hP hD hS)
theorem k_ic (hE : kE p s m args c D cy f A own cc nL) {n : Int} {v : Int32} (hdg : decode cc pc = .ok (.iconst n, 1)) (hv : Int32.ofInt n = v) (kk : kG p l e R s m args below meth c D A Q (pc + 1) ls (.int v :: rest) ws cl sl) : kG p l e R s m args below meth c D A Q pc ls rest ws cl sl :=
  fun H locs hP hD hS => lv_iconst hE.1.1 hE.1.2.1 hdg hv (kk H locs hP hD hS)
theorem k_du (hE : kE p s m args c D cy f A own cc nL) {x : Nat} (hdg : decode cc pc = .ok (.dup, 1)) (kk : kG p l e R s m args below meth c D A Q (pc + 1) ls (.ref x :: .ref x :: rest) ws cl sl) : kG p l e R s m args below meth c D A Q pc ls (.ref x :: rest) ws cl sl :=
  fun H locs hP hD hS => lv_dup hE.1.1 hE.1.2.1 hdg rfl (kk H locs hP hD hS)
theorem k_is (hE : kE p s m args c D cy f A own cc nL) {k : Fin 4} {i : Nat} {x : Int32} {lv lv' : List (Nat × Value)} (hdg : decode cc pc = .ok (.istore_n k, 1)) (hi : (k : Nat) = i) (h : lv_has ls nL lv) (hn : i < nL) (hl : (i, Value.int x) :: lv.filter (fun q => !(q.1 == i) && !(q.1 + 1 == i && q.2.category == 2)) = lv') (kk : ∀ ls', lv_has ls' nL lv' → kG p l e R s m args below meth c D A Q (pc + 1) ls' rest ws cl sl) : kG p l e R s m args below meth c D A Q pc ls (.int x :: rest) ws cl sl :=
  fun H locs hP hD hS => lv_istore_n hE.1.1 hE.1.2.1 hdg hi h hn hl (fun ls' hl' => kk ls' hl' H locs hP hD hS)
theorem k_as (hE : kE p s m args c D cy f A own cc nL) {k : Fin 4} {i : Nat} {x : Nat} {lv lv' : List (Nat × Value)} (hdg : decode cc pc = .ok (.astore_n k, 1)) (hi : (k : Nat) = i) (h : lv_has ls nL lv) (hn : i < nL) (hl : (i, Value.ref x) :: lv.filter (fun q => !(q.1 == i) && !(q.1 + 1 == i && q.2.category == 2)) = lv') (kk : ∀ ls', lv_has ls' nL lv' → kG p l e R s m args below meth c D A Q (pc + 1) ls' rest ws cl sl) : kG p l e R s m args below meth c D A Q pc ls (.ref x :: rest) ws cl sl :=
  fun H locs hP hD hS => lv_astore_n hE.1.1 hE.1.2.1 hdg hi h hn hl (fun ls' hl' => kk ls' hl' H locs hP hD hS)
theorem k_inc (hE : kE p s m args c D cy f A own cc nL) {i k : Nat} {n : Int} {x v : Int32} {lv lv' : List (Nat × Value)} (hdg : decode cc pc = .ok (.iinc i n, 3)) (h : lv_has ls nL lv) (hk : lv[k]? = some (i, .int x)) (hv : x + Int32.ofInt n = v) (hn : i < nL) (hl : (i, Value.int v) :: lv.filter (fun q => !(q.1 == i) && !(q.1 + 1 == i && q.2.category == 2)) = lv') (kk : ∀ ls', lv_has ls' nL lv' → kG p l e R s m args below meth c D A Q (pc + 3) ls' rest ws cl sl) : kG p l e R s m args below meth c D A Q pc ls rest ws cl sl :=
  fun H locs hP hD hS => lv_iinc hE.1.1 hE.1.2.1 hdg h hk hv hn hl (fun ls' hl' => kk ls' hl' H locs hP hD hS)
theorem k_go (hE : kE p s m args c D cy f A own cc nL) {off : Int} {tgt : Nat} (hdg : decode cc pc = .ok (.goto off, 3)) (ht : (pc : Int) + off = (tgt : Int)) (kk : kG p l e R s m args below meth c D A Q tgt ls rest ws cl sl) : kG p l e R s m args below meth c D A Q pc ls rest ws cl sl :=
  fun H locs hP hD hS => lv_goto hE.1.1 hE.1.2.1 hdg ht (kk H locs hP hD hS)
theorem k_ge (hE : kE p s m args c D cy f A own cc nL) {x y : Int32} {off : Int} {tgt : Nat} (hdg : decode cc pc = .ok (.if_icmp .ge off, 3)) (ht : (pc : Int) + off = (tgt : Int)) (h1 : y ≤ x → kG p l e R s m args below meth c D A Q tgt ls rest ws cl sl) (h2 : ¬ y ≤ x → kG p l e R s m args below meth c D A Q (pc + 3) ls rest ws cl sl) : kG p l e R s m args below meth c D A Q pc ls (.int y :: .int x :: rest) ws cl sl :=
  fun H locs hP hD hS => lv_icmp_ge hE.1.1 hE.1.2.1 hdg ht (fun q => h1 q H locs hP hD hS) (fun q => h2 q H locs hP hD hS)
theorem k_obj (hE : kE p s m args c D cy f A own cc nL) {ix h0 : Nat} (hlk : Cond.methodLink own ix objectInit ∈ lw_tbl) (h1 : 1 ≤ R.frames) (h2 : 12 ≤ R.locals) (hsz : ls.size = nL) (hdg : decode cc pc = .ok (.invokespecial ix, 3)) (kk : kG p l e R s m args below meth c D A Q (pc + 3) ls [] ws cl sl) : kG p l e R s m args below meth c D A Q pc ls [.ref h0] ws cl sl := by
  obtain ⟨⟨hx, hb, hml, hown, hts⟩, hK, hA, hX⟩ := hE
  intro H locs hP hD hS
  refine W.objInit hx hb hown (hts _ (gT_of hlk rfl)) (hts _ k_wo.1) (hts _ k_wo.2) rfl (by rw [hml]; exact hsz) rfl hdg h1 (show 12 ≤ R.locals from h2) ?_
  exact kk H locs hP hD hS
theorem k_na (hE : kE p s m args c D cy f A own cc nL) {t N : Nat} {atype : ArrayType} {ty : FieldType} {n : Int32} (ht : (s_tys cy)[t]? = some (cy t, ty)) (harr : Cond.arrayClass ty ∈ lw_tbl) (hty : newarray.typeOf atype = ty) (hdf : defaultValue ty = .int 0) (hn : ¬ n < 0) (hN : n.toNatClampNeg = N) (hbytes : N * componentBytes ty ≤ 536870912) (hc : cl + 1 ≤ R.cells) (hs : sl + N ≤ R.slots) (hdg : decode cc pc = .ok (.newarray atype, 2))
    (kk : ∀ q : Nat, kG p l e R s m args below meth c D A Q (pc + 2) ls (.ref q :: rest) (ws ++ [(q, .inl (cy t, (N, .inl fun _ => 0)))]) (cl + 1) (sl + N)) : kG p l e R s m args below meth c D A Q pc ls (.int n :: rest) ws cl sl := by
  obtain ⟨⟨hx, hb, hml, hown, hts⟩, hK, hA, hX⟩ := hE
  intro H locs hP hD hS
  refine va_newa (ty := ty) (a0 := (N, .inl fun _ => 0)) hx hb (by rw [hty]; exact hts _ (gT_of harr rfl)) hty hK hP hD hS hA (fun cA => ?_) hn hN hbytes hc hs hdg (fun q cA H1 hK1 hP1 hD1 hS1 => ?_)
  · rw [hdf]; rfl
  · have e : cA = cy t := k_RA (hK1.2 5 (cA, ty) rfl).2 (hK.2 t _ ht).2
    subst e
    exact kk q H1 locs hP1 hD1 hS1
theorem k_nq (hE : kE p s m args c D cy f A own cc nL) {t N ix : Nat} {C : String} {n : Int32} (ht : (s_tys cy)[t]? = some (cy t, .object C)) (hlk : Cond.classLink own ix C ∈ lw_tbl) (ho : va_AO C s) (hn : ¬ n < 0) (hN : n.toNatClampNeg = N) (hbytes : N * 4 ≤ 536870912) (hc : cl + 1 ≤ R.cells) (hs : sl + N ≤ R.slots) (hdg : decode cc pc = .ok (.anewarray ix, 3))
    (kk : ∀ q : Nat, kG p l e R s m args below meth c D A Q (pc + 3) ls (.ref q :: rest) (ws ++ [(q, .inl (cy t, (N, .inr (.inr (.inr (.inr (k_rf (List.replicate N none))))))))]) (cl + 1) (sl + N)) : kG p l e R s m args below meth c D A Q pc ls (.int n :: rest) ws cl sl := by
  obtain ⟨⟨hx, hb, hml, hown, hts⟩, hK, hA, hX⟩ := hE
  intro H locs hP hD hS
  refine va_newq (C := C) hx hb hown (hts _ (gT_of hlk rfl)) ho hK hP hD hS hA hn hN hbytes hc hs hdg (fun q cA H1 hK1 hP1 hD1 hS1 => ?_)
  have e : cA = cy t := k_RA (hK1.2 5 (cA, .object C) rfl).2 (hK.2 t _ ht).2
  subst e
  rw [k_rf_none N] at hP1 hD1
  exact kk q H1 locs hP1 hD1 hS1
theorem k_nw (hE : kE p s m args c D cy f A own cc nL) {ci N ix : Nat} {C : String} {T : u_T} (hc : vwCl[ci]? = some (C, T, N)) (hlk : Cond.classLink own ix C ∈ lw_tbl) (hi : Cond.instantiable C N ∈ lw_tbl) (hini : Cond.initialized C ∈ lw_tbl) (h1 : cl + 1 ≤ R.cells) (h2 : sl + N ≤ R.slots) (hdg : decode cc pc = .ok (.new ix, 3))
    (kk : ∀ q : Nat, kG p l e R s m args below meth c D A Q (pc + 3) ls (.ref q :: rest) (ws ++ [(q, .inr (ci, k_new ci N))]) (cl + 1) (sl + N)) : kG p l e R s m args below meth c D A Q pc ls rest ws cl sl := by
  obtain ⟨⟨hx, hb, hml, hown, hts⟩, hK, hA, hX⟩ := hE
  intro H locs hP hD hS
  exact va_new (fs := k_new ci N) hx hb hts (s_in ci _ hc) (s_fty ci) (s_ftyo ci _ hc) hown (hts _ (gT_of hlk rfl)) (hts _ (gT_of hi rfl)) (hts _ (gT_of hini rfl)) hK hP hD hS hA hc (k_new_V ci N) h1 h2 hdg (fun q H1 hP1 hD1 hS1 => kk q H1 locs hP1 hD1 hS1)
theorem k_pF (hE : kE p s m args c D cy f A own cc nL) (hin2 : meth.name = "<init>") {ci N ix k h0 : Nat} {T : u_T} {fs : List Value} {wr : va_W} {v : Value} (hc : vwCl[ci]? = some (own, T, N)) (hk : k < N) (hlk : Cond.fieldLink own ix own (T k).2.1 (T k).2.2.1 ∈ lw_tbl) (hfin : (T k).2.2.2 = true) (hdecl : (T k).1 = own) (hn : narrow (s_fty ci k) v = v) (hfit : fits (s_fty ci k) v = true) (hl : k < fs.length) (hdg : decode cc pc = .ok (.putfield ix, 3))
    (kk : kG p l e R s m args below meth c D A Q (pc + 3) ls rest ((h0, .inr (ci, fs.set k v)) :: wr) cl sl) : kG p l e R s m args below meth c D A Q pc ls (v :: .ref h0 :: rest) ((h0, .inr (ci, fs)) :: wr) cl sl := by
  obtain ⟨⟨hx, hb, hml, hown, hts⟩, hK, hA, hX⟩ := hE
  intro H locs hP hD hS
  exact va_putF hx hb hts (s_in ci _ hc) (s_fty ci) (s_ftyo ci _ hc) (s_nmo ci _ hc) hown hK hP hD hS 0 rfl hc k hk (hts _ (gT_of hlk rfl)) (fun x h => by rw [hdecl] at h; exact h) hfin hin2 hdecl (s_ftyo ci _ hc k hk) hn hfit hl hdg (fun H1 locs1 hP1 hD1 hS1 => kk H1 locs1 hP1 hD1 hS1)
theorem k_pV (hE : kE p s m args c D cy f A own cc nL) {ci N ix k h0 : Nat} {T : u_T} {fs : List Value} {wr : va_W} {v : Value} (hc : vwCl[ci]? = some (own, T, N)) (hk : k < N) (hlk : Cond.fieldLink own ix own (T k).2.1 (T k).2.2.1 ∈ lw_tbl) (hfin : (T k).2.2.2 = false) (hdecl : (T k).1 = own) (hn : narrow (s_fty ci k) v = v) (hfit : fits (s_fty ci k) v = true) (hl : k < fs.length) (hdg : decode cc pc = .ok (.putfield ix, 3))
    (kk : kG p l e R s m args below meth c D A Q (pc + 3) ls rest ((h0, .inr (ci, fs.set k v)) :: wr) cl sl) : kG p l e R s m args below meth c D A Q pc ls (v :: .ref h0 :: rest) ((h0, .inr (ci, fs)) :: wr) cl sl := by
  obtain ⟨⟨hx, hb, hml, hown, hts⟩, hK, hA, hX⟩ := hE
  intro H locs hP hD hS
  exact va_put hx hb hts (s_in ci _ hc) (s_fty ci) (s_ftyo ci _ hc) (s_nmo ci _ hc) hown hK hP hD hS 0 rfl hc k hk (hts _ (gT_of hlk rfl)) (fun x h => by rw [hdecl] at h; exact h) hfin (s_ftyo ci _ hc k hk) hn hfit hl hdg (fun H1 locs1 hP1 hD1 hS1 => kk H1 locs1 hP1 hD1 hS1)
theorem k_gt (hE : kE p s m args c D cy f A own cc nL) {ci N ix k h0 : Nat} {T : u_T} {fs : List Value} {wr : va_W} {v : Value} (hc : vwCl[ci]? = some (own, T, N)) (hk : k < N) (hlk : Cond.fieldLink own ix own (T k).2.1 (T k).2.2.1 ∈ lw_tbl) (hdecl : (T k).1 = own) (hv : fs[k]? = some v) (hdg : decode cc pc = .ok (.getfield ix, 3))
    (kk : kG p l e R s m args below meth c D A Q (pc + 3) ls (v :: rest) ((h0, .inr (ci, fs)) :: wr) cl sl) : kG p l e R s m args below meth c D A Q pc ls (.ref h0 :: rest) ((h0, .inr (ci, fs)) :: wr) cl sl := by
  obtain ⟨⟨hx, hb, hml, hown, hts⟩, hK, hA, hX⟩ := hE
  intro H locs hP hD hS
  exact va_get hx hb hts (s_in ci _ hc) hown hK hP 0 rfl hc k hk (hts _ (gT_of hlk rfl)) (fun x h => by rw [hdecl] at h; exact h) hv hdg (kk H locs hP hD hS)
theorem k_aa (hE : kE p s m args c D cy f A own cc nL) (q0 qk : Nat) {t ci a v N : Nat} {r : vw_C} {vs : List Value} {g : List (Option Nat)} {i : Int32} (ha : ws[q0]? = some (a, .inl (cy t, (N, .inr (.inr (.inr (.inr (k_rf g)))))))) (ht : (s_tys cy)[t]? = some (cy t, .object r.1)) (hv : ws[qk]? = some (v, .inr (ci, vs))) (hc : vwCl[ci]? = some r) (hin : vp_in i N) (hg : i.toNatClampNeg < g.length) (hdg : decode cc pc = .ok (.aastore, 1))
    (kk : kG p l e R s m args below meth c D A Q (pc + 1) ls rest (ws.set q0 (a, .inl (cy t, (N, .inr (.inr (.inr (.inr (k_rf (g.set i.toNatClampNeg (some v))))))))) ) cl sl) : kG p l e R s m args below meth c D A Q pc ls (.ref v :: .int i :: .ref a :: rest) ws cl sl := by
  obtain ⟨⟨hx, hb, hml, hown, hts⟩, hK, hA, hX⟩ := hE
  intro H locs hP hD hS
  refine va_astq hx hb hK hP hD hS q0 t qk ci ha ht hv hc hin hdg (fun H1 locs1 hP1 hD1 hS1 => ?_)
  rw [k_rf_up hg] at hP1 hD1
  exact kk H1 locs1 hP1 hD1 hS1
end SMake

/-! ===== constructors: call, entry, return ===== -/
theorem k_oneP {D : va_G} {x : Nat × va_E} {H : Heap} (h : va_at D vwCl x H) : va_P D vwCl [x] H := fun k q hq => by
  rw [k_one hq]
  exact h
theorem k_oneA {a z : Nat} {e : va_E} {sz : Nat} (h : va_A [(a, e)] sz z) : z = a ∨ sz ≤ z := by
  rcases h with ⟨k, e', hk⟩ | h
  · exact Or.inl (congrArg Prod.fst (k_one hk))
  · exact Or.inr h
theorem k_selfA {a sz : Nat} {e : va_E} : va_A [(a, e)] sz a := Or.inl ⟨0, e, rfl⟩
theorem k_oneD {a sz : Nat} {e : va_E} : va_D (va_A [(a, e)] sz) [(a, e)] := by
  refine ⟨fun i j x y hi hj _ => ?_, fun k q hk => ?_⟩
  · cases i with
    | zero =>
      cases j with
      | zero => rfl
      | succ j => simp at hj
    | succ i => simp at hi
  · rw [k_one hk]
    exact k_selfA
/-- what is made is put behind what was there -/
theorem k_join {D : va_G} {A : Nat → Prop} {ws w1 : va_W} {q : Nat} {x : va_E} {H H1 : Heap} (hP : va_P D vwCl (ws ++ [(q, x)]) H) (hD : va_D A (ws ++ [(q, x)])) (hFA : ∀ z, va_A [(q, x)] H.size z → A z) (hk : ∀ z : Nat, z < H.size → ¬ va_A [(q, x)] H.size z → H1[z]? = H[z]?) (hP1 : va_P D vwCl w1 H1) (hD1 : va_D (va_A [(q, x)] H.size) w1) : va_P D vwCl (ws ++ w1) H1 ∧ va_D A (ws ++ w1) := by
  have hq : (ws ++ [(q, x)])[ws.length]? = some (q, x) := by simp
  have hw : ∀ (k : Nat) (z : Nat × va_E), ws[k]? = some z → (ws ++ [(q, x)])[k]? = some z := fun k z hz => by
    rw [List.getElem?_append_left (List.getElem?_eq_some_iff.mp hz).1]
    exact hz
  have hlt : ∀ (k : Nat) (z : Nat × va_E), ws[k]? = some z → z.1 < H.size := fun k z hz => (hP k z (hw k z hz)).lt
  have hne : ∀ (k : Nat) (z : Nat × va_E), ws[k]? = some z → ¬ va_A [(q, x)] H.size z.1 := fun k z hz h => by
    rcases k_oneA h with h | h
    · have := hD.1 k ws.length z (q, x) (hw k z hz) hq h
      have := (List.getElem?_eq_some_iff.mp hz).1
      omega
    · have := hlt k z hz
      omega
  have hPw : va_P D vwCl ws H1 := fun k z hz => (hP k z (hw k z hz)).kept (hk z.1 (hlt k z hz) (hne k z hz))
  refine ⟨hPw.app hP1, fun i j a b hi hj hab => ?_, fun k z hz => ?_⟩
  · rcases Nat.lt_or_ge i ws.length with h1 | h1
    · rw [List.getElem?_append_left h1] at hi
      rcases Nat.lt_or_ge j ws.length with h2 | h2
      · rw [List.getElem?_append_left h2] at hj
        exact hD.1 i j a b (hw i a hi) (hw j b hj) hab
      · rw [List.getElem?_append_right h2] at hj
        exact absurd (by rw [hab]; exact hD1.2 _ b hj) (hne i a hi)
    · rw [List.getElem?_append_right h1] at hi
      rcases Nat.lt_or_ge j ws.length with h2 | h2
      · rw [List.getElem?_append_left h2] at hj
        exact absurd (by rw [← hab]; exact hD1.2 _ a hi) (hne j b hj)
      · rw [List.getElem?_append_right h2] at hj
        have := hD1.1 _ _ a b hi hj hab
        omega
  · rcases Nat.lt_or_ge k ws.length with h1 | h1
    · rw [List.getElem?_append_left h1] at hz
      exact hD.2 k z (hw k z hz)
    · rw [List.getElem?_append_right h1] at hz
      exact hFA _ (hD1.2 _ z hz)
theorem k_places {D : va_G} {A : Nat → Prop} {ws w1 : va_W} {H : Heap} (hP : va_P D vwCl ws H) (hD : va_D A ws) (is : List Nat) (hn : va_nd is = true) (his : is.map (fun i => ws[i]?) = w1.map some) : va_P D vwCl w1 H ∧ va_D A w1 := by
  refine ⟨fun k x hx => ?_, hD.sub is hn his⟩
  have h := congrArg (fun z => z[k]?) his
  simp only [List.getElem?_map, hx] at h
  cases hi : is[k]? with
  | none => rw [hi] at h; cases h
  | some i =>
    rw [hi] at h
    exact hP i x (Option.some.inj h)
section SMake
variable {p : Program} {l : Launch} {e : Env} {R : Room} {s : State} {m : MethodId} {args : Array Value} {below : List Frame} {meth : Method} {c : Code} {D : va_G} {cy : Nat → ClassId} {f : Nat → Nat} {A : Nat → Prop} {Q : State → Prop} {own : String} {cc : ByteArray} {nL cl sl : Nat} {ls : Array Slot} {rest : List Value} {pc : Nat} {ws : va_W}
def kSt (y : MethodName) (b : ByteArray) (n k : Nat) : Prop := y.name = "<init>" ∧ Cond.code y b n none ∈ lw_tbl ∧ Cond.initialized y.cls ∈ lw_tbl ∧ Cond.instanceMethod y ∈ lw_tbl ∧ (y.cls ≠ "java/lang/invoke/MethodHandle" ∧ y.cls ≠ "java/lang/invoke/VarHandle" ∧ (parseMethodDescriptor y.desc).map (fun d => d.parameters.length) = some k)
theorem k_in (hE : kE p s m args c D cy f A own cc nL) {y : MethodName} {b : ByteArray} {n fr lo mc ms ci ix : Nat} {fs As : List Value} {L0 : sH} {post : Nat → (Nat → Nat) → Prop} {q : Nat} (hM : kMet l D cy f y b n fr lo mc ms ci fs As L0 post) (hy : kSt y b n As.length) (hlk : Cond.methodLink own ix y ∈ lw_tbl ∨ (own, ix, y) ∈ k_nests) (hR : fr + 1 ≤ R.frames ∧ 8 + (n + 11) + lo ≤ R.locals) (hc1 : cl + mc ≤ R.cells) (hc2 : sl + ms ≤ R.slots) (hsz : ls.size = nL) (h8 : (rest.map fun v => v.category).sum ≤ 8) {st : List Value} (hst : st = As.reverse ++ .ref q :: rest) (hdg : decode cc pc = .ok (.invokespecial ix, 3))
    (kk : ∀ ad, post q ad → kG p l e R s m args below meth c D A Q (pc + 3) ls rest (ws ++ k_rl cy ad 0 L0) (cl + mc) (sl + ms)) : kG p l e R s m args below meth c D A Q pc ls st (ws ++ [(q, .inr (ci, fs))]) cl sl := by
  obtain ⟨⟨hx, hb, hml, hown, hts⟩, hK, hA, hX⟩ := hE
  obtain ⟨hyn, hcode, hini, hin, hsn⟩ := hy
  subst hst
  intro H locs hP hD hS
  have hq : (ws ++ [(q, .inr (ci, fs))])[ws.length]? = some (q, .inr (ci, fs)) := by simp
  have hFA : ∀ z, va_A [(q, .inr (ci, fs))] H.size z → A z := fun z hz => by
    rcases k_oneA hz with h | h
    · rw [h]; exact hD.2 _ _ hq
    · exact hA z (Nat.le_trans hS.1 h)
  have hPre : FrameBlind (kPc D cy f ci fs As q H.size) ∧ ∀ U : State, U.heap = H → s.WarmedH U.vm → kPc D cy f ci fs As q H.size (.ref q :: As).toArray U :=
    ⟨k_blind D cy f ci fs As q H.size, fun U hU hW => ⟨rfl, by rw [hU], by rw [hU]; exact k_oneP (hP _ _ hq), va_K.moved hW.alike hK, k_X_warm hW hU hS hFA hX⟩⟩
  have hini' := hts _ (gT_of hini rfl)
  have hr : va_Run p l e R s m args below meth c H locs cl sl mc ms (F0 m pc ls (As.reverse ++ .ref q :: rest)) rest (kQc D cy ci fs L0 post q H.size (Value.ref q :: As).toArray) (va_A [(q, .inr (ci, fs))] H.size) := by
    rcases hlk with hlk | hlk
    · exact va_runI (Ts := gT) ⟨hx, hb, hml, hown, hts⟩ (hM q H.size) ⟨callB_of As.length hts (s_words_good hts hcode) rfl rfl rfl hini' (hts _ (gT_of hlk rfl)) hsn hR, hyn, hts _ (gT_of hin rfl)⟩ hPre rfl rfl hsz rfl (lv_room h8) hdg ⟨hc1, hc2⟩
    · exact va_runIN (Ts := gT) (host := "WishClerk") ⟨hx, hb, hml, hown, hts⟩ (hM q H.size) ⟨va_cnB As.length hts (s_words_good hts hcode) rfl rfl rfl (hX.1.1 _ hlk) hini' hsn hR, hyn, hts _ (gT_of hin rfl)⟩ hPre rfl rfl hsz rfl (lv_room h8) hdg ⟨hc1, hc2⟩
  refine va_callv hr hS (fun z _ h => hFA z h) hFA (fun ad t H1 locs1 ht hvm hw hB hz1 hk1 hS1 => ?_)
  obtain ⟨hPn, hDn⟩ := hB
  rw [ht] at hPn
  obtain ⟨h1, h2⟩ := k_join hP hD hFA hk1 hPn hDn
  exact kk ad hw H1 locs1 h1 h2 hS1
theorem k_rtn {h0 ci sz : Nat} {fs : List Value} (hE : kE p s m args c D cy f (va_A [(h0, .inr (ci, fs))] sz) own cc nL) (hr : meth.sig.returnType = none ∧ meth.locks = false) {mc ms : Nat} {L0 : sH} {post : Nat → (Nat → Nat) → Prop} (ad : Nat → Nat) (hp : post h0 ad) (is : List Nat) (hn : va_nd is = true) (his : is.map (fun i => ws[i]?) = (k_rl cy ad 0 L0).map some) (h1 : cl ≤ mc) (h2 : sl ≤ ms) (hdg : decode cc pc = .ok (.return_, 1)) :
    kG p l e R s m args below meth c D (va_A [(h0, .inr (ci, fs))] sz) (MQ below (kQc D cy ci fs L0 post h0 sz) args s mc ms (va_A [(h0, .inr (ci, fs))] sz)) pc ls [] ws cl sl := by
  obtain ⟨⟨hx, hb, hml, hown, hts⟩, hK, hA, hX⟩ := hE
  intro H locs hP hD hS
  obtain ⟨g1, g2⟩ := k_places hP hD is hn his
  refine W.widen h1 h2 ?_
  exact W.vret hx hb hr.1 (fun t ht hW => ⟨⟨ad, rfl, hp, by rw [ht]; exact g1, g2⟩, hS.F ht⟩) hS.2.2 hdg hr.2
theorem k_of {y : MethodName} {b : ByteArray} {n fr lo mc ms ci : Nat} {fs As : List Value} {L0 : sH} {post : Nat → (Nat → Nat) → Prop} (hpl : plainName y.cls = true) (hyn : y.name = "<init>") (hcat : (lg_sl As).length + 1 ≤ n)
    (hbody : ∀ (p : Program) (e : Env) (s : State) (m : MethodId) (args : Array Value) (below : List Frame) (meth : Method) (c : Code) (h0 : Nat), kE p s m args c D cy f (va_A [(h0, .inr (ci, fs))] s.heap.size) y.cls b n → meth.name = "<init>" → meth.sig.returnType = none ∧ meth.locks = false → ∀ ls, lv_has ls n ((0, .ref h0) :: lv_args 1 As) →
      kG p l e { frames := fr, cells := mc, slots := ms, locals := lo } s m args below meth c D (va_A [(h0, .inr (ci, fs))] s.heap.size) (MQ below (kQc D cy ci fs L0 post h0 s.heap.size) args s mc ms (va_A [(h0, .inr (ci, fs))] s.heap.size)) 0 ls [] [(h0, .inr (ci, fs))] 0 0) : kMet l D cy f y b n fr lo mc ms ci fs As L0 post := by
  intro h0 sz
  refine Met.ofW (cc := b) (maxL := n) (ret := none) hpl rfl ?_
  intro p e s m args below meth c s₁ B hml hv
  obtain ⟨rfl, hsz, hP, hK, hX⟩ := hv
  subst hsz
  have hts : ∀ w ∈ gT, w.before (Value.ref h0 :: As).toArray s = true := fun w hw => atoms_spec (ws := s_words y b n none) B.pre w (List.mem_cons_of_mem _ hw)
  have hown : s.vm.findClass y.cls = some m.cls := findClass_of_methodNamed B.named
  have hin : meth.name = "<init>" := by rw [← hyn]; exact (name_of_methodNamed B.named B.method).1
  have hl := lv_entry (.ref h0 :: As) (n := n) (by rw [show lg_sl (Value.ref h0 :: As) = Slot.val (.ref h0) :: lg_sl As from rfl, List.length_cons]; exact hcat)
  rw [lg_entry_eq]
  exact hbody p e s m _ below meth c h0 ⟨⟨B.exec, B.bytes, hml, hown, hts⟩, hK, fun q h => Or.inr h, hX⟩ hin ⟨B.returns, B.notSynchronized⟩ _ hl s.heap [] hP k_oneD va_S.rf
/-- from the small machine, where nothing is made any more -/
theorem k_Gp {ad : Nat → Nat} {n0 : Nat} {ls0 : sL} {st : sS} {L : sH} (h : s_Gp p l e R s m args below meth c D cy ad A Q nL n0 cl sl pc ls0 st L) (hn0 : L.length = n0) {lr : Array Slot} (hl : lv_has lr nL (s_as ad 0 ls0)) {st' : List Value} (hst : st' = st.map (s_rv ad)) (is : List Nat) (hn : va_nd is = true) (his : is.map (fun i => ws[i]?) = (k_rl cy ad 0 L).map some) : kG p l e R s m args below meth c D A Q pc lr st' ws cl sl := by
  intro H locs hP hD hS
  obtain ⟨g1, g2⟩ := k_places hP hD is hn his
  rw [k_rl_eq] at g1 g2
  subst hst
  exact h hn0 H locs lr g1 g2 hS hl
end SMake

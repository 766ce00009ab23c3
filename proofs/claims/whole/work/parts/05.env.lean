/-! ===== where a method stands, and the rule of the call ===== -/
section SEnv
variable {p : Program} {l : Launch} {e : Env} {R : Room} {s : State} {m : MethodId} {args : Array Value} {below : List Frame} {meth : Method} {c : Code} {D : va_G} {cy : Nat → ClassId} {ad : Nat → Nat} {A : Nat → Prop} {Q : State → Prop} {E : sE} {own : String} {cc : ByteArray} {nL n0 cl sl : Nat}
def s_scr (E : sE) (ad : Nat → Nat) (A : Nat → Prop) (s : State) : Prop := match E with
  | none => True
  | some (n, xs) => va_X (ad 599) n xs s s.heap ∧ ad 599 < s.heap.size ∧ ¬ A (ad 599)
def s_Env (p : Program) (R : Room) (s : State) (m : MethodId) (args : Array Value) (c : Code) (D : va_G) (cy : Nat → ClassId) (ad : Nat → Nat) (A : Nat → Prop) (E : sE) (own : String) (cc : ByteArray) (nL cl sl : Nat) : Prop :=
  p.tables.exec = Jvm.exec ∧ c.code = cc ∧ c.maxLocals = nL ∧ s.vm.findClass own = some m.cls ∧ (∀ w ∈ gT, w.before args s = true) ∧ va_K D vwCl (s_tys cy) s ∧ s_nst s ∧ s_str ad A s s.heap ∧ (∀ q, s.heap.size ≤ q → A q) ∧ s_scr E ad A s ∧ cl ≤ R.cells ∧ sl ≤ R.slots
def s_Gp (p : Program) (l : Launch) (e : Env) (R : Room) (s : State) (m : MethodId) (args : Array Value) (below : List Frame) (meth : Method) (c : Code) (D : va_G) (cy : Nat → ClassId) (ad : Nat → Nat) (A : Nat → Prop) (Q : State → Prop) (nL n0 cl sl : Nat) (pc : Nat) : sK := fun ls st L =>
  L.length = n0 → ∀ (H : Heap) (locs : List Loc) (lr : Array Slot), va_P D vwCl (s_rl cy ad L) H → va_D A (s_rl cy ad L) → va_S A s.heap H locs → lv_has lr nL (s_as ad 0 ls) → W p l e R s m args below meth c H locs cl sl Q (F0 m pc lr (st.map (s_rv ad)))
theorem s_nst_warm {s U : State} (hW : s.WarmedH U.vm) (h : s_nst s) : s_nst U := fun q hq => va_Nw.warmM hW (h q hq)
theorem s_str_warm {ad : Nat → Nat} {A B : Nat → Prop} {s U : State} {H : Heap} {locs : List Loc} (hW : s.WarmedH U.vm) (hU : U.heap = H) (hS : va_S A s.heap H locs) (hAB : ∀ q, B q → A q) (h : s_str ad A s s.heap) : s_str ad B U U.heap := by
  obtain ⟨adV, h1, h2, h3⟩ := h
  refine ⟨adV, ?_, fun i q hq => vk_R.warm hW (h2 i q hq), ?_, ?_⟩
  · rw [hU]
    exact ((vk_S.moved hW.alike h1).kept (fun a h3 h4 => hS.2.1 a h3 h4)).narrow hAB
  · rw [hU]
    exact ((va_Z.moved hW.alike h3.1).kept (fun a h3 h4 => hS.2.1 a h3 h4)).narrow hAB
  · rw [hU]
    exact ((va_Zq.moved hW.alike h3.2).kept (fun a h3 h4 => hS.2.1 a h3 h4)).narrow hAB
theorem s_str_ren {ad f : Nat → Nat} {A : Nat → Prop} {U : State} {H : Heap} (hf : ∀ i, i < 10 → f (500 + i) = ad (500 + i)) (h : s_str ad A U H) : s_str f A U H := by
  obtain ⟨adV, h1, h2, h3⟩ := h
  refine ⟨adV, ⟨fun i hi => ?_, fun i j hi hj hij => ?_⟩, fun i q hq => ?_, h3⟩
  · have := h1.1 i hi
    dsimp only at this ⊢
    rw [← hf i hi] at this
    exact this
  · have hij : f (500 + i) = f (500 + j) := hij
    rw [hf i hi, hf j hj] at hij
    exact h1.2 i j hi hj hij
  · have hi : i < 10 := (List.getElem?_eq_some_iff.mp hq).1
    have := h2 i q hq
    rw [← hf i hi] at this
    exact this
theorem s_words_good {args : Array Value} {s : State} (hts : ∀ w ∈ gT, w.before args s = true) {y : MethodName} {b : ByteArray} {n : Nat} {r : Option FieldType} (hc : Cond.code y b n r ∈ lw_tbl) : GoodIn gT (s_words y b n r) := by
  intro w hw
  have hg : w ∈ gT := by
    rcases List.mem_cons.mp hw with e | e
    · rw [e]; exact gT_of hc rfl
    · exact e
  exact ⟨hg, good_of_word (gT_in hg).2⟩
/-- behind a call: the caller's cells -/
theorem s_join {H H1 : Heap} {L L' : sH} {fp : List Nat} (hP : va_P D vwCl (s_rl cy ad L) H) (hD : va_D A (s_rl cy ad L)) (hf : (∀ (i j a : Nat), fp[i]? = some a → fp[j]? = some a → i = j) ∧ ∀ a ∈ fp, a < L.length) (h5 : fp.length ≤ 500)
    (hk : ∀ q : Nat, q < H.size → ¬ va_A (s_rl cy (fun k => ad (s_un fp k)) (s_sub fp L fp)) H.size q → H1[q]? = H[q]?) (hl : L'.length = (s_sub fp L fp).length) (hP1 : va_P D vwCl (s_rl cy (fun k => ad (s_un fp k)) L') H1) : va_P D vwCl (s_rl cy ad (s_put fp fp L' L)) H1 := by
  obtain ⟨hs1, hs2⟩ := s_sub_at fp L fp hf.2
  intro k q hq
  have hq0 : (s_rl cy ad (s_put fp fp L' L))[k]? = some q := hq
  simp only [s_rl, List.getElem?_mapIdx] at hq0
  by_cases hin : k ∈ fp
  · obtain ⟨j, hj⟩ := List.getElem?_of_mem hin
    have hjl : j < fp.length := (List.getElem?_eq_some_iff.mp hj).1
    have hj2 : j < L'.length := by rw [hl, hs1]; exact hjl
    have e1 := s_put_in fp fp L' L j k L'[j] hf.1 hf.2 hj (List.getElem?_eq_getElem hj2)
    rw [e1] at hq0
    have hq1 := (Option.some.inj hq0).symm
    subst hq1
    have h2 := hP1 j (ad (s_un fp j), s_rc cy (fun k => ad (s_un fp k)) L'[j]) (by simp [s_rl, hj2])
    have e2 : s_un fp j = k := by
      unfold s_un
      rw [s_nth_eq, hj]
    rw [e2] at h2
    have e3 := s_rc_mc cy ad (s_un fp) L'[j]
    show va_at D vwCl (ad k, s_rc cy ad (s_mc (s_un fp) L'[j])) H1
    rw [e3]
    exact h2
  · rw [s_put_out fp fp L' L k hin] at hq0
    have hk0 : (s_rl cy ad L)[k]? = some q := by simp only [s_rl, List.getElem?_mapIdx]; exact hq0
    have h1 := hP k q hk0
    have hlt := h1.lt
    refine h1.kept (hk q.1 hlt (fun hA => ?_))
    rcases hA with ⟨j, e, hj⟩ | hA
    · simp only [s_rl, List.getElem?_mapIdx] at hj
      cases hc : (s_sub fp L fp)[j]? with
      | none => rw [hc] at hj; cases hj
      | some x =>
        rw [hc] at hj
        have hjl : j < fp.length := by rw [← hs1]; exact (List.getElem?_eq_some_iff.mp hc).1
        have e1 : ad (s_un fp j) = q.1 := congrArg Prod.fst (Option.some.inj hj)
        have e2 : s_un fp j = fp[j] := by
          unfold s_un
          rw [s_nth_eq, List.getElem?_eq_getElem hjl]
        rw [e2] at e1
        have hmem : fp[j] ∈ fp := List.getElem_mem hjl
        have hlen : fp[j] < L.length := hf.2 _ hmem
        have h3 : (s_rl cy ad L)[fp[j]]? = some (ad fp[j], s_rc cy ad L[fp[j]]) := by simp [s_rl, hlen]
        have := hD.1 k fp[j] q _ hk0 h3 e1.symm
        exact hin (by rw [this]; exact hmem)
    · omega
theorem s_sub_P {H : Heap} {L : sH} {fp : List Nat} (hP : va_P D vwCl (s_rl cy ad L) H) (hf : ∀ a ∈ fp, a < L.length) (h5 : fp.length ≤ 500) : va_P D vwCl (s_rl cy (fun k => ad (s_un fp k)) (s_sub fp L fp)) H := by
  obtain ⟨hs1, hs2⟩ := s_sub_at fp L fp hf
  intro j q hq
  simp only [s_rl, List.getElem?_mapIdx] at hq
  cases hc : (s_sub fp L fp)[j]? with
  | none => rw [hc] at hq; cases hq
  | some x =>
    rw [hc] at hq
    have hjl : j < fp.length := by rw [← hs1]; exact (List.getElem?_eq_some_iff.mp hc).1
    obtain ⟨cl0, h1, h2⟩ := hs2 j fp[j] (List.getElem?_eq_getElem hjl)
    have hx : x = s_mc (s_rho fp) cl0 := Option.some.inj (hc.symm.trans h2)
    have e2 : s_un fp j = fp[j] := by
      unfold s_un
      rw [s_nth_eq, List.getElem?_eq_getElem hjl]
    have hq1 := (Option.some.inj hq).symm
    subst hq1
    have h3 := hP fp[j] (ad fp[j], s_rc cy ad cl0) (by simp [s_rl, h1])
    have e3 := s_rc_mc cy (fun k => ad (s_un fp k)) (s_rho fp) cl0
    have e4 : (fun k => (fun k => ad (s_un fp k)) (s_rho fp k)) = ad := by funext k; show ad (s_un fp (s_rho fp k)) = ad k; rw [s_un_rho fp h5]
    rw [e4] at e3
    show va_at D vwCl (ad (s_un fp j), s_rc cy (fun k => ad (s_un fp k)) x) H
    rw [hx, e3, e2]
    exact h3
theorem s_sub_D {L : sH} {fp : List Nat} (hD : va_D A (s_rl cy ad L)) (hf : (∀ (i j a : Nat), fp[i]? = some a → fp[j]? = some a → i = j) ∧ ∀ a ∈ fp, a < L.length) : va_D A (s_rl cy (fun k => ad (s_un fp k)) (s_sub fp L fp)) := by
  obtain ⟨hs1, hs2⟩ := s_sub_at fp L fp hf.2
  have key : ∀ (j : Nat) (q : Nat × va_E), (s_rl cy (fun k => ad (s_un fp k)) (s_sub fp L fp))[j]? = some q → ∃ (a : Nat) (q2 : Nat × va_E), fp[j]? = some a ∧ (s_rl cy ad L)[a]? = some q2 ∧ q2.1 = q.1 := by
    intro j q hq
    simp only [s_rl, List.getElem?_mapIdx] at hq
    cases hc : (s_sub fp L fp)[j]? with
    | none => rw [hc] at hq; cases hq
    | some x =>
      rw [hc] at hq
      have hjl : j < fp.length := by rw [← hs1]; exact (List.getElem?_eq_some_iff.mp hc).1
      have e2 : s_un fp j = fp[j] := by
        unfold s_un
        rw [s_nth_eq, List.getElem?_eq_getElem hjl]
      have hlen : fp[j] < L.length := hf.2 _ (List.getElem_mem hjl)
      refine ⟨fp[j], (ad fp[j], s_rc cy ad L[fp[j]]), List.getElem?_eq_getElem hjl, by simp [s_rl, hlen], ?_⟩
      show ad fp[j] = q.1
      rw [← e2]
      exact congrArg Prod.fst (Option.some.inj hq)
  refine ⟨fun i j x y hi hj hxy => ?_, fun k q hk => ?_⟩
  · obtain ⟨a, qa, h1, h2, h3⟩ := key i x hi
    obtain ⟨b, qb, h4, h5, h6⟩ := key j y hj
    have hab := hD.1 a b qa qb h2 h5 (by rw [h3, h6, hxy])
    subst hab
    exact hf.1 i j a h1 h4
  · obtain ⟨a, qa, h1, h2, h3⟩ := key k q hk
    rw [← h3]
    exact hD.2 a qa h2
end SEnv

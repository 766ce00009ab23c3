/-! ===== every instruction ===== -/
theorem s_ckT_spec {tgt : Nat → Option Nat} {pc : Nat} {off : Int} {b : Nat} (h : s_ckT tgt pc off b = true) : ∃ t, tgt b = some t ∧ (pc : Int) + off = (t : Int) := by
  unfold s_ckT at h
  cases ht : tgt b with
  | none => rw [ht] at h; cases h
  | some t => rw [ht] at h; exact ⟨t, rfl, of_decide_eq_true h⟩
theorem s_cmp_br {x y : Int32} {j k : Prop} : ∀ {co : ClassFile.Cond}, s_cmp co x y j k → (co = .eq → (x = y → j) ∧ (¬ x = y → k)) ∧ (co = .ne → (¬ x = y → j) ∧ (x = y → k)) ∧ (co = .lt → (x < y → j) ∧ (¬ x < y → k)) ∧ (co = .ge → (¬ x < y → j) ∧ (x < y → k)) ∧ (co = .gt → (y < x → j) ∧ (¬ y < x → k)) ∧ (co = .le → (¬ y < x → j) ∧ (y < x → k))
  | .eq, h => ⟨fun _ => h, fun e => (by cases e), fun e => (by cases e), fun e => (by cases e), fun e => (by cases e), fun e => (by cases e)⟩
  | .ne, h => ⟨fun e => (by cases e), fun _ => ⟨h.2, h.1⟩, fun e => (by cases e), fun e => (by cases e), fun e => (by cases e), fun e => (by cases e)⟩
  | .lt, h => ⟨fun e => (by cases e), fun e => (by cases e), fun _ => h, fun e => (by cases e), fun e => (by cases e), fun e => (by cases e)⟩
  | .ge, h => ⟨fun e => (by cases e), fun e => (by cases e), fun e => (by cases e), fun _ => ⟨h.2, h.1⟩, fun e => (by cases e), fun e => (by cases e)⟩
  | .gt, h => ⟨fun e => (by cases e), fun e => (by cases e), fun e => (by cases e), fun e => (by cases e), fun _ => h, fun e => (by cases e)⟩
  | .le, h => ⟨fun e => (by cases e), fun e => (by cases e), fun e => (by cases e), fun e => (by cases e), fun e => (by cases e), fun _ => ⟨h.2, h.1⟩⟩
theorem s_nle {x y : Int32} : ¬ x < y ↔ y ≤ x := by rw [Int32.lt_iff_toInt_lt, Int32.le_iff_toInt_le]; omega
section SStep
variable {p : Program} {l : Launch} {e : Env} {R : Room} {s : State} {m : MethodId} {args : Array Value} {below : List Frame} {meth : Method} {c : Code} {D : va_G} {cy : Nat → ClassId} {ad : Nat → Nat} {A : Nat → Prop} {Q : State → Prop} {E : sE} {own : String} {cc : ByteArray} {nL n0 cl sl : Nat}
/-- what a return comes to -/
def s_Ret (p : Program) (l : Launch) (e : Env) (R : Room) (s : State) (m : MethodId) (args : Array Value) (below : List Frame) (meth : Method) (c : Code) (D : va_G) (cy : Nat → ClassId) (ad : Nat → Nat) (A : Nat → Prop) (Q : State → Prop) (cc : ByteArray) (n0 cl sl : Nat) (P : sP) (z : Bool) : Prop :=
  ∀ (pc : Nat) (L : sH) (H : Heap) (locs : List Loc) (lr : Array Slot), L.length = n0 → va_P D vwCl (s_rl cy ad L) H → va_D A (s_rl cy ad L) → va_S A s.heap H locs →
    (decode cc pc = .ok (.ireturn, 1) → ∀ v : Int32, (z = true → v = 0 ∨ v = 1) → P (some (.int v)) L → W p l e R s m args below meth c H locs cl sl Q (F0 m pc lr [.int v])) ∧
    (decode cc pc = .ok (.lreturn, 1) → ∀ v : Int64, P (some (.long v)) L → W p l e R s m args below meth c H locs cl sl Q (F0 m pc lr [.long v])) ∧
    (decode cc pc = .ok (.return_, 1) → P none L → W p l e R s m args below meth c H locs cl sl Q (F0 m pc lr []))
theorem s_tab_in {x : Int32} {jmp : Nat → Prop} {d : Nat} : ∀ (bs : List Nat) (lo : Int), s_tab x jmp d lo bs → ∀ (k b : Nat), bs[k]? = some b → x = Int32.ofInt (lo + k) → jmp b
  | [], lo, _, k, b, h, _ => by simp at h
  | a :: bs, lo, h, 0, b, hb, hx => by
    rw [List.getElem?_cons_zero] at hb
    cases hb
    exact h.1 (by rw [hx]; simp)
  | a :: bs, lo, h, k + 1, b, hb, hx => by
    rw [List.getElem?_cons_succ] at hb
    refine s_tab_in bs (lo + 1) h.2 k b hb ?_
    rw [hx]
    congr 1
    omega
theorem s_ckTs_at {tgt : Nat → Option Nat} {pc : Nat} : ∀ (os : List Int) (bs : List Nat), s_ckTs tgt pc os bs = true → os.length = bs.length ∧ ∀ (k : Nat) (o : Int), os[k]? = some o → ∃ b, bs[k]? = some b ∧ s_ckT tgt pc o b = true
  | [], [], _ => ⟨rfl, fun k o h => by simp at h⟩
  | [], b :: bs, h => by simp [s_ckTs] at h
  | o :: os, [], h => by simp [s_ckTs] at h
  | o :: os, b :: bs, h => by
    simp only [s_ckTs, Bool.and_eq_true] at h
    obtain ⟨h1, h2⟩ := s_ckTs_at os bs h.2
    refine ⟨by simp [h1], fun k o' hk => ?_⟩
    cases k with
    | zero => rw [List.getElem?_cons_zero] at hk; cases hk; exact ⟨b, rfl, h.1⟩
    | succ k => rw [List.getElem?_cons_succ] at hk ⊢; exact h2 k o' hk
theorem s_lok_at {x : Int32} {jmp : Nat → Prop} {tgt : Nat → Option Nat} {pc d : Nat} {dflt : Int} (hd : s_ckT tgt pc dflt d = true) : ∀ (ps : List (Int × Int)) (bs : List Nat), (∀ q ∈ ps, -2147483648 ≤ q.1 ∧ q.1 < 2147483648) → s_ckTs tgt pc (ps.map (fun z => z.2)) bs = true → s_lok x jmp d ps bs → ∃ b, jmp b ∧ s_ckT tgt pc (Op.lookupswitch.offset ps dflt x.toInt) b = true
  | [], [], _, _, h => ⟨d, h, hd⟩
  | [], b :: bs, _, h, _ => by simp [s_ckTs] at h
  | (a, o) :: ps, [], _, h, _ => by simp [s_ckTs] at h
  | (a, o) :: ps, b :: bs, hr, h, hl => by
    simp only [List.map_cons, s_ckTs, Bool.and_eq_true] at h
    have hra := hr (a, o) List.mem_cons_self
    have hxa : x = Int32.ofInt a ↔ a = x.toInt := by
      constructor
      · intro e
        rw [e, Int32.toInt_ofInt_of_le (by omega) (by omega)]
      · intro e
        rw [e, Int32.ofInt_toInt]
    by_cases he : x = Int32.ofInt a
    · refine ⟨b, hl.1 he, ?_⟩
      have e2 := hxa.mp he
      simp only [Op.lookupswitch.offset, e2]
      simpa using h.1
    · obtain ⟨b2, g1, g2⟩ := s_lok_at hd ps bs (fun q hq => hr q (List.mem_cons_of_mem _ hq)) h.2 (hl.2 he)
      refine ⟨b2, g1, ?_⟩
      have e2 : ¬ a = x.toInt := fun q => he (hxa.mpr q)
      simp only [Op.lookupswitch.offset]
      simpa [e2] using g2
set_option maxHeartbeats 4000000 in
theorem s_op_ok (hE : s_Env p R s m args c D cy ad A E own cc nL cl sl) {P : sP} {z : Bool} (hret : s_Ret p l e R s m args below meth c D cy ad A Q cc n0 cl sl P z) {fr lo : Nat} (hfr : fr ≤ R.frames) (hlo : lo ≤ R.locals) {tgt : Nat → Option Nat} {jmp : Nat → sK}
    (hj : ∀ b t, tgt b = some t → ∀ ls st L, jmp b ls st L → s_Gp p l e R s m args below meth c D cy ad A Q nL n0 cl sl t ls st L) {pc len : Nat} {i : Instr} {x : sX} (hni : i ≠ .nop) (hOk : ∀ ct, x.2.2 = some ct → s_Ok ct) (hdg : decode cc pc = .ok (i, s_il i len)) (hck : s_ckI own nL fr lo tgt pc i x = true) {k : sK}
    (hk : ∀ ls st L, k ls st L → s_Gp p l e R s m args below meth c D cy ad A Q nL n0 cl sl (pc + s_il i len) ls st L) {ls : sL} {st : sS} {L : sH} (h : s_st E jmp P z i x k ls st L) : s_Gp p l e R s m args below meth c D cy ad A Q nL n0 cl sl pc ls st L := by
  have hE0 := hE
  obtain ⟨hx, hb, hml, hown, hts, hK, hnst, hstr, hA, hscr, hcl, hsl⟩ := hE
  cases i with
  | nop => exact absurd rfl hni
  | iconst n =>
    have hv := of_decide_eq_true hck
    intro hlen H locs lr hP hD hS hl
    have h1 := hk _ _ _ h hlen H locs lr hP hD hS hl
    rw [hv] at h1
    exact lv_iconst hx hb hdg rfl h1
  | bipush n =>
    have hv := of_decide_eq_true hck
    intro hlen H locs lr hP hD hS hl
    have h1 := hk _ _ _ h hlen H locs lr hP hD hS hl
    rw [hv] at h1
    exact lv_bipush hx hb hdg rfl h1
  | sipush n =>
    have hv := of_decide_eq_true hck
    intro hlen H locs lr hP hD hS hl
    have h1 := hk _ _ _ h hlen H locs lr hP hD hS hl
    rw [hv] at h1
    exact lv_sipush hx hb hdg rfl h1
  | lconst n =>
    have hv := of_decide_eq_true hck
    intro hlen H locs lr hP hD hS hl
    have h1 := hk _ _ _ h hlen H locs lr hP hD hS hl
    rw [hv] at h1
    exact lv_lconst hx hb hdg rfl h1
  | ldc ix =>
    intro hlen H locs lr hP hD hS hl
    have h1 := hk _ _ _ h hlen H locs lr hP hD hS hl
    obtain ⟨ns, v, ct⟩ := x
    unfold s_ckI at hck
    dsimp only at hck
    split at hck
    · next _ _ q v' =>
      exact lv_ldc hx hb hown (hts _ (gT_of (List.mem_of_getElem? (of_decide_eq_true hck)) rfl)) hdg h1
    · next _ _ q q2 a =>
      simp only [Bool.and_eq_true, decide_eq_true_eq] at hck
      obtain ⟨ho, hq, ha⟩ := hck
      have ha := Nat.eq_of_beq_eq_true ha
      subst ha
      obtain ⟨adV, -, hR, -⟩ := hstr
      cases hz : s_lit[q]? with
      | none => rw [hz] at hq; cases hq
      | some w =>
        rw [hz] at hq
        have hw : w.1 = ix := Option.some.inj hq
        have h2 := hR q w hz
        rw [hw, ← ho] at h2
        exact va_ldcS hx hb hown h2 hdg h1
    · cases hck
  | ldc_w ix =>
    intro hlen H locs lr hP hD hS hl
    have h1 := hk _ _ _ h hlen H locs lr hP hD hS hl
    obtain ⟨ns, v, ct⟩ := x
    unfold s_ckI at hck
    dsimp only at hck
    split at hck
    · next _ _ q v' =>
      exact lv_ldcw hx hb hown (hts _ (gT_of (List.mem_of_getElem? (of_decide_eq_true hck)) rfl)) hdg h1
    · cases hck
  | ldc2_w ix =>
    intro hlen H locs lr hP hD hS hl
    have h1 := hk _ _ _ h hlen H locs lr hP hD hS hl
    obtain ⟨ns, v, ct⟩ := x
    unfold s_ckI at hck
    dsimp only at hck
    split at hck
    · next _ _ q v' =>
      exact lv_ldc2 hx hb hown (hts _ (gT_of (List.mem_of_getElem? (of_decide_eq_true hck)) rfl)) hdg h1
    · cases hck
  | iload n =>
    intro hlen H locs lr hP hD hS hl
    replace h : s_ldI ls n fun v => k ls (.int v :: st) L := h
    unfold s_ldI at h
    split at h
    · next v hv => exact lv_iload hx hb hdg (s_as_at hl hv) (hk _ _ _ h hlen H locs lr hP hD hS hl)
    · exact h.elim
  | iload_n n =>
    intro hlen H locs lr hP hD hS hl
    replace h : s_ldI ls n fun v => k ls (.int v :: st) L := h
    unfold s_ldI at h
    split at h
    · next v hv => exact lv_iload_n hx hb hdg rfl (s_as_at hl hv) (hk _ _ _ h hlen H locs lr hP hD hS hl)
    · exact h.elim
  | lload n =>
    intro hlen H locs lr hP hD hS hl
    replace h : s_ldL ls n fun v => k ls (.long v :: st) L := h
    unfold s_ldL at h
    split at h
    · next v hv => exact lv_lload hx hb hdg (s_as_at hl hv) (hk _ _ _ h hlen H locs lr hP hD hS hl)
    · exact h.elim
  | lload_n n =>
    intro hlen H locs lr hP hD hS hl
    replace h : s_ldL ls n fun v => k ls (.long v :: st) L := h
    unfold s_ldL at h
    split at h
    · next v hv => exact lv_lload_n hx hb hdg rfl (s_as_at hl hv) (hk _ _ _ h hlen H locs lr hP hD hS hl)
    · exact h.elim
  | aload n =>
    intro hlen H locs lr hP hD hS hl
    replace h : s_ldA ls n fun v => k ls (.ref v :: st) L := h
    unfold s_ldA at h
    split at h
    · next v hv => exact lv_aload hx hb hdg (s_as_at hl hv) (hk _ _ _ h hlen H locs lr hP hD hS hl)
    · exact h.elim
  | aload_n n =>
    intro hlen H locs lr hP hD hS hl
    replace h : s_ldA ls n fun v => k ls (.ref v :: st) L := h
    unfold s_ldA at h
    split at h
    · next v hv => exact lv_aload_n hx hb hdg rfl (s_as_at hl hv) (hk _ _ _ h hlen H locs lr hP hD hS hl)
    · exact h.elim
  | istore n =>
    intro hlen H locs lr hP hD hS hl
    replace h : s_I st fun v r => s_frc (s_st1 ls n (.int v)) fun ls' => k ls' r L := h
    unfold s_I at h
    split at h
    · next v r => rw [s_frc_eq] at h; exact lv_istore hx hb hdg hl (Nat.blt_eq.mp hck) rfl (fun lr2 hl2 => hk _ _ _ h hlen H locs lr2 hP hD hS (s_has_st1 (v := .int v) hl2))
    · exact h.elim
  | istore_n n =>
    intro hlen H locs lr hP hD hS hl
    replace h : s_I st fun v r => s_frc (s_st1 ls n (.int v)) fun ls' => k ls' r L := h
    unfold s_I at h
    split at h
    · next v r => rw [s_frc_eq] at h; exact lv_istore_n hx hb hdg rfl hl (Nat.blt_eq.mp hck) rfl (fun lr2 hl2 => hk _ _ _ h hlen H locs lr2 hP hD hS (s_has_st1 (v := .int v) hl2))
    · exact h.elim
  | lstore n =>
    intro hlen H locs lr hP hD hS hl
    replace h : s_J st fun v r => s_frc (s_st2 ls n (.long v)) fun ls' => k ls' r L := h
    unfold s_J at h
    split at h
    · next v r => rw [s_frc_eq] at h; exact lv_lstore hx hb hdg hl (Nat.blt_eq.mp hck) rfl (fun lr2 hl2 => hk _ _ _ h hlen H locs lr2 hP hD hS (s_has_st2 (v := .long v) hl2))
    · exact h.elim
  | lstore_n n =>
    intro hlen H locs lr hP hD hS hl
    replace h : s_J st fun v r => s_frc (s_st2 ls n (.long v)) fun ls' => k ls' r L := h
    unfold s_J at h
    split at h
    · next v r => rw [s_frc_eq] at h; exact lv_lstore_n hx hb hdg rfl hl (Nat.blt_eq.mp hck) rfl (fun lr2 hl2 => hk _ _ _ h hlen H locs lr2 hP hD hS (s_has_st2 (v := .long v) hl2))
    · exact h.elim
  | astore n =>
    intro hlen H locs lr hP hD hS hl
    replace h : s_A st fun v r => s_frc (s_st1 ls n (.ref v)) fun ls' => k ls' r L := h
    unfold s_A at h
    split at h
    · next v r => rw [s_frc_eq] at h; exact lv_astore hx hb hdg hl (Nat.blt_eq.mp hck) rfl (fun lr2 hl2 => hk _ _ _ h hlen H locs lr2 hP hD hS (s_has_st1 (v := .ref v) hl2))
    · exact h.elim
  | astore_n n =>
    intro hlen H locs lr hP hD hS hl
    replace h : s_A st fun v r => s_frc (s_st1 ls n (.ref v)) fun ls' => k ls' r L := h
    unfold s_A at h
    split at h
    · next v r => rw [s_frc_eq] at h; exact lv_astore_n hx hb hdg rfl hl (Nat.blt_eq.mp hck) rfl (fun lr2 hl2 => hk _ _ _ h hlen H locs lr2 hP hD hS (s_has_st1 (v := .ref v) hl2))
    · exact h.elim
  | iinc n q =>
    intro hlen H locs lr hP hD hS hl
    obtain ⟨ns, v, ct⟩ := x
    have hck2 : (decide (v = .int (Int32.ofInt q)) && Nat.blt n nL) = true := hck
    simp only [Bool.and_eq_true, decide_eq_true_eq] at hck2
    obtain ⟨rfl, hn⟩ := hck2
    replace h : s_ldI ls n fun v => s_frc (s_st1 ls n (.int (v + Int32.ofInt q))) fun ls' => k ls' st L := h
    unfold s_ldI at h
    split at h
    · next v hv =>
      rw [s_frc_eq] at h
      obtain ⟨kk, hkk⟩ := List.getElem?_of_mem ((s_as_mem ad ls 0 n _).mpr ⟨n, _, (Nat.zero_add n).symm, hv, rfl⟩)
      exact lv_iinc hx hb hdg hl (k := kk) (x := v) hkk rfl (Nat.blt_eq.mp hn) rfl (fun lr2 hl2 => hk _ _ _ h hlen H locs lr2 hP hD hS (s_has_st1 (v := .int (v + Int32.ofInt q)) hl2))
    · exact h.elim
  | iadd =>
    intro hlen H locs lr hP hD hS hl
    replace h : s_II st fun x y r => k ls (.int (x + y) :: r) L := h
    unfold s_II at h
    split at h
    · exact lv_iadd hx hb hdg (hk _ _ _ h hlen H locs lr hP hD hS hl)
    · exact h.elim
  | isub =>
    intro hlen H locs lr hP hD hS hl
    replace h : s_II st fun x y r => k ls (.int (x - y) :: r) L := h
    unfold s_II at h
    split at h
    · exact lv_isub hx hb hdg (hk _ _ _ h hlen H locs lr hP hD hS hl)
    · exact h.elim
  | imul =>
    intro hlen H locs lr hP hD hS hl
    replace h : s_II st fun x y r => k ls (.int (x * y) :: r) L := h
    unfold s_II at h
    split at h
    · exact lv_imul hx hb hdg (hk _ _ _ h hlen H locs lr hP hD hS hl)
    · exact h.elim
  | iand =>
    intro hlen H locs lr hP hD hS hl
    replace h : s_II st fun x y r => k ls (.int (x &&& y) :: r) L := h
    unfold s_II at h
    split at h
    · exact lv_iand hx hb hdg (hk _ _ _ h hlen H locs lr hP hD hS hl)
    · exact h.elim
  | ior =>
    intro hlen H locs lr hP hD hS hl
    replace h : s_II st fun x y r => k ls (.int (x ||| y) :: r) L := h
    unfold s_II at h
    split at h
    · exact lv_ior hx hb hdg (hk _ _ _ h hlen H locs lr hP hD hS hl)
    · exact h.elim
  | ixor =>
    intro hlen H locs lr hP hD hS hl
    replace h : s_II st fun x y r => k ls (.int (x ^^^ y) :: r) L := h
    unfold s_II at h
    split at h
    · exact lv_ixor hx hb hdg (hk _ _ _ h hlen H locs lr hP hD hS hl)
    · exact h.elim
  | ishl =>
    intro hlen H locs lr hP hD hS hl
    replace h : s_II st fun x y r => k ls (.int (x <<< (y &&& 31)) :: r) L := h
    unfold s_II at h
    split at h
    · exact lv_ishl hx hb hdg (hk _ _ _ h hlen H locs lr hP hD hS hl)
    · exact h.elim
  | ishr =>
    intro hlen H locs lr hP hD hS hl
    replace h : s_II st fun x y r => k ls (.int (x >>> (y &&& 31)) :: r) L := h
    unfold s_II at h
    split at h
    · exact lv_ishr hx hb hdg (hk _ _ _ h hlen H locs lr hP hD hS hl)
    · exact h.elim
  | iushr =>
    intro hlen H locs lr hP hD hS hl
    replace h : s_II st fun x y r => k ls (.int (x.toUInt32 >>> (y.toUInt32 &&& Int32.toUInt32 31)).toInt32 :: r) L := h
    unfold s_II at h
    split at h
    · exact lv_iushr hx hb hdg rfl (hk _ _ _ h hlen H locs lr hP hD hS hl)
    · exact h.elim
  | idiv =>
    intro hlen H locs lr hP hD hS hl
    replace h : s_II st fun x y r => ¬ y = 0 ∧ k ls (.int (x / y) :: r) L := h
    unfold s_II at h
    split at h
    · exact lv_idiv hx hb hdg h.1 (hk _ _ _ h.2 hlen H locs lr hP hD hS hl)
    · exact h.elim
  | irem =>
    intro hlen H locs lr hP hD hS hl
    replace h : s_II st fun x y r => ¬ y = 0 ∧ k ls (.int (x - x / y * y) :: r) L := h
    unfold s_II at h
    split at h
    · exact lv_irem hx hb hdg h.1 (hk _ _ _ h.2 hlen H locs lr hP hD hS hl)
    · exact h.elim
  | ladd =>
    intro hlen H locs lr hP hD hS hl
    replace h : s_JJ st fun x y r => k ls (.long (x + y) :: r) L := h
    unfold s_JJ at h
    split at h
    · exact lv_ladd hx hb hdg (hk _ _ _ h hlen H locs lr hP hD hS hl)
    · exact h.elim
  | lmul =>
    intro hlen H locs lr hP hD hS hl
    replace h : s_JJ st fun x y r => k ls (.long (x * y) :: r) L := h
    unfold s_JJ at h
    split at h
    · exact lv_lmul hx hb hdg (hk _ _ _ h hlen H locs lr hP hD hS hl)
    · exact h.elim
  | ldiv =>
    intro hlen H locs lr hP hD hS hl
    replace h : s_JJ st fun x y r => ¬ y = 0 ∧ k ls (.long (x / y) :: r) L := h
    unfold s_JJ at h
    split at h
    · exact lv_ldiv hx hb hdg h.1 (hk _ _ _ h.2 hlen H locs lr hP hD hS hl)
    · exact h.elim
  | lrem =>
    intro hlen H locs lr hP hD hS hl
    replace h : s_JJ st fun x y r => ¬ y = 0 ∧ k ls (.long (x - x / y * y) :: r) L := h
    unfold s_JJ at h
    split at h
    · exact lv_lrem hx hb hdg h.1 (hk _ _ _ h.2 hlen H locs lr hP hD hS hl)
    · exact h.elim
  | lcmp =>
    intro hlen H locs lr hP hD hS hl
    replace h : s_JJ st fun x y r => k ls (.int (lg_cmp x y) :: r) L := h
    unfold s_JJ at h
    split at h
    · exact W.lcmp hx hb hdg (hk _ _ _ h hlen H locs lr hP hD hS hl)
    · exact h.elim
  | i2l =>
    intro hlen H locs lr hP hD hS hl
    replace h : s_I st fun x r => k ls (.long x.toInt64 :: r) L := h
    unfold s_I at h
    split at h
    · exact lv_i2l hx hb hdg rfl (hk _ _ _ h hlen H locs lr hP hD hS hl)
    · exact h.elim
  | i2b =>
    intro hlen H locs lr hP hD hS hl
    replace h : s_I st fun x r => k ls (.int x.toInt8.toInt32 :: r) L := h
    unfold s_I at h
    split at h
    · exact lv_i2b hx hb hdg rfl (hk _ _ _ h hlen H locs lr hP hD hS hl)
    · exact h.elim
  | i2s =>
    intro hlen H locs lr hP hD hS hl
    replace h : s_I st fun x r => k ls (.int x.toInt16.toInt32 :: r) L := h
    unfold s_I at h
    split at h
    · exact lv_i2s hx hb hdg rfl (hk _ _ _ h hlen H locs lr hP hD hS hl)
    · exact h.elim
  | dup =>
    intro hlen H locs lr hP hD hS hl
    unfold s_st at h
    dsimp only at h
    split at h
    · exact lv_dup hx hb hdg rfl (hk _ _ _ h hlen H locs lr hP hD hS hl)
    · exact lv_dup hx hb hdg rfl (hk _ _ _ h hlen H locs lr hP hD hS hl)
    · exact h.elim
  | dup2 =>
    intro hlen H locs lr hP hD hS hl
    unfold s_st at h
    dsimp only at h
    split at h
    · exact lv_dup2_11 hx hb hdg rfl rfl (hk _ _ _ h hlen H locs lr hP hD hS hl)
    · exact h.elim
  | pop =>
    intro hlen H locs lr hP hD hS hl
    unfold s_st at h
    dsimp only at h
    split at h
    · exact lv_pop hx hb hdg rfl (hk _ _ _ h hlen H locs lr hP hD hS hl)
    · exact h.elim
  | goto off =>
    intro hlen H locs lr hP hD hS hl
    obtain ⟨ns, v, ct⟩ := x
    cases ns with
    | nil => exact h.elim
    | cons b ns =>
      obtain ⟨t, ht1, ht2⟩ := s_ckT_spec (show s_ckT tgt pc off b = true from hck)
      exact lv_goto hx hb hdg ht2 (hj b t ht1 _ _ _ h hlen H locs lr hP hD hS hl)
  | ifCond co off =>
    intro hlen H locs lr hP hD hS hl
    obtain ⟨ns, v, ct⟩ := x
    cases ns with
    | nil => exact h.elim
    | cons b ns =>
      obtain ⟨t, ht1, ht2⟩ := s_ckT_spec (show s_ckT tgt pc off b = true from hck)
      replace h : s_I st fun v r => s_cmp co v 0 (jmp b ls r L) (k ls r L) := h
      unfold s_I at h
      split at h
      · next r =>
        have hJ : jmp b ls r L → _ := fun q => hj b t ht1 ls r L q hlen H locs lr hP hD hS hl
        have hN : k ls r L → _ := fun q => hk ls r L q hlen H locs lr hP hD hS hl
        obtain ⟨c1, c2, c3, c4, c5, c6⟩ := s_cmp_br h
        cases co with
        | eq => exact lv_if_eq hx hb hdg ht2 (fun q => hJ ((c1 rfl).1 q)) (fun q => hN ((c1 rfl).2 q))
        | ne => exact lv_if_ne hx hb hdg ht2 (fun q => hJ ((c2 rfl).1 q)) (fun q => hN ((c2 rfl).2 q))
        | lt => exact lv_if_lt hx hb hdg ht2 (fun q => hJ ((c3 rfl).1 q)) (fun q => hN ((c3 rfl).2 q))
        | ge => exact lv_if_ge hx hb hdg ht2 (fun q => hJ ((c4 rfl).1 (s_nle.mpr q))) (fun q => hN ((c4 rfl).2 (Classical.not_not.mp (fun z => q (s_nle.mp z)))))
        | gt => exact lv_if_gt hx hb hdg ht2 (fun q => hJ ((c5 rfl).1 q)) (fun q => hN ((c5 rfl).2 q))
        | le => exact lv_if_le hx hb hdg ht2 (fun q => hJ ((c6 rfl).1 (s_nle.mpr q))) (fun q => hN ((c6 rfl).2 (Classical.not_not.mp (fun z => q (s_nle.mp z)))))
      · exact h.elim
  | if_icmp co off =>
    intro hlen H locs lr hP hD hS hl
    obtain ⟨ns, v, ct⟩ := x
    cases ns with
    | nil => exact h.elim
    | cons b ns =>
      obtain ⟨t, ht1, ht2⟩ := s_ckT_spec (show s_ckT tgt pc off b = true from hck)
      replace h : s_II st fun v w r => s_cmp co v w (jmp b ls r L) (k ls r L) := h
      unfold s_II at h
      split at h
      · next r =>
        have hJ : jmp b ls r L → _ := fun q => hj b t ht1 ls r L q hlen H locs lr hP hD hS hl
        have hN : k ls r L → _ := fun q => hk ls r L q hlen H locs lr hP hD hS hl
        obtain ⟨c1, c2, c3, c4, c5, c6⟩ := s_cmp_br h
        cases co with
        | eq => exact lv_icmp_eq hx hb hdg ht2 (fun q => hJ ((c1 rfl).1 q)) (fun q => hN ((c1 rfl).2 q))
        | ne => exact lv_icmp_ne hx hb hdg ht2 (fun q => hJ ((c2 rfl).1 q)) (fun q => hN ((c2 rfl).2 q))
        | lt => exact lv_icmp_lt hx hb hdg ht2 (fun q => hJ ((c3 rfl).1 q)) (fun q => hN ((c3 rfl).2 q))
        | ge => exact lv_icmp_ge hx hb hdg ht2 (fun q => hJ ((c4 rfl).1 (s_nle.mpr q))) (fun q => hN ((c4 rfl).2 (Classical.not_not.mp (fun z => q (s_nle.mp z)))))
        | gt => exact lv_icmp_gt hx hb hdg ht2 (fun q => hJ ((c5 rfl).1 q)) (fun q => hN ((c5 rfl).2 q))
        | le => exact lv_icmp_le hx hb hdg ht2 (fun q => hJ ((c6 rfl).1 (s_nle.mpr q))) (fun q => hN ((c6 rfl).2 (Classical.not_not.mp (fun z => q (s_nle.mp z)))))
      · exact h.elim
  | tableswitch d lo2 hi offs =>
    intro hlen H locs lr hP hD hS hl
    obtain ⟨ns, v, ct⟩ := x
    cases ns with
    | nil => exact h.elim
    | cons b bs =>
      have hck2 : (s_ckT tgt pc d b && (s_ckTs tgt pc offs.toList bs && decide (hi + 1 = lo2 + (bs.length : Int) ∧ -2147483648 ≤ lo2 ∧ hi < 2147483648))) = true := hck
      simp only [Bool.and_eq_true, decide_eq_true_eq] at hck2
      obtain ⟨hd, hbs, hhi, hlo1, hhi2⟩ := hck2
      replace h : s_I st fun v r => s_tab v (fun b => jmp b ls r L) b lo2 bs ∧ (v.toInt < lo2 ∨ hi < v.toInt → jmp b ls r L) := h
      unfold s_I at h
      split at h
      · next v r =>
        by_cases hin : v.toInt < lo2 ∨ hi < v.toInt
        · obtain ⟨t, ht1, ht2⟩ := s_ckT_spec hd
          exact lv_tableOut hx hb hdg hin ht2 (hj b t ht1 _ _ _ (h.2 hin) hlen H locs lr hP hD hS hl)
        · obtain ⟨g1, g2⟩ := s_ckTs_at offs.toList bs hbs
          have hk1 : (v.toInt - lo2).toNat < bs.length := by omega
          have hk2 : (v.toInt - lo2).toNat < offs.size := by rw [← Array.length_toList, g1]; exact hk1
          obtain ⟨bb, g3, g4⟩ := g2 (v.toInt - lo2).toNat offs[(v.toInt - lo2).toNat] (by rw [Array.getElem?_toList, Array.getElem?_eq_getElem hk2])
          obtain ⟨t, ht1, ht2⟩ := s_ckT_spec g4
          have hv : v = Int32.ofInt (lo2 + ((v.toInt - lo2).toNat : Nat)) := by
            have e1 : lo2 + (((v.toInt - lo2).toNat : Nat) : Int) = v.toInt := by omega
            rw [e1, Int32.ofInt_toInt]
          exact lv_tableIn hx hb hdg (fun q => hin (Or.inl q)) (fun q => hin (Or.inr q)) (Array.getElem?_eq_getElem hk2) ht2 (hj bb t ht1 _ _ _ (s_tab_in bs lo2 h.1 _ bb g3 hv) hlen H locs lr hP hD hS hl)
      · exact h.elim
  | getfield ix =>
    intro hlen H locs lr hP hD hS hl
    obtain ⟨ns, v, ct⟩ := x
    unfold s_ckI at hck
    dsimp only at hck
    split at hck
    · next _ ci j q =>
      unfold s_ckF at hck
      split at hck
      · next _ C T N hC =>
        simp only [Bool.and_eq_true, decide_eq_true_eq] at hck
        obtain ⟨hj1, hj2⟩ := hck
        replace h : s_A st fun a r => match s_nth L a with
          | some (.inr (.inr (cj, fs))) => match Nat.beq ci cj with
            | true => match s_nth fs j with
              | some v => k ls (v :: r) L
              | none => False
            | false => False
          | _ => False := h
        unfold s_A at h
        split at h
        · next a r =>
          split at h
          · next _ cj fs hfs =>
            split at h
            · next hbq =>
              split at h
              · next _ w hw =>
                have e1 := Nat.eq_of_beq_eq_true hbq
                subst e1
                have hv : (fs.map (s_rv ad))[j]? = some (s_rv ad w) := by rw [List.getElem?_map, ← s_nth_eq, hw]; rfl
                exact va_get (D := D) (C := C) (T := T) (N := N) hx hb hts (s_in ci _ hC) hown hK hP a (s_rl_at hfs) hC j (Nat.blt_eq.mp hj1) (hts _ (gT_of (List.mem_of_getElem? hj2) rfl)) (fun _ h9 => h9) hv hdg (hk _ _ _ h hlen H locs lr hP hD hS hl)
              · exact h.elim
            · exact h.elim
          · exact h.elim
        · exact h.elim
      · cases hck
    · cases hck
  | putfield ix =>
    intro hlen H locs lr hP hD hS hl
    obtain ⟨ns, v, ct⟩ := x
    unfold s_ckI at hck
    dsimp only at hck
    split at hck
    · next _ ci j q =>
      simp only [Bool.and_eq_true, decide_eq_true_eq] at hck
      obtain ⟨hck, hfin⟩ := hck
      unfold s_ckF at hck
      split at hck
      · next _ C T N hC =>
        have hfin2 : (T j).2.2.2 = false := by
          unfold s_fld at hfin
          rw [hC] at hfin
          exact hfin
        simp only [Bool.and_eq_true, decide_eq_true_eq] at hck
        obtain ⟨hj1, hj2⟩ := hck
        unfold s_st at h
        dsimp only at h
        split at h
        · next w a r =>
          split at h
          · next _ cj fs hfs =>
            split at h
            · next hbq hble =>
              obtain ⟨h, hfit⟩ := s_fit_spec h
              rw [s_frH_eq] at h
              have e1 := Nat.eq_of_beq_eq_true hbq
              subst e1
              have hlt : j < fs.length := by
                rcases Nat.lt_or_ge j fs.length with q | q
                · exact q
                · rw [Nat.ble_eq.mpr q] at hble; cases hble
              refine va_put (D := D) (C := C) (T := T) (N := N) (v := s_rv ad w) hx hb hts (s_in ci _ hC) (s_fty ci) (s_ftyo ci _ hC) (s_nmo ci _ hC) hown hK hP hD hS a (s_rl_at hfs) hC j (Nat.blt_eq.mp hj1) (hts _ (gT_of (List.mem_of_getElem? hj2) rfl)) (fun _ h9 => h9) hfin2 (s_ftyo ci _ hC j (Nat.blt_eq.mp hj1)) (hfit ad).1 (hfit ad).2 (by rw [List.length_map]; exact hlt) hdg (fun H1 locs1 hP1 hD1 hS1 => ?_)
              have e2 : s_rl cy ad (s_set L a (.inr (.inr (ci, s_set fs j w)))) = (s_rl cy ad L).set a (ad a, .inr (ci, (fs.map (s_rv ad)).set j (s_rv ad w))) := by
                rw [s_rl_set]
                show (s_rl cy ad L).set a (ad a, .inr (ci, (s_set fs j w).map (s_rv ad))) = _
                rw [s_set_eq, List.map_set]
              exact hk _ _ _ h (by rw [s_set_eq, List.length_set]; exact hlen) H1 locs1 lr (by rw [e2]; exact hP1) (by rw [e2]; exact hD1) hS1 hl
            · exact h.elim
          · exact h.elim
        · exact h.elim
      · cases hck
    · cases hck
  | iaload =>
    intro hlen H locs lr hP hD hS hl
    unfold s_st at h
    dsimp only at h
    split at h
    · next i a r =>
      split at h
      · next _ n f hf => exact va_iald hx hb hK hP a 0 (s_rl_at hf) rfl h.1 hdg (hk _ _ _ h.2 hlen H locs lr hP hD hS hl)
      · exact h.elim
      · split at h
        · next n xs hbq =>
          have e1 := Nat.eq_of_beq_eq_true hbq
          subst e1
          obtain ⟨g1, g2, g3⟩ := hscr
          exact va_sld hx hb g1 g2 g3 hS h.1 hdg (hk _ _ _ h.2 hlen H locs lr hP hD hS hl)
        · exact h.elim
    · exact h.elim
  | iastore =>
    intro hlen H locs lr hP hD hS hl
    unfold s_st at h
    dsimp only at h
    split at h
    · next v i a r =>
      split at h
      · next _ n f hf =>
        refine va_iast hx hb hK hP hD hS a 0 (s_rl_at hf) rfl h.1 hdg (fun H1 locs1 hP1 hD1 hS1 => ?_)
        have e2 := s_rl_set cy ad L a (.inl (0, n, upd f i.toNatClampNeg v))
        exact hk _ _ _ (by have h3 := h.2; rwa [s_frH_eq] at h3) (by rw [s_set_eq, List.length_set]; exact hlen) H1 locs1 lr (by rw [e2]; exact hP1) (by rw [e2]; exact hD1) hS1 hl
      · exact h.elim
    · exact h.elim
  | baload =>
    intro hlen H locs lr hP hD hS hl
    unfold s_st at h
    dsimp only at h
    split at h
    · next i a r =>
      split at h
      · next _ n f hf => exact va_bald hx hb hK hP a 1 (s_rl_at hf) rfl h.1 hdg (hk _ _ _ h.2 hlen H locs lr hP hD hS hl)
      · next _ n f hf => exact va_zald hx hb hK hP a 2 (s_rl_at hf) rfl h.1 hdg (hk _ _ _ h.2 hlen H locs lr hP hD hS hl)
      · exact h.elim
    · exact h.elim
  | bastore =>
    intro hlen H locs lr hP hD hS hl
    unfold s_st at h
    dsimp only at h
    split at h
    · next v i a r =>
      split at h
      · next _ n f hf =>
        refine va_bast hx hb hK hP hD hS a 1 (s_rl_at hf) rfl h.1 hdg (fun H1 locs1 hP1 hD1 hS1 => ?_)
        have e2 := s_rl_set cy ad L a (.inl (1, n, upd f i.toNatClampNeg (vp_nar .byte v)))
        exact hk _ _ _ (by have h3 := h.2; rwa [s_frH_eq] at h3) (by rw [s_set_eq, List.length_set]; exact hlen) H1 locs1 lr (by rw [e2]; exact hP1) (by rw [e2]; exact hD1) hS1 hl
      · next _ n f hf =>
        refine va_zast hx hb hK hP hD hS a 2 (s_rl_at hf) rfl h.1 hdg (fun H1 locs1 hP1 hD1 hS1 => ?_)
        have e2 := s_rl_set cy ad L a (.inl (2, n, upd f i.toNatClampNeg (vp_nar .boolean v)))
        exact hk _ _ _ (by have h3 := h.2; rwa [s_frH_eq] at h3) (by rw [s_set_eq, List.length_set]; exact hlen) H1 locs1 lr (by rw [e2]; exact hP1) (by rw [e2]; exact hD1) hS1 hl
      · exact h.elim
    · exact h.elim
  | aaload =>
    intro hlen H locs lr hP hD hS hl
    unfold s_st at h
    dsimp only at h
    split at h
    · next i a r =>
      split at h
      · next _ l hf =>
        obtain ⟨hin, h⟩ := h
        split at h
        · next _ q hq =>
          have hr : (s_rl cy ad L)[a]? = some (ad a, .inl (cy 3, l.length, .inr (.inr (.inr (.inr (fun j => ((s_nth l j).join).map ad)))))) := s_rl_at hf
          have h1 := hk _ _ _ h hlen H locs lr hP hD hS hl
          have e1 : va_rf (((s_nth l i.toNatClampNeg).join).map ad) = .ref (ad q) := by rw [hq]; rfl
          exact va_aldq (C := "WishClerk$Book") hx hb hK hP a 3 hr rfl hin hdg (by rw [e1]; exact h1)
        · exact h.elim
      · next _ l hf =>
        obtain ⟨hin, h⟩ := h
        split at h
        · next _ q hq =>
          have hr : (s_rl cy ad L)[a]? = some (ad a, .inl (cy 4, l.length, .inr (.inr (.inr (.inr (fun j => ((s_nth l j).join).map ad)))))) := s_rl_at hf
          have h1 := hk _ _ _ h hlen H locs lr hP hD hS hl
          have e1 : va_rf (((s_nth l i.toNatClampNeg).join).map ad) = .ref (ad q) := by rw [hq]; rfl
          exact va_aldq (C := "WishClerk$Sheet") hx hb hK hP a 4 hr rfl hin hdg (by rw [e1]; exact h1)
        · exact h.elim
      · exact h.elim
    · exact h.elim
  | arraylength =>
    intro hlen H locs lr hP hD hS hl
    unfold s_st at h
    dsimp only at h
    split at h
    · next a r =>
      split at h
      · next n xs hbq =>
        have e1 := Nat.eq_of_beq_eq_true hbq
        subst e1
        obtain ⟨g1, g2, g3⟩ := hscr
        exact va_slen hx hb g1 g2 g3 hS hdg (hk _ _ _ h hlen H locs lr hP hD hS hl)
      · exact h.elim
    · exact h.elim
  | ireturn =>
    intro hlen H locs lr hP hD hS hl
    unfold s_st at h
    dsimp only at h
    split at h
    · next v =>
      split at h
      · exact (hret pc L H locs lr hlen hP hD hS).1 hdg v (fun _ => h.1) h.2
      · exact (hret pc L H locs lr hlen hP hD hS).1 hdg v (fun q => by cases q) h
    · exact h.elim
  | lreturn =>
    intro hlen H locs lr hP hD hS hl
    unfold s_st at h
    dsimp only at h
    split at h
    · next v => exact (hret pc L H locs lr hlen hP hD hS).2.1 hdg v h
    · exact h.elim
  | return_ =>
    intro hlen H locs lr hP hD hS hl
    unfold s_st at h
    dsimp only at h
    split at h
    · exact (hret pc L H locs lr hlen hP hD hS).2.2 hdg h
    · exact h.elim
  | invokevirtual ix =>
    obtain ⟨ns, v, ct⟩ := x
    unfold s_ckI at hck
    dsimp only at hck
    split at hck
    · next _ _ q y b2 mx rt kd np f2 l2 rest =>
      simp only [Bool.and_eq_true, decide_eq_true_eq] at hck
      obtain ⟨g1, g2, g3, g4⟩ := hck
      obtain ⟨ro, fpf, pre, post⟩ := rest
      have g1 := Nat.blt_eq.mp g1
      have g3 := Nat.blt_eq.mp g3
      have g4 := Nat.ble_eq.mp g4
      exact s_inv_ok (ns := [q]) (x0 := v) hE0 (hOk _ rfl) ⟨by omega, by omega⟩ (Or.inr ⟨kd - 1, by omega, hdg, List.mem_of_getElem? g2⟩) hk h
    · cases hck
  | invokestatic ix =>
    obtain ⟨ns, v, ct⟩ := x
    unfold s_ckI at hck
    dsimp only at hck
    split at hck
    · next _ _ q y b2 mx rt kd np f2 l2 rest =>
      simp only [Bool.and_eq_true, decide_eq_true_eq] at hck
      obtain ⟨g1, g2, g3, g4⟩ := hck
      obtain ⟨ro, fpf, pre, post⟩ := rest
      have g1 := Nat.eq_of_beq_eq_true g1
      have g3 := Nat.blt_eq.mp g3
      have g4 := Nat.ble_eq.mp g4
      exact s_inv_ok (ns := [q]) (x0 := v) hE0 (hOk _ rfl) ⟨by omega, by omega⟩ (Or.inl ⟨g1, hdg, Or.inl (List.mem_of_getElem? g2)⟩) hk h
    · next _ _ q q2 y b2 mx rt kd np f2 l2 rest =>
      simp only [Bool.and_eq_true, decide_eq_true_eq] at hck
      obtain ⟨g1, g2, g3, g4⟩ := hck
      obtain ⟨ro, fpf, pre, post⟩ := rest
      have g1 := Nat.eq_of_beq_eq_true g1
      have g3 := Nat.blt_eq.mp g3
      have g4 := Nat.ble_eq.mp g4
      exact s_inv_ok (ns := [q, q2]) (x0 := v) hE0 (hOk _ rfl) ⟨by omega, by omega⟩ (Or.inl ⟨g1, hdg, Or.inr (List.mem_of_getElem? g2)⟩) hk h
    · next _ _ q =>
      simp only [Bool.and_eq_true, decide_eq_true_eq] at hck
      obtain ⟨g2, g3, g4⟩ := hck
      have g3 := Nat.blt_eq.mp g3
      have g4 := Nat.ble_eq.mp g4
      intro hlen H locs lr hP hD hS hl
      replace h : s_II st fun x y r => match Nat.ble (s_cat r) 8 with
        | true => k ls (.int (if x < y then y else x) :: r) L
        | false => False := h
      unfold s_II at h
      split at h
      · next y x r =>
        split at h
        · next h8 =>
          have h8 := Nat.ble_eq.mp h8
          exact va_mmax hx hb (hml.trans hl.1.symm) hown (hts _ (gT_of (List.mem_of_getElem? g2) rfl)) (hts _ s_math_words.1) (hts _ s_math_words.2.2.1) (hts _ s_math_words.2.2.2.1) (by omega) (by rw [s_cat_sum]; omega) hcl hsl hdg (hk _ _ _ h hlen H locs lr hP hD hS hl)
        · exact h.elim
      · exact h.elim
    · next _ _ q =>
      simp only [Bool.and_eq_true, decide_eq_true_eq] at hck
      obtain ⟨g2, g3, g4⟩ := hck
      have g3 := Nat.blt_eq.mp g3
      have g4 := Nat.ble_eq.mp g4
      intro hlen H locs lr hP hD hS hl
      replace h : s_II st fun x y r => match Nat.ble (s_cat r) 8 with
        | true => k ls (.int (if y < x then y else x) :: r) L
        | false => False := h
      unfold s_II at h
      split at h
      · next y x r =>
        split at h
        · next h8 =>
          have h8 := Nat.ble_eq.mp h8
          exact va_mmin hx hb (hml.trans hl.1.symm) hown (hts _ (gT_of (List.mem_of_getElem? g2) rfl)) (hts _ s_math_words.2.1) (hts _ s_math_words.2.2.1) (hts _ s_math_words.2.2.2.2) (by omega) (by rw [s_cat_sum]; omega) hcl hsl hdg (hk _ _ _ h hlen H locs lr hP hD hS hl)
        · exact h.elim
      · exact h.elim
    · next _ _ q =>
      simp only [Bool.and_eq_true, decide_eq_true_eq] at hck
      obtain ⟨g2, g3, g4⟩ := hck
      have g3 := Nat.blt_eq.mp g3
      have g4 := Nat.ble_eq.mp g4
      intro hlen H locs lr hP hD hS hl
      unfold s_st at h
      dsimp only at h
      split at h
      · next n dp d sp a r =>
        split at h
        · next _ _ n0' f n1 g hf hg =>
          split at h
          · next h8 =>
            obtain ⟨⟨c1, c2, c3, c4, c5⟩, h⟩ := h
            rw [s_frH_eq] at h
            have h8 := Nat.ble_eq.mp h8
            refine va_copyi hx hb (hml.trans hl.1.symm) hown (hts _ (gT_of (List.mem_of_getElem? g2) rfl)) (hts _ s_copy_words.1) (hts _ s_copy_words.2.1) (hts _ s_copy_words.2.2) hK hP hD hS a d 0 0 (s_rl_at hf) (s_rl_at hg) rfl rfl rfl c1 c2 c3 c4 c5 (fun i hi => rfl) (by omega) (by rw [s_cat_sum]; omega) hdg (fun H1 locs1 hP1 hD1 hS1 => ?_)
            have e2 := s_rl_set cy ad L d (.inl (0, n1, va_cpy f g sp.toNatClampNeg dp.toNatClampNeg n.toNatClampNeg))
            exact hk _ _ _ h (by rw [s_set_eq, List.length_set]; exact hlen) H1 locs1 lr (by rw [e2]; exact hP1) (by rw [e2]; exact hD1) hS1 hl
          · exact h.elim
        · exact h.elim
      · exact h.elim
    · cases hck
  | lookupswitch d ps =>
    intro hlen H locs lr hP hD hS hl
    obtain ⟨ns, v, ct⟩ := x
    cases ns with
    | nil => exact h.elim
    | cons b bs =>
      have hck2 : (s_ckT tgt pc d b && (s_ckTs tgt pc (ps.toList.map (fun z => z.2)) bs && (decide (∀ q ∈ ps.toList, -2147483648 ≤ q.1 ∧ q.1 < 2147483648) && (ps.toList.zip (ps.toList.drop 1)).all (fun (a, next) => decide (a.1 < next.1))))) = true := hck
      simp only [Bool.and_eq_true, decide_eq_true_eq] at hck2
      obtain ⟨hd, hbs, hrg, hso⟩ := hck2
      replace h : s_I st fun v r => s_lok v (fun b => jmp b ls r L) b ps.toList bs := h
      unfold s_I at h
      split at h
      · next v r =>
        obtain ⟨bb, g1, g2⟩ := s_lok_at (jmp := fun b => jmp b ls r L) (tgt := tgt) (pc := pc) hd ps.toList bs hrg hbs h
        obtain ⟨t, ht1, ht2⟩ := s_ckT_spec g2
        exact lv_lookup hx hb hdg hso rfl ht2 (hj bb t ht1 _ _ _ g1 hlen H locs lr hP hD hS hl)
      · exact h.elim
  | _ => exact h.elim
end SStep

/-! ===== a method's contract out of a walk of the small machine ===== -/
def s_ckL (own : String) (cc : ByteArray) (nL fr lo : Nat) (tgt : Nat → Option Nat) : List sOp → Nat → Bool
  | [], _ => true
  | (pc, i, x) :: r, q => Nat.beq pc q && (match i with
    | .nop => match x.1 with
      | b :: _ => decide (tgt b = some pc)
      | _ => false
    | _ => match decode cc pc with
      | .ok (j, len) => decide (j = i ∧ len = s_il i len) && (s_ckI own nL fr lo tgt pc i x && s_ckL own cc nL fr lo tgt r (pc + len))
      | _ => false)
def s_tgt (bl : List sBk) (b : Nat) : Option Nat := (s_nth bl b).map (fun q => q.1)
def s_ck (own : String) (cc : ByteArray) (nL fr lo : Nat) (bl : List sBk) : Bool := decide (s_tgt bl 0 = some 0) && bl.all (fun q => s_ckL own cc nL fr lo (s_tgt bl) q.2.2.2 q.1)
def s_oks : List sOp → Prop → Prop
  | [], Q => Q
  | (_, _, _, _, some ct) :: r, Q => s_Ok ct ∧ s_oks r Q
  | (_, _, _, _, none) :: r, Q => s_oks r Q
def s_okb : List sBk → Prop
  | [] => True
  | (_, _, _, ops) :: r => s_oks ops (s_okb r)
theorem s_oks_spec : ∀ (ops : List sOp) (Q : Prop), s_oks ops Q → Q ∧ ∀ o ∈ ops, ∀ ct, o.2.2.2.2 = some ct → s_Ok ct
  | [], Q, h => ⟨h, fun o ho => absurd ho List.not_mem_nil⟩
  | (a, b, c, d, some ct) :: r, Q, h => by
    obtain ⟨h1, h2⟩ := s_oks_spec r Q h.2
    refine ⟨h1, fun o ho ct2 he => ?_⟩
    rcases List.mem_cons.mp ho with rfl | ho
    · cases he; exact h.1
    · exact h2 o ho ct2 he
  | (a, b, c, d, none) :: r, Q, h => by
    obtain ⟨h1, h2⟩ := s_oks_spec r Q h
    refine ⟨h1, fun o ho ct2 he => ?_⟩
    rcases List.mem_cons.mp ho with rfl | ho
    · cases he
    · exact h2 o ho ct2 he
theorem s_okb_spec : ∀ (bl : List sBk), s_okb bl → ∀ q ∈ bl, ∀ o ∈ q.2.2.2, ∀ ct, o.2.2.2.2 = some ct → s_Ok ct
  | [], _, q, h => absurd h List.not_mem_nil
  | (a, b, c, ops) :: r, h, q, hq => by
    obtain ⟨h1, h2⟩ := s_oks_spec ops (s_okb r) h
    rcases List.mem_cons.mp hq with rfl | hq
    · exact h2
    · exact s_okb_spec r h1 q hq
section SMeth
variable {p : Program} {l : Launch} {e : Env} {R : Room} {s : State} {m : MethodId} {args : Array Value} {below : List Frame} {meth : Method} {c : Code} {D : va_G} {cy : Nat → ClassId} {ad : Nat → Nat} {A : Nat → Prop} {Q : State → Prop} {E : sE} {own : String} {cc : ByteArray} {nL n0 cl sl : Nat}
theorem s_list_ok (hE : s_Env p R s m args c D cy ad A E own cc nL cl sl) {P : sP} {z : Bool} (hret : s_Ret p l e R s m args below meth c D cy ad A Q cc n0 cl sl P z) {fr lo : Nat} (hfr : fr ≤ R.frames) (hlo : lo ≤ R.locals) {tgt : Nat → Option Nat} {jmp : Nat → sK}
    (hj : ∀ b t, tgt b = some t → ∀ ls st L, jmp b ls st L → s_Gp p l e R s m args below meth c D cy ad A Q nL n0 cl sl t ls st L) :
    ∀ (ops : List sOp) (pc : Nat), s_ckL own cc nL fr lo tgt ops pc = true → (∀ o ∈ ops, ∀ ct, o.2.2.2.2 = some ct → s_Ok ct) → ∀ ls st L, s_wp E jmp P z ops ls st L → s_Gp p l e R s m args below meth c D cy ad A Q nL n0 cl sl pc ls st L
  | [], pc, _, _, ls, st, L, h => h.elim
  | (pc', i, x) :: r, pc, hck, hOk, ls, st, L, h => by
    unfold s_ckL at hck
    simp only [Bool.and_eq_true] at hck
    obtain ⟨hpc, hck⟩ := hck
    have hpc := Nat.eq_of_beq_eq_true hpc
    subst hpc
    replace h : s_st E jmp P z i x (s_wp E jmp P z r) ls st L := h
    by_cases hni : i = .nop
    · subst hni
      obtain ⟨ns, v, ct⟩ := x
      cases ns with
      | nil => exact h.elim
      | cons b ns => exact hj b pc' (of_decide_eq_true hck) ls st L h
    · have hck2 : (match decode cc pc' with
        | .ok (j, len) => decide (j = i ∧ len = s_il i len) && (s_ckI own nL fr lo tgt pc' i x && s_ckL own cc nL fr lo tgt r (pc' + len))
        | _ => false) = true := by
        revert hck
        split
        · exact absurd rfl hni
        · exact id
      cases hd : decode cc pc' with
      | error e => rw [hd] at hck2; cases hck2
      | ok q =>
        obtain ⟨j, len⟩ := q
        rw [hd] at hck2
        simp only [Bool.and_eq_true, decide_eq_true_eq] at hck2
        obtain ⟨⟨rfl, hlen⟩, hci, hrest⟩ := hck2
        rw [hlen] at hd hrest
        refine s_op_ok hE hret hfr hlo hj hni (fun ct hct => hOk _ List.mem_cons_self ct hct) hd hci (fun ls st L hk => ?_) h
        exact s_list_ok hE hret hfr hlo hj r (pc' + s_il j len) hrest (fun o ho => hOk o (List.mem_cons_of_mem _ ho)) ls st L hk
theorem s_Gp_mask {pc : Nat} {ls : sL} {st : sS} {L : sH} (mk : List Bool) (h : s_Gp p l e R s m args below meth c D cy ad A Q nL n0 cl sl pc (s_mask mk ls) st L) : s_Gp p l e R s m args below meth c D cy ad A Q nL n0 cl sl pc ls st L :=
  fun hlen H locs lr hP hD hS hl => h hlen H locs lr hP hD hS (s_has_mask mk hl)
theorem s_go_ok (hE : s_Env p R s m args c D cy ad A E own cc nL cl sl) {P : sP} {z : Bool} (hret : s_Ret p l e R s m args below meth c D cy ad A Q cc n0 cl sl P z) {fr lo : Nat} (hfr : fr ≤ R.frames) (hlo : lo ≤ R.locals) {bl : List sBk} (hck : s_ck own cc nL fr lo bl = true) (hOk : s_okb bl) {G : Nat → sK}
    (hG : ∀ b t, s_tgt bl b = some t → ∀ ls st L, G b ls st L → s_Gp p l e R s m args below meth c D cy ad A Q nL n0 cl sl t ls st L) :
    ∀ (n b t : Nat), s_tgt bl b = some t → ∀ ls st L, s_go E bl G P z n b ls st L → s_Gp p l e R s m args below meth c D cy ad A Q nL n0 cl sl t ls st L
  | 0, b, t, _, ls, st, L, h => h.elim
  | n + 1, b, t, ht, ls, st, L, h => by
    unfold s_go at h
    cases hb : s_nth bl b with
    | none => rw [hb] at h; exact h.elim
    | some q =>
      obtain ⟨pc, cut, live, ops⟩ := q
      rw [hb] at h
      dsimp only at h
      have ht2 : pc = t := by
        have := ht
        unfold s_tgt at this
        rw [hb] at this
        exact Option.some.inj this
      subst ht2
      have hmem : (pc, cut, live, ops) ∈ bl := List.mem_of_getElem? ((s_nth_eq bl b).symm.trans hb)
      cases cut with
      | true => exact s_Gp_mask live (hG b pc ht _ _ _ h)
      | false =>
        refine s_Gp_mask live ?_
        unfold s_ck at hck
        simp only [Bool.and_eq_true] at hck
        exact s_list_ok hE hret hfr hlo (s_go_ok hE hret hfr hlo (by unfold s_ck; simp only [Bool.and_eq_true]; exact hck) hOk hG n) ops pc (List.all_eq_true.mp hck.2 _ hmem) (s_okb_spec bl hOk _ hmem) _ _ _ h
theorem s_clo_ok (hE : s_Env p R s m args c D cy ad A E own cc nL cl sl) {P : sP} {z : Bool} (hret : s_Ret p l e R s m args below meth c D cy ad A Q cc n0 cl sl P z) {fr lo : Nat} (hfr : fr ≤ R.frames) (hlo : lo ≤ R.locals) {bl : List sBk} (hck : s_ck own cc nL fr lo bl = true) (hOk : s_okb bl) :
    s_Clo E bl (fun b ls st L => ∀ t, s_tgt bl b = some t → s_Gp p l e R s m args below meth c D cy ad A Q nL n0 cl sl t ls st L) P z := by
  intro b ls st L h t ht
  unfold s_run at h
  cases hb : s_nth bl b with
  | none => rw [hb] at h; exact h.elim
  | some q =>
    obtain ⟨pc, cut, live, ops⟩ := q
    rw [hb] at h
    dsimp only at h
    have ht2 : pc = t := by
      have := ht
      unfold s_tgt at this
      rw [hb] at this
      exact Option.some.inj this
    subst ht2
    have hmem : (pc, cut, live, ops) ∈ bl := List.mem_of_getElem? ((s_nth_eq bl b).symm.trans hb)
    have hck' := hck
    unfold s_ck at hck'
    simp only [Bool.and_eq_true] at hck'
    exact s_list_ok hE hret hfr hlo (s_go_ok hE hret hfr hlo hck hOk (fun b t ht ls st L hG => hG t ht) 99) ops pc (List.all_eq_true.mp hck'.2 _ hmem) (s_okb_spec bl hOk _ hmem) _ _ _ h
end SMeth
def s_ent : Nat → sS → sL
  | n, [] => List.replicate n none
  | n, .long v :: r => some (.long v) :: none :: s_ent (n - 2) r
  | n, v :: r => some v :: s_ent (n - 1) r
theorem s_ent_in (ad : Nat → Nat) : ∀ (vs : sS) (n i : Nat), (∀ v ∈ vs, ∀ d, v ≠ .double d) → ∀ q ∈ s_as ad i (s_ent n vs), q ∈ lv_args i (vs.map (s_rv ad))
  | [], n, i, _, q, h => by
    have : ∀ (n i : Nat), s_as ad i (List.replicate n none) = [] := by
      intro n
      induction n with
      | zero => intro i; rfl
      | succ n ih => intro i; exact ih (i + 1)
    rw [show s_ent n [] = List.replicate n none from by cases n <;> rfl, this] at h
    exact absurd h List.not_mem_nil
  | v :: r, n, i, hd, q, h => by
    have ih := fun n i => s_ent_in ad r n i (fun w hw => hd w (List.mem_cons_of_mem _ hw))
    cases v with
    | long x =>
      have h : q ∈ (i, Value.long x) :: s_as ad (i + 2) (s_ent (n - 2) r) := h
      show q ∈ (i, Value.long x) :: lv_args (i + 2) (r.map (s_rv ad))
      rcases List.mem_cons.mp h with e | e
      · rw [e]; exact List.mem_cons_self
      · exact List.mem_cons_of_mem _ (ih _ _ q e)
    | double x => exact absurd rfl (hd _ List.mem_cons_self x)
    | int x =>
      have h : q ∈ (i, Value.int x) :: s_as ad (i + 1) (s_ent (n - 1) r) := h
      show q ∈ (i, Value.int x) :: lv_args (i + 1) (r.map (s_rv ad))
      rcases List.mem_cons.mp h with e | e
      · rw [e]; exact List.mem_cons_self
      · exact List.mem_cons_of_mem _ (ih _ _ q e)
    | ref x =>
      have h : q ∈ (i, Value.ref (ad x)) :: s_as ad (i + 1) (s_ent (n - 1) r) := h
      show q ∈ (i, Value.ref (ad x)) :: lv_args (i + 1) (r.map (s_rv ad))
      rcases List.mem_cons.mp h with e | e
      · rw [e]; exact List.mem_cons_self
      · exact List.mem_cons_of_mem _ (ih _ _ q e)
    | null =>
      have h : q ∈ (i, Value.null) :: s_as ad (i + 1) (s_ent (n - 1) r) := h
      show q ∈ (i, Value.null) :: lv_args (i + 1) (r.map (s_rv ad))
      rcases List.mem_cons.mp h with e | e
      · rw [e]; exact List.mem_cons_self
      · exact List.mem_cons_of_mem _ (ih _ _ q e)
    | float x =>
      have h : q ∈ (i, Value.float x) :: s_as ad (i + 1) (s_ent (n - 1) r) := h
      show q ∈ (i, Value.float x) :: lv_args (i + 1) (r.map (s_rv ad))
      rcases List.mem_cons.mp h with e | e
      · rw [e]; exact List.mem_cons_self
      · exact List.mem_cons_of_mem _ (ih _ _ q e)
    | retAddr x =>
      have h : q ∈ (i, Value.retAddr x) :: s_as ad (i + 1) (s_ent (n - 1) r) := h
      show q ∈ (i, Value.retAddr x) :: lv_args (i + 1) (r.map (s_rv ad))
      rcases List.mem_cons.mp h with e | e
      · rw [e]; exact List.mem_cons_self
      · exact List.mem_cons_of_mem _ (ih _ _ q e)
def s_rvt (r : Option FieldType) (v : Option Value) : Bool := match r, v with
  | none, none => true
  | some .int, some (.int _) => true
  | some .boolean, some (.int _) => true
  | some .long, some (.long _) => true
  | _, _ => false
def s_PP (rt : Option FieldType) (ro : Bool) (post : sS → sH → sP) (vs : sS) (L : sH) : sP := fun r L' => s_rvt rt r = true ∧ post vs L r L' ∧ (ro = true → L' = L)
def s_zb (r : Option FieldType) : Bool := match r with
  | some .boolean => true
  | _ => false

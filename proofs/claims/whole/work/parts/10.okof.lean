/-! ===== a contract, out of the walk ===== -/
theorem s_sl_len (ad : Nat → Nat) : ∀ vs : sS, (lg_sl (vs.map (s_rv ad))).length = s_cat vs
  | [] => rfl
  | v :: r => by
    have ih := s_sl_len ad r
    cases v <;> simp [lg_sl, s_rv, s_cat, Value.category] at ih ⊢ <;> omega
def s_nod (vs : sS) : Bool := vs.all (fun v => match v with
  | .double _ => false
  | _ => true)
section SRet
variable {p : Program} {l : Launch} {e : Env} {R : Room} {s : State} {m : MethodId} {args : Array Value} {below : List Frame} {meth : Method} {c : Code} {H : Heap} {locs : List Loc} {cl sl : Nat} {cc : ByteArray} {Qc : Array Value → State → Outcome → State → Prop} {free : Addr → Prop} {pc : Nat} {lr : Array Slot}
theorem s_ret_i (hx : p.tables.exec = Jvm.exec) (hb : c.code = cc) (hlocks : meth.locks = false) {r : Option FieldType} (hr : meth.sig.returnType = r) {v : Int32} (hv : s_rvt r (some (.int v)) = true) (hz : s_zb r = true → v = 0 ∨ v = 1) (hq : ∀ t : State, t.heap = H → s.WarmedH t.vm → Qc args s (.returned (some (.int v))) t) (hf : ∀ q ∈ locs, free q.base) (hdg : decode cc pc = .ok (.ireturn, 1)) : W p l e R s m args below meth c H locs cl sl (MQ below Qc args s cl sl free) (F0 m pc lr [.int v]) := by
  unfold s_rvt at hv
  split at hv
  · next h => cases h
  · next h => exact W.iret hx hb hr hq hf hdg hlocks
  · next h =>
    have hn : narrow .boolean (.int v) = .int v := by rcases hz rfl with rfl | rfl <;> rfl
    exact W.zret hx hb hr hn hq hf hdg hlocks
  · next h => cases h
  · cases hv
theorem s_ret_l (hx : p.tables.exec = Jvm.exec) (hb : c.code = cc) (hlocks : meth.locks = false) {r : Option FieldType} (hr : meth.sig.returnType = r) {v : Int64} (hv : s_rvt r (some (.long v)) = true) (hq : ∀ t : State, t.heap = H → s.WarmedH t.vm → Qc args s (.returned (some (.long v))) t) (hf : ∀ q ∈ locs, free q.base) (hdg : decode cc pc = .ok (.lreturn, 1)) : W p l e R s m args below meth c H locs cl sl (MQ below Qc args s cl sl free) (F0 m pc lr [.long v]) := by
  unfold s_rvt at hv
  split at hv
  · next h => cases h
  · next h => cases h
  · next h => cases h
  · next h => exact W.lret hx hb hr hq hf hdg hlocks
  · cases hv
theorem s_ret_v (hx : p.tables.exec = Jvm.exec) (hb : c.code = cc) (hlocks : meth.locks = false) {r : Option FieldType} (hr : meth.sig.returnType = r) (hv : s_rvt r none = true) (hq : ∀ t : State, t.heap = H → s.WarmedH t.vm → Qc args s (.returned none) t) (hf : ∀ q ∈ locs, free q.base) (hdg : decode cc pc = .ok (.return_, 1)) : W p l e R s m args below meth c H locs cl sl (MQ below Qc args s cl sl free) (F0 m pc lr []) := by
  unfold s_rvt at hv
  split at hv
  · exact W.vret hx hb hr hq hf hdg hlocks
  · next h => cases h
  · next h => cases h
  · next h => cases h
  · cases hv
end SRet
set_option maxHeartbeats 1000000 in
theorem s_ok_of {y : MethodName} {b : ByteArray} {n : Nat} {r : Option FieldType} {kd np fr lo : Nat} {ro : Bool} {fp : sS → sH → List Nat} {pre : sS → sH → Prop} {post : sS → sH → sP} (bl : List sBk) (hpl : plainName y.cls = true) (hsta : s_Sta ((y, b, n, r), (kd, np, fr, lo), ro, fp, pre, post)) (hck : s_ck y.cls b n fr lo bl = true) (hOk : s_okb bl)
    (hbody : ∀ vs L, pre vs L → (Nat.ble (s_cat vs) n && s_nod vs) = true ∧ ∀ G, s_Clo none bl G (s_PP r ro post vs L) (s_zb r) → G 0 (s_ent n vs) [] L) : s_Ok ((y, b, n, r), (kd, np, fr, lo), ro, fp, pre, post) := by
  refine ⟨hsta, fun l D cy ad sz vs L hpre => ?_⟩
  refine Met.ofW (cc := b) (maxL := n) (ret := r) hpl rfl ?_
  intro p e s m args below meth c s₁ B hml hv
  obtain ⟨rfl, hsz, hP, hK, hD0, hnst, hstr⟩ := hv
  subst hsz
  obtain ⟨hvs, hwalk⟩ := hbody vs L hpre
  simp only [Bool.and_eq_true] at hvs
  have hts : ∀ w ∈ gT, w.before (vs.map (s_rv ad)).toArray s = true := fun w hw => atoms_spec (ws := s_words y b n r) B.pre w (List.mem_cons_of_mem _ hw)
  have hown : s.vm.findClass y.cls = some m.cls := findClass_of_methodNamed B.named
  have hlocks := B.notSynchronized
  have hD := hD0.self (sz := s.heap.size)
  have hE : s_Env p { frames := fr, cells := 0, slots := 0, locals := lo } s m (vs.map (s_rv ad)).toArray c D cy ad (va_A (s_rl cy ad L) s.heap.size) none y.cls b n 0 0 := ⟨B.exec, B.bytes, hml, hown, hts, hK, hnst, hstr, fun q h => Or.inr h, trivial, Nat.zero_le _, Nat.zero_le _⟩
  have hret : s_Ret p l e { frames := fr, cells := 0, slots := 0, locals := lo } s m (vs.map (s_rv ad)).toArray below meth c D cy ad (va_A (s_rl cy ad L) s.heap.size) (MQ below (s_Qc D cy ad s.heap.size vs L ro post) (vs.map (s_rv ad)).toArray s 0 0 (va_A (s_rl cy ad L) s.heap.size)) b L.length 0 0 (s_PP r ro post vs L) (s_zb r) := by
    intro pc L2 H locs lr hlen hP2 hD2 hS2
    refine ⟨fun hdg v hz hp => ?_, fun hdg v hp => ?_, fun hdg hp => ?_⟩
    · exact s_ret_i B.exec B.bytes hlocks B.returns hp.1 hz (fun t ht _ => ⟨⟨some (.int v), L2, rfl, hp.2, hlen, by rw [ht]; exact hP2⟩, hS2.F ht⟩) hS2.2.2 hdg
    · exact s_ret_l B.exec B.bytes hlocks B.returns hp.1 (fun t ht _ => ⟨⟨some (.long v), L2, rfl, hp.2, hlen, by rw [ht]; exact hP2⟩, hS2.F ht⟩) hS2.2.2 hdg
    · exact s_ret_v B.exec B.bytes hlocks B.returns hp.1 (fun t ht _ => ⟨⟨none, L2, rfl, hp.2, hlen, by rw [ht]; exact hP2⟩, hS2.F ht⟩) hS2.2.2 hdg
  have hG := hwalk _ (s_clo_ok hE hret (Nat.le_refl fr) (Nat.le_refl lo) hck hOk)
  have ht0 : s_tgt bl 0 = some 0 := by
    unfold s_ck at hck
    simp only [Bool.and_eq_true, decide_eq_true_eq] at hck
    exact hck.1
  have hW := hG 0 ht0 rfl s.heap [] 
  have hle : (lg_sl (vs.map (s_rv ad))).length ≤ n := by rw [s_sl_len]; exact Nat.ble_eq.mp hvs.1
  have hl := lv_entry (vs.map (s_rv ad)) (n := n) hle
  rw [lg_entry_eq]
  refine hW _ hP hD va_S.rf ⟨hl.1, hl.2.1, fun q hq => hl.2.2 q (s_ent_in ad vs n 0 (fun v hv d => ?_) q hq)⟩
  rintro rfl
  have := List.all_eq_true.mp hvs.2 _ hv
  cases this

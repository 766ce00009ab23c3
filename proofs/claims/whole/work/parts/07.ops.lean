/-! ===== an instruction of the small machine holds on the machine ===== -/
def s_il (i : Instr) (len : Nat) : Nat := match i with
  | .tableswitch .. => len
  | .lookupswitch .. => len
  | .bipush _ | .ldc _ | .iload _ | .lload _ | .aload _ | .istore _ | .lstore _ | .astore _ => 2
  | .sipush _ | .ldc_w _ | .ldc2_w _ | .iinc .. | .goto _ | .ifCond .. | .if_icmp .. | .getfield _ | .putfield _ | .invokevirtual _ | .invokestatic _ => 3
  | _ => 1
def s_ckT (tgt : Nat → Option Nat) (pc : Nat) (off : Int) (b : Nat) : Bool := match tgt b with
  | some t => decide ((pc : Int) + off = (t : Int))
  | none => false
def s_ckTs (tgt : Nat → Option Nat) (pc : Nat) : List Int → List Nat → Bool
  | [], [] => true
  | o :: os, b :: bs => s_ckT tgt pc o b && s_ckTs tgt pc os bs
  | _, _ => false
def s_ckF (own : String) (ci j q ix : Nat) : Bool := match vwCl[ci]? with
  | some (_, T, N) => Nat.blt j N && decide (lw_tbl[q]? = some (.fieldLink own ix (T j).1 (T j).2.1 (T j).2.2.1))
  | none => false
def s_ckI (own : String) (nL fr lo : Nat) (tgt : Nat → Option Nat) (pc : Nat) (i : Instr) (x : sX) : Bool := match i with
  | .iconst n => decide (x.2.1 = .int (Int32.ofInt n))
  | .bipush n => decide (x.2.1 = .int (Int8.ofInt n).toInt32)
  | .sipush n => decide (x.2.1 = .int (Int16.ofInt n).toInt32)
  | .lconst n => decide (x.2.1 = .long (Int64.ofNat (n : Nat)))
  | .ldc ix => match x.1, x.2.1 with
    | [q], .int v => decide (lw_tbl[q]? = some (.constant own ix v))
    | [q, _], .ref a => decide (own = "WishClerk$Reader") && (decide (s_lit[q]?.map (fun z => z.1) = some ix) && Nat.beq a (500 + q))
    | _, _ => false
  | .ldc_w ix => match x.1, x.2.1 with
    | [q], .int v => decide (lw_tbl[q]? = some (.constant own ix v))
    | _, _ => false
  | .ldc2_w ix => match x.1, x.2.1 with
    | [q], .long v => decide (lw_tbl[q]? = some (.constantLong own ix v))
    | _, _ => false
  | .istore n => Nat.blt n nL
  | .istore_n n => Nat.blt n nL
  | .astore n => Nat.blt n nL
  | .astore_n n => Nat.blt n nL
  | .lstore n => Nat.blt (n + 1) nL
  | .lstore_n n => Nat.blt (n + 1) nL
  | .iinc n k => decide (x.2.1 = .int (Int32.ofInt k)) && Nat.blt n nL
  | .goto off => match x.1 with
    | b :: _ => s_ckT tgt pc off b
    | _ => false
  | .ifCond _ off => match x.1 with
    | b :: _ => s_ckT tgt pc off b
    | _ => false
  | .if_icmp _ off => match x.1 with
    | b :: _ => s_ckT tgt pc off b
    | _ => false
  | .tableswitch d lo hi offs => match x.1 with
    | b :: bs => s_ckT tgt pc d b && (s_ckTs tgt pc offs.toList bs && decide (hi + 1 = lo + (bs.length : Int) ∧ -2147483648 ≤ lo ∧ hi < 2147483648))
    | _ => false
  | .lookupswitch d ps => match x.1 with
    | b :: bs => s_ckT tgt pc d b && (s_ckTs tgt pc (ps.toList.map (fun z => z.2)) bs && (decide (∀ q ∈ ps.toList, -2147483648 ≤ q.1 ∧ q.1 < 2147483648) && (ps.toList.zip (ps.toList.drop 1)).all (fun (a, next) => decide (a.1 < next.1))))
    | _ => false
  | .getfield ix => match x.1 with
    | [ci, j, q] => s_ckF own ci j q ix
    | _ => false
  | .putfield ix => match x.1 with
    | [ci, j, q] => s_ckF own ci j q ix && decide ((s_fld ci j).2.2.2 = false)
    | _ => false
  | .invokevirtual ix => match x.1, x.2.2 with
    | [q], some ((y, _, mx, _), (kd, _, f2, l2), _) => Nat.blt 0 kd && (decide (lw_tbl[q]? = some (.methodLink own ix y)) && (Nat.blt f2 fr && Nat.ble (8 + (mx + 11) + l2) lo))
    | _, _ => false
  | .invokestatic ix => match x.1, x.2.2 with
    | [q], some ((y, _, mx, _), (kd, _, f2, l2), _) => Nat.beq kd 0 && (decide (lw_tbl[q]? = some (.methodLink own ix y)) && (Nat.blt f2 fr && Nat.ble (8 + (mx + 11) + l2) lo))
    | [q, _], some ((y, _, mx, _), (kd, _, f2, l2), _) => Nat.beq kd 0 && (decide (s_nests[q]? = some (own, ix, y)) && (Nat.blt f2 fr && Nat.ble (8 + (mx + 11) + l2) lo))
    | [q, 1], none => decide (lw_tbl[q]? = some (.methodLink own ix Lib.Math.max.name)) && (Nat.blt 0 fr && Nat.ble 21 lo)
    | [q, 2], none => decide (lw_tbl[q]? = some (.methodLink own ix Lib.Math.min.name)) && (Nat.blt 0 fr && Nat.ble 21 lo)
    | [q], none => decide (lw_tbl[q]? = some (.methodLink own ix arraycopyName)) && (Nat.blt 0 fr && Nat.ble (8 + (nativeFrameWords "java/lang/System" "arraycopy" 5 + 11)) lo)
    | _, _ => false
  | _ => true
theorem s_copy_words : Cond.native arraycopyName ∈ gT ∧ Cond.static arraycopyName ∈ gT ∧ Cond.initialized "java/lang/System" ∈ gT := by
  refine ⟨gT_of ?_ rfl, gT_of ?_ rfl, gT_of ?_ rfl⟩ <;> decide +kernel
theorem s_math_words : Cond.static Lib.Math.max.name ∈ gT ∧ Cond.static Lib.Math.min.name ∈ gT ∧ Cond.initialized "java/lang/Math" ∈ gT ∧ Cond.code Lib.Math.max.name Lib.Math.max.code 2 (some .int) ∈ gT ∧ Cond.code Lib.Math.min.name Lib.Math.min.code 2 (some .int) ∈ gT := by
  refine ⟨gT_of ?_ rfl, gT_of ?_ rfl, gT_of ?_ rfl, gT_of (List.mem_of_getElem? (i := 713) (by decide +kernel)) rfl, gT_of (List.mem_of_getElem? (i := 633) (by decide +kernel)) rfl⟩ <;> decide +kernel
theorem s_in : ∀ (ci : Nat) (q : vw_C), vwCl[ci]? = some q → ∀ w ∈ u_ws q.1 q.2.1 q.2.2, w ∈ gT := by
  intro ci q hq w hw
  match ci, hq with
  | 0, hq => cases hq; exact gT_of (inX0 w hw) (by revert w; decide +kernel)
  | 1, hq => cases hq; exact gT_of (inX1 w hw) (by revert w; decide +kernel)
  | 2, hq => cases hq; exact gT_of (inX2 w hw) (by revert w; decide +kernel)
  | 3, hq => cases hq; exact gT_of (inX3 w hw) (by revert w; decide +kernel)
  | 4, hq => cases hq; exact gT_of (inX4 w hw) (by revert w; decide +kernel)
  | 5, hq => cases hq; exact gT_of (inX5 w hw) (by revert w; decide +kernel)
  | 6, hq => cases hq; exact gT_of (inX6 w hw) (by revert w; decide +kernel)
  | n + 7, hq => simp [vwCl] at hq
theorem s_ftyo : ∀ (ci : Nat) (q : vw_C), vwCl[ci]? = some q → ∀ k, k < q.2.2 → parseFieldDescriptor (q.2.1 k).2.2.1 = some (s_fty ci k) := by
  intro ci q hq
  match ci, hq with
  | 0, hq => cases hq; exact tyX0_ok
  | 1, hq => cases hq; exact tyX1_ok
  | 2, hq => cases hq; exact tyX2_ok
  | 3, hq => cases hq; exact tyX3_ok
  | 4, hq => cases hq; exact tyX4_ok
  | 5, hq => cases hq; exact tyX5_ok
  | 6, hq => cases hq; exact tyX6_ok
  | n + 7, hq => simp [vwCl] at hq
theorem s_nmo : ∀ (ci : Nat) (q : vw_C), vwCl[ci]? = some q → ∀ a, a < q.2.2 → ∀ b, b < q.2.2 → a ≠ b → (q.2.1 a).2.1 ≠ (q.2.1 b).2.1 := by
  intro ci q hq
  match ci, hq with
  | 0, hq => cases hq; exact nmX0
  | 1, hq => cases hq; exact nmX1
  | 2, hq => cases hq; exact nmX2
  | 3, hq => cases hq; exact nmX3
  | 4, hq => cases hq; exact nmX4
  | 5, hq => cases hq; exact nmX5
  | 6, hq => cases hq; exact nmX6
  | n + 7, hq => simp [vwCl] at hq
theorem s_fit_spec {ty : FieldType} {v : Value} {Q : Prop} (h : s_fit ty v Q) : Q ∧ (∀ ad, narrow ty (s_rv ad v) = s_rv ad v ∧ fits ty (s_rv ad v) = true) := by
  unfold s_fit at h
  split at h
  · exact ⟨h, fun ad => ⟨rfl, rfl⟩⟩
  · refine ⟨h.2, fun ad => ?_⟩
    rcases h.1 with rfl | rfl <;> exact ⟨rfl, rfl⟩
  · exact ⟨h, fun ad => ⟨rfl, rfl⟩⟩
  · exact ⟨h, fun ad => ⟨rfl, rfl⟩⟩
  · exact h.elim

/-! ===== Book: bits and rows ===== -/
def p_hb (x i : Int32) : Int32 := if (x >>> (i &&& 31)) &&& 1 = 0 then 0 else 1
def c_X5_hasBit : sCtr := ((yX5_hasBit, cX5_hasBit, 2, (some .boolean)), (0, 2, 0, 0), true,
  fun _ _ => [],
  fun vs _ => ∃ x i : Int32, vs = [.int x, .int i],
  fun vs _ r _ => match vs with
    | [.int x, .int i] => r = some (.int (p_hb x i))
    | _ => False)
theorem sta_X5_hasBit : s_Sta c_X5_hasBit := ⟨⟨by decide +kernel, by decide +kernel, by decide +kernel⟩, List.mem_of_getElem? (i := 447) (by decide +kernel), List.mem_of_getElem? (i := 64) (by decide +kernel), List.mem_of_getElem? (i := 446) (by decide +kernel)⟩

def k_X5_hasBit : List sBk := [
  (0, false, [true, true], [o0 0 (.iload_n 0), o0 1 (.iload_n 1), o0 2 .ishr, oK 3 (.iconst 1) (.int 1), o0 4 .iand, oN 5 (.ifCond .eq 7) [1], oK 8 (.iconst 1) (.int 1), oN 9 (.goto 4) [2]]),
  (12, false, [false, false], [oK 12 (.iconst 0) (.int 0), oN 13 .nop [2]]),
  (13, false, [false, false], [o0 13 .ireturn])]
set_option maxRecDepth 100000 in
theorem ck_X5_hasBit : s_ck RX5 cX5_hasBit 2 0 0 k_X5_hasBit = true := by decide +kernel

set_option maxRecDepth 100000 in
set_option maxHeartbeats 4000000 in
theorem ok_X5_hasBit : s_Ok c_X5_hasBit := by
  refine s_ok_of k_X5_hasBit (by decide +kernel) sta_X5_hasBit ck_X5_hasBit trivial ?_
  rintro vs L ⟨x, i, rfl⟩
  refine ⟨rfl, fun G hG => ?_⟩
  refine hG 0 _ _ _ ?_
  refine And.intro (fun h => ?_) (fun h => ?_)
  · refine And.intro (Or.inl rfl) ⟨rfl, ?_, fun _ => rfl⟩
    show _ = some (Value.int (p_hb x i))
    rw [p_hb, if_pos h]
  · refine And.intro (Or.inr rfl) ⟨rfl, ?_, fun _ => rfl⟩
    show _ = some (Value.int (p_hb x i))
    rw [p_hb, if_neg h]

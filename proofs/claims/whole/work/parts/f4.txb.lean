/-! ===== class and model: the book that a text makes ===== -/
theorem cpf_lt {f g : Nat → Int32} {n j : Nat} (h : j < n) : q_cpf f g n j = g j := by rw [q_cpf, if_pos h]
theorem cpf_ge {f g : Nat → Int32} {n j : Nat} (h : n ≤ j) : q_cpf f g n j = f j := by rw [q_cpf, if_neg (by omega)]
theorem or_ltn {j M W : Nat} {v : Int32} (e : v = nI j) (h : j ||| M = M) (hM : M < 2 ^ W) : ltn W v := ⟨j, Nat.lt_of_le_of_lt (by rw [← h]; exact Nat.left_le_or) hM, e⟩
theorem lt8_P {P : Nat} {v : Int32} (hP : P ≤ 8) (h : ∃ j : Nat, j < 2 ^ P ∧ v = nI j) : lt8 v := ltn_lt8 hP h
theorem tx_BRf {P W N M1 M2 : Nat} {g1 g2 g3 : Int32} {d : dT} {dP dW hD h1 hW : Int32} {dr dy dq st : Nat → Int32} {F : Nat → Nat → Int32} (hB : BBf P W N M1 M2 g1 g2 g3 (d_pe d) (d_wi d) (d_de d) (d_li d) (d_ba d) (d_ls d) (d_pn d) (d_f1 d) (d_f2 d) (d_f3 d) (d_f4 d) (d_f5 d) (d_f8 d) dP dW hD h1 hW dr dy dq) (hM1 : M1 < 2 ^ P) (hM2 : M2 < 2 ^ W) : BR P W (sD (fun _ => 0) d) (FD (FW F d) d) (q_cpf st dr 53) := by
  obtain ⟨⟨⟨⟨_, p1, p2⟩, ⟨_, w1, w2⟩, ⟨n0, n1, n2⟩⟩, _⟩, ⟨⟨s1, s2⟩, ⟨s3, s4⟩, ⟨s5, s6⟩, ⟨s7, j7, s8, s9⟩, s10, s11⟩, b3, b4, b5, b8, _⟩ := hB
  refine ⟨⟨⟨p1, p2⟩, ⟨w1, w2⟩⟩, ⟨⟨?_, ?_⟩, ⟨?_, ?_⟩, ⟨?_, ?_⟩, ⟨?_, ?_⟩, ⟨?_, ?_⟩⟩, ⟨?_, N, n2, ?_, fun i hi => ?_⟩, ⟨?_, ?_, 0, by decide, ?_, fun i hi => by omega⟩, ?_⟩
  · rw [cpf_lt (by decide), s1]; rfl
  · rw [cpf_lt (by decide), s1]; exact s2
  · rw [cpf_lt (by decide), s3]; rfl
  · rw [cpf_lt (by decide), s3]; exact lt8_P p2 s4
  · rw [cpf_lt (by decide), s5]; rfl
  · rw [cpf_lt (by decide), s5]; exact lt8_P p2 s6
  · rw [cpf_lt (by decide), s10]; rfl
  · rw [cpf_lt (by decide), s10]; exact ⟨0, Nat.pow_pos (by decide), rfl⟩
  · rw [cpf_lt (by decide), s7]; rfl
  · rw [cpf_lt (by decide), s7]; exact or_ltn s8 s9 hM2
  · rw [cpf_lt (by decide), n0]; exact n1
  · rw [cpf_lt (by decide), n0]
  · obtain ⟨c1, j, c2, c3, c4⟩ := b8 i hi
    rw [cpf_lt (by omega), c1]
    refine ⟨rfl, j, ?_, c3⟩
    have : 2 ^ j < 2 ^ W := Nat.lt_of_le_of_lt (by rw [← c4]; exact Nat.left_le_or) hM2
    exact (Nat.pow_lt_pow_iff_right (by decide)).mp this
  · rw [cpf_lt (by decide), s11]; rfl
  · exact ⟨0, by decide, rfl⟩
  · rw [cpf_lt (by decide), s11]; rfl
  · have k := Bw_wof (s := sD (fun _ => 0) d) (F := FD F d) (g := q_cpf st dr 53) w1 w2 (fun i hi => by
      obtain ⟨x1, j1, x2, x3, _⟩ := b3 i (by omega)
      obtain ⟨y1, j2, y2, y3⟩ := b4 i (by omega)
      obtain ⟨z1, j3, z2, z3⟩ := b5 i (by omega)
      rw [cpf_lt (by omega), cpf_lt (by omega), cpf_lt (by omega), x1, y1, z1]
      exact ⟨⟨rfl, ltn_lt8 p2 (or_ltn x2 x3 hM1)⟩, ⟨rfl, or_ltn y2 y3 hM2⟩, ⟨rfl, or_ltn z2 z3 hM2⟩⟩)
    exact k
theorem tx_Bqf {W : Nat} {f1 f2 dy dq ye pr : Nat → Int32} (h : Bf W f1 f2 dy dq) : Bq W f1 (q_cpf ye dy W) ∧ Bq W f2 (q_cpf pr dq W) := by
  refine ⟨fun i hi => ?_, fun i hi => ?_⟩
  · obtain ⟨⟨a1, a2⟩, ⟨j, b1, b2⟩, _⟩ := h i hi
    rw [cpf_lt hi, a1]
    exact ⟨rfl, j, b1, b2⟩
  · obtain ⟨⟨a1, a2⟩, _, ⟨j, b1, b2⟩⟩ := h i hi
    rw [cpf_lt hi, a2]
    exact ⟨rfl, j, b1, b2⟩
/-- behind a text without a fault: the counts, the book, years and prices -/
theorem tx_BR {P W N M1 M2 : Nat} {g : Int32 × Int32 × Int32} {d : dT} {x : zT} {F : Nat → Nat → Int32} {st ye pr : Nat → Int32} (hB : BB P W N M1 M2 g d (zk8 x)) (hM1 : M1 < 2 ^ P) (hM2 : M2 < 2 ^ W) : (z_dP x = nI P ∧ z_dW x = nI W ∧ W ≤ 8) ∧ BR P W (sD (fun _ => 0) d) (FD (FW F d) d) (q_cpf st (z_dr x) 53) ∧ Bq W (d_f1 d) (q_cpf ye (z_dy x) W) ∧ Bq W (d_f2 d) (q_cpf pr (z_dq x) W) :=
  ⟨⟨hB.1.1.1.1, hB.1.1.2.1.1, hB.1.1.2.1.2.2⟩, tx_BRf hB hM1 hM2, tx_Bqf hB.2.2.2.2.2.2⟩

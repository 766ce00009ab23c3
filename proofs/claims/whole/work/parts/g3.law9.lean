/-! ===== the law: what holds between two new objects ===== -/
theorem li_start {s2 s3 ms : Nat → Int32} {F2 F3 cf F A : Nat → Nat → Int32} (h1 : ∀ j, j < 53 → A 1 j = 0) (h2 : A 2 0 = 0 ∧ A 2 1 = 0) (h8 : A 8 = fun _ => 0) (h14 : ∀ j, j < 4 → A 14 j = -4) (h15 : ∀ j, j < 4 → A 15 j = 0) (m15 : ms 15 = 0) (m20 : ms 20 = 0) (m30 : ms 30 = 0) (m2 : ms 2 = 0) (m3 : ms 3 = 0) : LIx 0 0 0 0 0 0 0 (fun _ => 0) s2 F2 s3 F3 (fun _ => -1) (fun _ => 0) cf (fun _ => 0) F ms A := by
  have z : (0 : Int32) = nI 0 := rfl
  refine ⟨⟨⟨⟨⟨z, by decide⟩, ⟨z, by decide⟩⟩, ⟨⟨?_, 0, by decide, ?_⟩, ⟨?_, 0, by decide, ?_⟩, ⟨?_, 0, by decide, ?_⟩, ⟨?_, 0, by decide, ?_⟩, ⟨?_, 0, by decide, ?_⟩⟩, ⟨?_, 0, by decide, ?_, fun i hi => by omega⟩, ⟨?_, ⟨0, by decide, z⟩, 0, by decide, ?_, fun i hi => by omega⟩, fun i hi => by omega⟩, fun i hi => by omega, fun i hi => by omega⟩, ⟨⟨0, by decide, z, ?_, ?_⟩, fun q => absurd h2.1 q, fun q => absurd h2.2 q⟩, ⟨z, by decide, m15, h8, fun _ => (by decide : ¬ (0 : Int32) < 0)⟩, fun j hj => ⟨Or.inl ⟨rfl, h14 j hj⟩, 0, by decide, z, ?_, fun i hi => by omega⟩, m20.symm, m30.symm, m2, m3⟩
  all_goals first
    | (rw [h1 _ (by decide)]; done)
    | (rw [h1 _ (by decide)]; rfl)
    | (rw [h2.1]; decide)
    | (rw [h2.2]; decide)
    | (rw [h15 j hj]; rfl)

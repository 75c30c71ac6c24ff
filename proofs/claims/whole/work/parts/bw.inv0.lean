/-! class and model stand alike at the start -/
theorem tlm_pos (j : Nat) : 0 < tlm j := by
  unfold tlm
  split <;> decide
set_option maxRecDepth 100000 in
set_option maxHeartbeats 8000000 in
theorem Inv_0 : Inv 0 cx_h0 cm_h0 := by
  refine ⟨fun p k => bif Nat.beq p 7 && Nat.beq k 7 then -1 else 0, fun _ _ => 0, fun _ => (0, fun _ => 0, 0, 0, fun _ => 0, fun _ => 0, fun _ => 0, -1), fun _ => (0, fun _ => 0, fun _ => 0, fun _ => 0), fun p => p + 1, [], fun _ => 0, fun _ => 0, fun _ _ => 0, fun _ _ => 0, 1, 0, 0, 0, 0, 0, 0, 0, 0, 0, 0, 0, fun _ _ => 0, fun _ => ruleL 0 (fun _ => 0) 161 0, rfl, rfl, ?_⟩
  exact ⟨⟨by decide, by decide, fun i i0 i1 => absurd i1 (by omega)⟩,
    ⟨by decide, by decide, fun i i0 i1 => absurd i1 (by omega)⟩,
    ⟨rfl, fun i _ _ => ⟨Int.le_refl 0, by show (0 : Int) ≤ 99; decide⟩⟩,
    ⟨by decide, by decide⟩, ⟨by decide, by decide⟩, ⟨by decide, by decide⟩, ⟨by decide, by decide⟩, ⟨by decide, by decide⟩, ⟨by decide, by decide⟩,
    ⟨rfl, fun i _ _ => ⟨Int.le_refl 0, by show (0 : Int) ≤ 99; decide⟩⟩,
    fun k k0 k1 => absurd k1 (by omega), fun q => absurd q (by decide), ⟨by decide, by decide⟩, fun q => absurd q (by decide),
    ⟨by decide, by decide, fun c c0 c1 => absurd c1 (by omega)⟩, fun c c0 c1 => absurd c1 (by omega), ⟨by decide, by decide, fun c c0 c1 => absurd c1 (by omega)⟩,
    ⟨by decide, 0, by decide, rfl, by decide⟩, ⟨by decide, 0, by decide, rfl, by decide⟩, fun _ => rfl, fun _ => rfl,
    ⟨by decide, by decide, ⟨0, by decide, rfl, rfl⟩, ⟨0, by decide, rfl, rfl⟩, by decide, by decide, by decide, fun k k0 k1 => by show (0 : Int) = if (0 : Int) = k + 1 then 1 else 0; rw [if_neg (by omega)]⟩,
    fun i i0 i1 => absurd i1 (by omega), fun i _ _ => rfl, by decide, ⟨by decide, fun c _ _ => ⟨Int.le_refl 0, Int.le_refl 0⟩⟩,
    fun j hj s s0 s1 => ⟨Int.le_refl 0, tlm_pos j⟩, fun k _ _ => ⟨Int.le_refl 0, by show (0 : Int) ≤ 4; decide⟩, ⟨by decide, by decide⟩,
    fun j _ _ => ⟨Int.le_refl 0, Int.le_refl 0⟩, fun k _ _ => ⟨by show (-1000000 : Int) ≤ 0; decide, by show (0 : Int) ≤ 1000000; decide⟩,
    ⟨by decide, by decide⟩, Or.inl rfl, Or.inl rfl, Or.inl rfl, ⟨by decide, by decide⟩,
    fun q => absurd q (by decide), fun q => absurd q (by decide), fun q => absurd q (by decide), fun q => absurd q (by decide),
    fun i i0 i1 => absurd i1 (by omega), Or.inl rfl, fun q => absurd q (by decide)⟩

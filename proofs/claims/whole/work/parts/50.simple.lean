/-! simple methods of class and model, walked in their whole heaps (printed by wip/whole/gensimple.py) -/
def am_u (z : Nat → Int32) (k : Nat) (x : Int32) : Nat → Int32 := fun a => bif Nat.beq a k then x else z a
def am_u2 (z : Nat → Nat → Int32) (p k : Nat) (x : Int32) : Nat → Nat → Int32 := fun a b => bif Nat.beq a p && Nat.beq b k then x else z a b
set_option maxRecDepth 100000 in
set_option maxHeartbeats 4000000 in
theorem x_end (d : Nat) (n : Int32) (z : Nat → Nat → Int32) (f : Nat → Nat → Int32) (rc : Nat → Nat) (tl : AmH) : Rx d m_X11_end 0 (am_ent [.ref 0, .int n] 2) [] (cxH z f rc tl) (fun rv h => (rv = some (.int 1) ∧ h = cxH (am_u2 z 1 1 n) f rc tl ∧ ¬ n < 0 ∧ n ≤ z 1 1) ∨ (rv = some (.int 0) ∧ h = cxH z f rc tl ∧ (n < 0 ∨ ¬ n ≤ z 1 1))) := by
  refine Rx.walk 1 (pc' := 1) (L' := [some (.ref 0), some (.int n)]) (st' := [.int n]) (h' := cxH z f rc tl) rfl ?_
  refine Rx.br (c := (n < 0 : Prop)) rfl rfl (fun b1 => ?_) (fun b1 => ?_)
  · refine Rx.walk 1 (pc' := 16) (L' := [some (.ref 0), some (.int n)]) (st' := [.int 0]) (h' := cxH z f rc tl) rfl ?_
    refine Rx.ret rfl ?_
    first | exact Or.inl ⟨rfl, rfl, by assumption, by assumption⟩ | exact Or.inr ⟨rfl, rfl, Or.inl (by assumption)⟩ | exact Or.inr ⟨rfl, rfl, Or.inr (by assumption)⟩
  · refine Rx.walk 4 (pc' := 12) (L' := [some (.ref 0), some (.int n)]) (st' := [.int (z 1 1), .int n]) (h' := cxH z f rc tl) rfl ?_
    refine Rx.br (c := (n ≤ (z 1 1) : Prop)) rfl rfl (fun b2 => ?_) (fun b2 => ?_)
    · refine Rx.walk 5 (pc' := 26) (L' := [some (.ref 0), some (.int n)]) (st' := [.int 1]) (h' := cxH (am_u2 z 1 1 n) f rc tl) rfl ?_
      refine Rx.ret rfl ?_
      first | exact Or.inl ⟨rfl, rfl, by assumption, by assumption⟩ | exact Or.inr ⟨rfl, rfl, Or.inl (by assumption)⟩ | exact Or.inr ⟨rfl, rfl, Or.inr (by assumption)⟩
    · refine Rx.walk 1 (pc' := 16) (L' := [some (.ref 0), some (.int n)]) (st' := [.int 0]) (h' := cxH z f rc tl) rfl ?_
      refine Rx.ret rfl ?_
      first | exact Or.inl ⟨rfl, rfl, by assumption, by assumption⟩ | exact Or.inr ⟨rfl, rfl, Or.inl (by assumption)⟩ | exact Or.inr ⟨rfl, rfl, Or.inr (by assumption)⟩
set_option maxRecDepth 100000 in
set_option maxHeartbeats 4000000 in
theorem r_end (d : Nat) (n : Int32) (z : Nat → Int32) (zl : Nat → Int64) (f : Nat → Nat → Int32) (fl : Nat → Nat → Int64) (tx : Nat) : Rx d m_X12_end 0 (am_ent [.ref 0, .int n] 2) [] (cmH z zl f fl tx) (fun rv h => (rv = some (.int 1) ∧ h = cmH (am_u (am_u z 0 0) 6 n) zl f fl tx ∧ ¬ n < 0 ∧ n ≤ z 6) ∨ (rv = some (.int 0) ∧ h = cmH (am_u z 0 0) zl f fl tx ∧ (n < 0 ∨ ¬ n ≤ z 6))) := by
  refine Rx.walk 4 (pc' := 6) (L' := [some (.ref 0), some (.int n)]) (st' := [.int n]) (h' := cmH (am_u z 0 0) zl f fl tx) rfl ?_
  refine Rx.br (c := (n < 0 : Prop)) rfl rfl (fun b1 => ?_) (fun b1 => ?_)
  · refine Rx.walk 1 (pc' := 18) (L' := [some (.ref 0), some (.int n)]) (st' := [.int 0]) (h' := cmH (am_u z 0 0) zl f fl tx) rfl ?_
    refine Rx.ret rfl ?_
    first | exact Or.inl ⟨rfl, rfl, by assumption, by assumption⟩ | exact Or.inr ⟨rfl, rfl, Or.inl (by assumption)⟩ | exact Or.inr ⟨rfl, rfl, Or.inr (by assumption)⟩
  · refine Rx.walk 3 (pc' := 14) (L' := [some (.ref 0), some (.int n)]) (st' := [.int (z 6), .int n]) (h' := cmH (am_u z 0 0) zl f fl tx) rfl ?_
    refine Rx.br (c := (n ≤ (z 6) : Prop)) rfl rfl (fun b2 => ?_) (fun b2 => ?_)
    · refine Rx.walk 4 (pc' := 25) (L' := [some (.ref 0), some (.int n)]) (st' := [.int 1]) (h' := cmH (am_u (am_u z 0 0) 6 n) zl f fl tx) rfl ?_
      refine Rx.ret rfl ?_
      first | exact Or.inl ⟨rfl, rfl, by assumption, by assumption⟩ | exact Or.inr ⟨rfl, rfl, Or.inl (by assumption)⟩ | exact Or.inr ⟨rfl, rfl, Or.inr (by assumption)⟩
    · refine Rx.walk 1 (pc' := 18) (L' := [some (.ref 0), some (.int n)]) (st' := [.int 0]) (h' := cmH (am_u z 0 0) zl f fl tx) rfl ?_
      refine Rx.ret rfl ?_
      first | exact Or.inl ⟨rfl, rfl, by assumption, by assumption⟩ | exact Or.inr ⟨rfl, rfl, Or.inl (by assumption)⟩ | exact Or.inr ⟨rfl, rfl, Or.inr (by assumption)⟩

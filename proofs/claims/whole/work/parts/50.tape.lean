/-! THE CLASS: Tape and what TillPipe does with it alone; runs in small heaps -/
/-- end(n): class. The object's other fields are any. -/
theorem x_end (d : Nat) (n l a : Int32) (v : Value) (fs : List Value) : Rn d m_X11_end 0 (am_ent [.ref 0, .int n] 2) [] [.inr (10, .ref 1 :: fs), .inr (8, [v, .int l, .int a])] (some (.int (if n < 0 ∨ l < n then 0 else 1)), [.inr (10, .ref 1 :: fs), .inr (8, [v, .int (if n < 0 ∨ l < n then l else n), .int a])], 0, 0) := by
  refine Rn.walk 1 (pc' := 1) (L' := [some (.ref 0), some (.int n)]) (st' := [.int n]) (h' := [.inr (10, .ref 1 :: fs), .inr (8, [v, .int l, .int a])]) rfl ?_
  sorry

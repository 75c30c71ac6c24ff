/-! a customer's text, the class (printed by wip/whole/gencust.py) -/
set_option maxRecDepth 100000 in
set_option maxHeartbeats 4000000 in
theorem x_addCoin0 (d : Nat) (z : Nat → Nat → Int) (f : Nat → Int → Int) (rc : Nat → Nat) (tl : AmH) (g : Int → Int) (e : Int) (he : 1 ≤ e ∧ e ≤ 4)   : Rx (d) m_X2_addCoin 0 (am_ent [.ref 7, .int (iz e)] 3) [] (cxH (u2 z 7 2 0) (uf f 8 g) rc tl) (fun rv h => rv = none ∧ ∃ g', h = cxH (u2 z 7 2 1) (uf f 8 g') rc tl ∧ lst g' 0 (insD e [])) := by
  refine Rx.walk 0 (pc' := 0) (L' := [some (.ref 7), some (.int (iz e)), none]) (st' := []) (h' := cxH (u2 z 7 2 0) (uf f 8 g) rc tl) rfl ?_
  refine Rx.walk 3 (pc' := 5) (L' := [some (.ref 7), some (.int (iz e)), none]) (st' := [.int (iz 4), .int (iz 0)]) (h' := cxH (u2 z 7 2 0) (uf f 8 g) rc tl) rfl ?_
  refine Rx.lt2 rfl rfl ⟨by omega, by omega⟩ ⟨by omega, by omega⟩ (fun b1 => ?_) (fun b1 => by omega)
  refine Rx.walk 4 (pc' := 15) (L' := [some (.ref 7), some (.int (iz e)), some (.int (iz 0))]) (st' := [.int (iz 0)]) (h' := cxH (u2 z 7 2 0) (uf f 8 g) rc tl) rfl ?_
  refine Rx.le1 rfl rfl ⟨by omega, by omega⟩ (fun b2 => ?_) (fun b2 => by omega)
  refine Rx.walk 4 (pc' := 56) (L' := [some (.ref 7), some (.int (iz e)), some (.int (iz 0))]) (st' := [.int (iz e), .int (iz 0), .ref 8]) (h' := cxH (u2 z 7 2 0) (uf f 8 g) rc tl) rfl ?_
  refine Rx.ias (g := g) (h' := cxH (u2 z 7 2 0) (uf f 8 (iu g 0 e)) rc tl) rfl rfl (by omega) (by omega) (by omega) rfl ?_
  refine Rx.walk 4 (pc' := 63) (L' := [some (.ref 7), some (.int (iz e)), some (.int (iz 0))]) (st' := [.int (iz 1), .int (iz 0), .ref 7]) (h' := cxH (u2 z 7 2 0) (uf f 8 (iu g 0 e)) rc tl) rfl ?_
  refine Rx.iadd rfl ?_
  refine Rx.walk 0 (pc' := 64) (L' := [some (.ref 7), some (.int (iz e)), some (.int (iz 0))]) (st' := [.int (iz 1), .ref 7]) (h' := cxH (u2 z 7 2 0) (uf f 8 (iu g 0 e)) rc tl) rfl ?_
  refine Rx.walk 1 (pc' := 67) (L' := [some (.ref 7), some (.int (iz e)), some (.int (iz 0))]) (st' := []) (h' := cxH (u2 z 7 2 1) (uf f 8 (iu g 0 e)) rc tl) rfl ?_
  refine Rx.ret rfl ?_
  refine ⟨rfl, _, rfl, ?_⟩
  simp only [insD]
  repeat' split
  all_goals first | omega | simp [lst, iu]
set_option maxRecDepth 100000 in
set_option maxHeartbeats 4000000 in
theorem x_addCoin1 (d : Nat) (z : Nat → Nat → Int) (f : Nat → Int → Int) (rc : Nat → Nat) (tl : AmH) (g : Int → Int) (e : Int) (he : 1 ≤ e ∧ e ≤ 4)  (r0 : 1 ≤ g 0 ∧ g 0 ≤ 4) : Rx (d) m_X2_addCoin 0 (am_ent [.ref 7, .int (iz e)] 3) [] (cxH (u2 z 7 2 1) (uf f 8 g) rc tl) (fun rv h => rv = none ∧ ∃ g', h = cxH (u2 z 7 2 2) (uf f 8 g') rc tl ∧ lst g' 0 (insD e [g 0])) := by
  refine Rx.walk 0 (pc' := 0) (L' := [some (.ref 7), some (.int (iz e)), none]) (st' := []) (h' := cxH (u2 z 7 2 1) (uf f 8 g) rc tl) rfl ?_
  refine Rx.walk 3 (pc' := 5) (L' := [some (.ref 7), some (.int (iz e)), none]) (st' := [.int (iz 4), .int (iz 1)]) (h' := cxH (u2 z 7 2 1) (uf f 8 g) rc tl) rfl ?_
  refine Rx.lt2 rfl rfl ⟨by omega, by omega⟩ ⟨by omega, by omega⟩ (fun b1 => ?_) (fun b1 => by omega)
  refine Rx.walk 4 (pc' := 15) (L' := [some (.ref 7), some (.int (iz e)), some (.int (iz 1))]) (st' := [.int (iz 1)]) (h' := cxH (u2 z 7 2 1) (uf f 8 g) rc tl) rfl ?_
  refine Rx.le1 rfl rfl ⟨by omega, by omega⟩ (fun b2 => by omega) (fun b2 => ?_)
  refine Rx.walk 4 (pc' := 24) (L' := [some (.ref 7), some (.int (iz e)), some (.int (iz 1))]) (st' := [.int (iz 1), .int (iz 1), .ref 8]) (h' := cxH (u2 z 7 2 1) (uf f 8 g) rc tl) rfl ?_
  refine Rx.isub rfl ?_
  refine Rx.walk 0 (pc' := 25) (L' := [some (.ref 7), some (.int (iz e)), some (.int (iz 1))]) (st' := [.int (iz 0), .ref 8]) (h' := cxH (u2 z 7 2 1) (uf f 8 g) rc tl) rfl ?_
  refine Rx.ial (g := g) rfl rfl (by omega) (by omega) (by omega) ?_
  refine Rx.walk 1 (pc' := 27) (L' := [some (.ref 7), some (.int (iz e)), some (.int (iz 1))]) (st' := [.int (iz e), .int (iz (g 0))]) (h' := cxH (u2 z 7 2 1) (uf f 8 g) rc tl) rfl ?_
  refine Rx.ge2 rfl rfl ⟨by omega, by omega⟩ ⟨by omega, by omega⟩ (fun b3 => ?_) (fun b3 => ?_)
  · refine Rx.walk 4 (pc' := 56) (L' := [some (.ref 7), some (.int (iz e)), some (.int (iz 1))]) (st' := [.int (iz e), .int (iz 1), .ref 8]) (h' := cxH (u2 z 7 2 1) (uf f 8 g) rc tl) rfl ?_
    refine Rx.ias (g := g) (h' := cxH (u2 z 7 2 1) (uf f 8 (iu g 1 e)) rc tl) rfl rfl (by omega) (by omega) (by omega) rfl ?_
    refine Rx.walk 4 (pc' := 63) (L' := [some (.ref 7), some (.int (iz e)), some (.int (iz 1))]) (st' := [.int (iz 1), .int (iz 1), .ref 7]) (h' := cxH (u2 z 7 2 1) (uf f 8 (iu g 1 e)) rc tl) rfl ?_
    refine Rx.iadd rfl ?_
    refine Rx.walk 0 (pc' := 64) (L' := [some (.ref 7), some (.int (iz e)), some (.int (iz 1))]) (st' := [.int (iz 2), .ref 7]) (h' := cxH (u2 z 7 2 1) (uf f 8 (iu g 1 e)) rc tl) rfl ?_
    refine Rx.walk 1 (pc' := 67) (L' := [some (.ref 7), some (.int (iz e)), some (.int (iz 1))]) (st' := []) (h' := cxH (u2 z 7 2 2) (uf f 8 (iu g 1 e)) rc tl) rfl ?_
    refine Rx.ret rfl ?_
    refine ⟨rfl, _, rfl, ?_⟩
    simp only [insD]
    repeat' split
    all_goals first | omega | simp [lst, iu]
  · refine Rx.walk 7 (pc' := 41) (L' := [some (.ref 7), some (.int (iz e)), some (.int (iz 1))]) (st' := [.int (iz 1), .int (iz 1), .ref 8, .int (iz 1), .ref 8]) (h' := cxH (u2 z 7 2 1) (uf f 8 g) rc tl) rfl ?_
    refine Rx.isub rfl ?_
    refine Rx.walk 0 (pc' := 42) (L' := [some (.ref 7), some (.int (iz e)), some (.int (iz 1))]) (st' := [.int (iz 0), .ref 8, .int (iz 1), .ref 8]) (h' := cxH (u2 z 7 2 1) (uf f 8 g) rc tl) rfl ?_
    refine Rx.ial (g := g) rfl rfl (by omega) (by omega) (by omega) ?_
    refine Rx.ias (g := g) (h' := cxH (u2 z 7 2 1) (uf f 8 (iu g 1 (g 0))) rc tl) rfl rfl (by omega) (by omega) (by omega) rfl ?_
    refine Rx.iinc (b := -1) rfl rfl rfl ?_
    refine Rx.walk 0 (pc' := 47) (L' := [some (.ref 7), some (.int (iz e)), some (.int (iz 0))]) (st' := []) (h' := cxH (u2 z 7 2 1) (uf f 8 (iu g 1 (g 0))) rc tl) rfl ?_
    refine Rx.walk 2 (pc' := 15) (L' := [some (.ref 7), some (.int (iz e)), some (.int (iz 0))]) (st' := [.int (iz 0)]) (h' := cxH (u2 z 7 2 1) (uf f 8 (iu g 1 (g 0))) rc tl) rfl ?_
    refine Rx.le1 rfl rfl ⟨by omega, by omega⟩ (fun b4 => ?_) (fun b4 => by omega)
    refine Rx.walk 4 (pc' := 56) (L' := [some (.ref 7), some (.int (iz e)), some (.int (iz 0))]) (st' := [.int (iz e), .int (iz 0), .ref 8]) (h' := cxH (u2 z 7 2 1) (uf f 8 (iu g 1 (g 0))) rc tl) rfl ?_
    refine Rx.ias (g := (iu g 1 (g 0))) (h' := cxH (u2 z 7 2 1) (uf f 8 (iu (iu g 1 (g 0)) 0 e)) rc tl) rfl rfl (by omega) (by omega) (by omega) rfl ?_
    refine Rx.walk 4 (pc' := 63) (L' := [some (.ref 7), some (.int (iz e)), some (.int (iz 0))]) (st' := [.int (iz 1), .int (iz 1), .ref 7]) (h' := cxH (u2 z 7 2 1) (uf f 8 (iu (iu g 1 (g 0)) 0 e)) rc tl) rfl ?_
    refine Rx.iadd rfl ?_
    refine Rx.walk 0 (pc' := 64) (L' := [some (.ref 7), some (.int (iz e)), some (.int (iz 0))]) (st' := [.int (iz 2), .ref 7]) (h' := cxH (u2 z 7 2 1) (uf f 8 (iu (iu g 1 (g 0)) 0 e)) rc tl) rfl ?_
    refine Rx.walk 1 (pc' := 67) (L' := [some (.ref 7), some (.int (iz e)), some (.int (iz 0))]) (st' := []) (h' := cxH (u2 z 7 2 2) (uf f 8 (iu (iu g 1 (g 0)) 0 e)) rc tl) rfl ?_
    refine Rx.ret rfl ?_
    refine ⟨rfl, _, rfl, ?_⟩
    simp only [insD]
    repeat' split
    all_goals first | omega | simp [lst, iu]
set_option maxRecDepth 100000 in
set_option maxHeartbeats 4000000 in
theorem x_addCoin2 (d : Nat) (z : Nat → Nat → Int) (f : Nat → Int → Int) (rc : Nat → Nat) (tl : AmH) (g : Int → Int) (e : Int) (he : 1 ≤ e ∧ e ≤ 4) (s0 : g 1 ≤ g 0) (r0 : 1 ≤ g 0 ∧ g 0 ≤ 4) (r1 : 1 ≤ g 1 ∧ g 1 ≤ 4) : Rx (d) m_X2_addCoin 0 (am_ent [.ref 7, .int (iz e)] 3) [] (cxH (u2 z 7 2 2) (uf f 8 g) rc tl) (fun rv h => rv = none ∧ ∃ g', h = cxH (u2 z 7 2 3) (uf f 8 g') rc tl ∧ lst g' 0 (insD e [g 0, g 1])) := by
  refine Rx.walk 0 (pc' := 0) (L' := [some (.ref 7), some (.int (iz e)), none]) (st' := []) (h' := cxH (u2 z 7 2 2) (uf f 8 g) rc tl) rfl ?_
  refine Rx.walk 3 (pc' := 5) (L' := [some (.ref 7), some (.int (iz e)), none]) (st' := [.int (iz 4), .int (iz 2)]) (h' := cxH (u2 z 7 2 2) (uf f 8 g) rc tl) rfl ?_
  refine Rx.lt2 rfl rfl ⟨by omega, by omega⟩ ⟨by omega, by omega⟩ (fun b1 => ?_) (fun b1 => by omega)
  refine Rx.walk 4 (pc' := 15) (L' := [some (.ref 7), some (.int (iz e)), some (.int (iz 2))]) (st' := [.int (iz 2)]) (h' := cxH (u2 z 7 2 2) (uf f 8 g) rc tl) rfl ?_
  refine Rx.le1 rfl rfl ⟨by omega, by omega⟩ (fun b2 => by omega) (fun b2 => ?_)
  refine Rx.walk 4 (pc' := 24) (L' := [some (.ref 7), some (.int (iz e)), some (.int (iz 2))]) (st' := [.int (iz 1), .int (iz 2), .ref 8]) (h' := cxH (u2 z 7 2 2) (uf f 8 g) rc tl) rfl ?_
  refine Rx.isub rfl ?_
  refine Rx.walk 0 (pc' := 25) (L' := [some (.ref 7), some (.int (iz e)), some (.int (iz 2))]) (st' := [.int (iz 1), .ref 8]) (h' := cxH (u2 z 7 2 2) (uf f 8 g) rc tl) rfl ?_
  refine Rx.ial (g := g) rfl rfl (by omega) (by omega) (by omega) ?_
  refine Rx.walk 1 (pc' := 27) (L' := [some (.ref 7), some (.int (iz e)), some (.int (iz 2))]) (st' := [.int (iz e), .int (iz (g 1))]) (h' := cxH (u2 z 7 2 2) (uf f 8 g) rc tl) rfl ?_
  refine Rx.ge2 rfl rfl ⟨by omega, by omega⟩ ⟨by omega, by omega⟩ (fun b3 => ?_) (fun b3 => ?_)
  · refine Rx.walk 4 (pc' := 56) (L' := [some (.ref 7), some (.int (iz e)), some (.int (iz 2))]) (st' := [.int (iz e), .int (iz 2), .ref 8]) (h' := cxH (u2 z 7 2 2) (uf f 8 g) rc tl) rfl ?_
    refine Rx.ias (g := g) (h' := cxH (u2 z 7 2 2) (uf f 8 (iu g 2 e)) rc tl) rfl rfl (by omega) (by omega) (by omega) rfl ?_
    refine Rx.walk 4 (pc' := 63) (L' := [some (.ref 7), some (.int (iz e)), some (.int (iz 2))]) (st' := [.int (iz 1), .int (iz 2), .ref 7]) (h' := cxH (u2 z 7 2 2) (uf f 8 (iu g 2 e)) rc tl) rfl ?_
    refine Rx.iadd rfl ?_
    refine Rx.walk 0 (pc' := 64) (L' := [some (.ref 7), some (.int (iz e)), some (.int (iz 2))]) (st' := [.int (iz 3), .ref 7]) (h' := cxH (u2 z 7 2 2) (uf f 8 (iu g 2 e)) rc tl) rfl ?_
    refine Rx.walk 1 (pc' := 67) (L' := [some (.ref 7), some (.int (iz e)), some (.int (iz 2))]) (st' := []) (h' := cxH (u2 z 7 2 3) (uf f 8 (iu g 2 e)) rc tl) rfl ?_
    refine Rx.ret rfl ?_
    refine ⟨rfl, _, rfl, ?_⟩
    simp only [insD]
    repeat' split
    all_goals first | omega | simp [lst, iu]
  · refine Rx.walk 7 (pc' := 41) (L' := [some (.ref 7), some (.int (iz e)), some (.int (iz 2))]) (st' := [.int (iz 1), .int (iz 2), .ref 8, .int (iz 2), .ref 8]) (h' := cxH (u2 z 7 2 2) (uf f 8 g) rc tl) rfl ?_
    refine Rx.isub rfl ?_
    refine Rx.walk 0 (pc' := 42) (L' := [some (.ref 7), some (.int (iz e)), some (.int (iz 2))]) (st' := [.int (iz 1), .ref 8, .int (iz 2), .ref 8]) (h' := cxH (u2 z 7 2 2) (uf f 8 g) rc tl) rfl ?_
    refine Rx.ial (g := g) rfl rfl (by omega) (by omega) (by omega) ?_
    refine Rx.ias (g := g) (h' := cxH (u2 z 7 2 2) (uf f 8 (iu g 2 (g 1))) rc tl) rfl rfl (by omega) (by omega) (by omega) rfl ?_
    refine Rx.iinc (b := -1) rfl rfl rfl ?_
    refine Rx.walk 0 (pc' := 47) (L' := [some (.ref 7), some (.int (iz e)), some (.int (iz 1))]) (st' := []) (h' := cxH (u2 z 7 2 2) (uf f 8 (iu g 2 (g 1))) rc tl) rfl ?_
    refine Rx.walk 2 (pc' := 15) (L' := [some (.ref 7), some (.int (iz e)), some (.int (iz 1))]) (st' := [.int (iz 1)]) (h' := cxH (u2 z 7 2 2) (uf f 8 (iu g 2 (g 1))) rc tl) rfl ?_
    refine Rx.le1 rfl rfl ⟨by omega, by omega⟩ (fun b4 => by omega) (fun b4 => ?_)
    refine Rx.walk 4 (pc' := 24) (L' := [some (.ref 7), some (.int (iz e)), some (.int (iz 1))]) (st' := [.int (iz 1), .int (iz 1), .ref 8]) (h' := cxH (u2 z 7 2 2) (uf f 8 (iu g 2 (g 1))) rc tl) rfl ?_
    refine Rx.isub rfl ?_
    refine Rx.walk 0 (pc' := 25) (L' := [some (.ref 7), some (.int (iz e)), some (.int (iz 1))]) (st' := [.int (iz 0), .ref 8]) (h' := cxH (u2 z 7 2 2) (uf f 8 (iu g 2 (g 1))) rc tl) rfl ?_
    refine Rx.ial (g := (iu g 2 (g 1))) rfl rfl (by omega) (by omega) (by omega) ?_
    rw [show ((iu g 2 (g 1)) 0) = g 0 by simp [iu]]
    refine Rx.walk 1 (pc' := 27) (L' := [some (.ref 7), some (.int (iz e)), some (.int (iz 1))]) (st' := [.int (iz e), .int (iz (g 0))]) (h' := cxH (u2 z 7 2 2) (uf f 8 (iu g 2 (g 1))) rc tl) rfl ?_
    refine Rx.ge2 rfl rfl ⟨by omega, by omega⟩ ⟨by omega, by omega⟩ (fun b5 => ?_) (fun b5 => ?_)
    · refine Rx.walk 4 (pc' := 56) (L' := [some (.ref 7), some (.int (iz e)), some (.int (iz 1))]) (st' := [.int (iz e), .int (iz 1), .ref 8]) (h' := cxH (u2 z 7 2 2) (uf f 8 (iu g 2 (g 1))) rc tl) rfl ?_
      refine Rx.ias (g := (iu g 2 (g 1))) (h' := cxH (u2 z 7 2 2) (uf f 8 (iu (iu g 2 (g 1)) 1 e)) rc tl) rfl rfl (by omega) (by omega) (by omega) rfl ?_
      refine Rx.walk 4 (pc' := 63) (L' := [some (.ref 7), some (.int (iz e)), some (.int (iz 1))]) (st' := [.int (iz 1), .int (iz 2), .ref 7]) (h' := cxH (u2 z 7 2 2) (uf f 8 (iu (iu g 2 (g 1)) 1 e)) rc tl) rfl ?_
      refine Rx.iadd rfl ?_
      refine Rx.walk 0 (pc' := 64) (L' := [some (.ref 7), some (.int (iz e)), some (.int (iz 1))]) (st' := [.int (iz 3), .ref 7]) (h' := cxH (u2 z 7 2 2) (uf f 8 (iu (iu g 2 (g 1)) 1 e)) rc tl) rfl ?_
      refine Rx.walk 1 (pc' := 67) (L' := [some (.ref 7), some (.int (iz e)), some (.int (iz 1))]) (st' := []) (h' := cxH (u2 z 7 2 3) (uf f 8 (iu (iu g 2 (g 1)) 1 e)) rc tl) rfl ?_
      refine Rx.ret rfl ?_
      refine ⟨rfl, _, rfl, ?_⟩
      simp only [insD]
      repeat' split
      all_goals first | omega | simp [lst, iu]
    · refine Rx.walk 7 (pc' := 41) (L' := [some (.ref 7), some (.int (iz e)), some (.int (iz 1))]) (st' := [.int (iz 1), .int (iz 1), .ref 8, .int (iz 1), .ref 8]) (h' := cxH (u2 z 7 2 2) (uf f 8 (iu g 2 (g 1))) rc tl) rfl ?_
      refine Rx.isub rfl ?_
      refine Rx.walk 0 (pc' := 42) (L' := [some (.ref 7), some (.int (iz e)), some (.int (iz 1))]) (st' := [.int (iz 0), .ref 8, .int (iz 1), .ref 8]) (h' := cxH (u2 z 7 2 2) (uf f 8 (iu g 2 (g 1))) rc tl) rfl ?_
      refine Rx.ial (g := (iu g 2 (g 1))) rfl rfl (by omega) (by omega) (by omega) ?_
      rw [show ((iu g 2 (g 1)) 0) = g 0 by simp [iu]]
      refine Rx.ias (g := (iu g 2 (g 1))) (h' := cxH (u2 z 7 2 2) (uf f 8 (iu (iu g 2 (g 1)) 1 (g 0))) rc tl) rfl rfl (by omega) (by omega) (by omega) rfl ?_
      refine Rx.iinc (b := -1) rfl rfl rfl ?_
      refine Rx.walk 0 (pc' := 47) (L' := [some (.ref 7), some (.int (iz e)), some (.int (iz 0))]) (st' := []) (h' := cxH (u2 z 7 2 2) (uf f 8 (iu (iu g 2 (g 1)) 1 (g 0))) rc tl) rfl ?_
      refine Rx.walk 2 (pc' := 15) (L' := [some (.ref 7), some (.int (iz e)), some (.int (iz 0))]) (st' := [.int (iz 0)]) (h' := cxH (u2 z 7 2 2) (uf f 8 (iu (iu g 2 (g 1)) 1 (g 0))) rc tl) rfl ?_
      refine Rx.le1 rfl rfl ⟨by omega, by omega⟩ (fun b6 => ?_) (fun b6 => by omega)
      refine Rx.walk 4 (pc' := 56) (L' := [some (.ref 7), some (.int (iz e)), some (.int (iz 0))]) (st' := [.int (iz e), .int (iz 0), .ref 8]) (h' := cxH (u2 z 7 2 2) (uf f 8 (iu (iu g 2 (g 1)) 1 (g 0))) rc tl) rfl ?_
      refine Rx.ias (g := (iu (iu g 2 (g 1)) 1 (g 0))) (h' := cxH (u2 z 7 2 2) (uf f 8 (iu (iu (iu g 2 (g 1)) 1 (g 0)) 0 e)) rc tl) rfl rfl (by omega) (by omega) (by omega) rfl ?_
      refine Rx.walk 4 (pc' := 63) (L' := [some (.ref 7), some (.int (iz e)), some (.int (iz 0))]) (st' := [.int (iz 1), .int (iz 2), .ref 7]) (h' := cxH (u2 z 7 2 2) (uf f 8 (iu (iu (iu g 2 (g 1)) 1 (g 0)) 0 e)) rc tl) rfl ?_
      refine Rx.iadd rfl ?_
      refine Rx.walk 0 (pc' := 64) (L' := [some (.ref 7), some (.int (iz e)), some (.int (iz 0))]) (st' := [.int (iz 3), .ref 7]) (h' := cxH (u2 z 7 2 2) (uf f 8 (iu (iu (iu g 2 (g 1)) 1 (g 0)) 0 e)) rc tl) rfl ?_
      refine Rx.walk 1 (pc' := 67) (L' := [some (.ref 7), some (.int (iz e)), some (.int (iz 0))]) (st' := []) (h' := cxH (u2 z 7 2 3) (uf f 8 (iu (iu (iu g 2 (g 1)) 1 (g 0)) 0 e)) rc tl) rfl ?_
      refine Rx.ret rfl ?_
      refine ⟨rfl, _, rfl, ?_⟩
      simp only [insD]
      repeat' split
      all_goals first | omega | simp [lst, iu]
set_option maxRecDepth 100000 in
set_option maxHeartbeats 4000000 in
theorem x_addCoin3 (d : Nat) (z : Nat → Nat → Int) (f : Nat → Int → Int) (rc : Nat → Nat) (tl : AmH) (g : Int → Int) (e : Int) (he : 1 ≤ e ∧ e ≤ 4) (s0 : g 1 ≤ g 0) (s1 : g 2 ≤ g 1) (r0 : 1 ≤ g 0 ∧ g 0 ≤ 4) (r1 : 1 ≤ g 1 ∧ g 1 ≤ 4) (r2 : 1 ≤ g 2 ∧ g 2 ≤ 4) : Rx (d) m_X2_addCoin 0 (am_ent [.ref 7, .int (iz e)] 3) [] (cxH (u2 z 7 2 3) (uf f 8 g) rc tl) (fun rv h => rv = none ∧ ∃ g', h = cxH (u2 z 7 2 4) (uf f 8 g') rc tl ∧ lst g' 0 (insD e [g 0, g 1, g 2])) := by
  refine Rx.walk 0 (pc' := 0) (L' := [some (.ref 7), some (.int (iz e)), none]) (st' := []) (h' := cxH (u2 z 7 2 3) (uf f 8 g) rc tl) rfl ?_
  refine Rx.walk 3 (pc' := 5) (L' := [some (.ref 7), some (.int (iz e)), none]) (st' := [.int (iz 4), .int (iz 3)]) (h' := cxH (u2 z 7 2 3) (uf f 8 g) rc tl) rfl ?_
  refine Rx.lt2 rfl rfl ⟨by omega, by omega⟩ ⟨by omega, by omega⟩ (fun b1 => ?_) (fun b1 => by omega)
  refine Rx.walk 4 (pc' := 15) (L' := [some (.ref 7), some (.int (iz e)), some (.int (iz 3))]) (st' := [.int (iz 3)]) (h' := cxH (u2 z 7 2 3) (uf f 8 g) rc tl) rfl ?_
  refine Rx.le1 rfl rfl ⟨by omega, by omega⟩ (fun b2 => by omega) (fun b2 => ?_)
  refine Rx.walk 4 (pc' := 24) (L' := [some (.ref 7), some (.int (iz e)), some (.int (iz 3))]) (st' := [.int (iz 1), .int (iz 3), .ref 8]) (h' := cxH (u2 z 7 2 3) (uf f 8 g) rc tl) rfl ?_
  refine Rx.isub rfl ?_
  refine Rx.walk 0 (pc' := 25) (L' := [some (.ref 7), some (.int (iz e)), some (.int (iz 3))]) (st' := [.int (iz 2), .ref 8]) (h' := cxH (u2 z 7 2 3) (uf f 8 g) rc tl) rfl ?_
  refine Rx.ial (g := g) rfl rfl (by omega) (by omega) (by omega) ?_
  refine Rx.walk 1 (pc' := 27) (L' := [some (.ref 7), some (.int (iz e)), some (.int (iz 3))]) (st' := [.int (iz e), .int (iz (g 2))]) (h' := cxH (u2 z 7 2 3) (uf f 8 g) rc tl) rfl ?_
  refine Rx.ge2 rfl rfl ⟨by omega, by omega⟩ ⟨by omega, by omega⟩ (fun b3 => ?_) (fun b3 => ?_)
  · refine Rx.walk 4 (pc' := 56) (L' := [some (.ref 7), some (.int (iz e)), some (.int (iz 3))]) (st' := [.int (iz e), .int (iz 3), .ref 8]) (h' := cxH (u2 z 7 2 3) (uf f 8 g) rc tl) rfl ?_
    refine Rx.ias (g := g) (h' := cxH (u2 z 7 2 3) (uf f 8 (iu g 3 e)) rc tl) rfl rfl (by omega) (by omega) (by omega) rfl ?_
    refine Rx.walk 4 (pc' := 63) (L' := [some (.ref 7), some (.int (iz e)), some (.int (iz 3))]) (st' := [.int (iz 1), .int (iz 3), .ref 7]) (h' := cxH (u2 z 7 2 3) (uf f 8 (iu g 3 e)) rc tl) rfl ?_
    refine Rx.iadd rfl ?_
    refine Rx.walk 0 (pc' := 64) (L' := [some (.ref 7), some (.int (iz e)), some (.int (iz 3))]) (st' := [.int (iz 4), .ref 7]) (h' := cxH (u2 z 7 2 3) (uf f 8 (iu g 3 e)) rc tl) rfl ?_
    refine Rx.walk 1 (pc' := 67) (L' := [some (.ref 7), some (.int (iz e)), some (.int (iz 3))]) (st' := []) (h' := cxH (u2 z 7 2 4) (uf f 8 (iu g 3 e)) rc tl) rfl ?_
    refine Rx.ret rfl ?_
    refine ⟨rfl, _, rfl, ?_⟩
    simp only [insD]
    repeat' split
    all_goals first | omega | simp [lst, iu]
  · refine Rx.walk 7 (pc' := 41) (L' := [some (.ref 7), some (.int (iz e)), some (.int (iz 3))]) (st' := [.int (iz 1), .int (iz 3), .ref 8, .int (iz 3), .ref 8]) (h' := cxH (u2 z 7 2 3) (uf f 8 g) rc tl) rfl ?_
    refine Rx.isub rfl ?_
    refine Rx.walk 0 (pc' := 42) (L' := [some (.ref 7), some (.int (iz e)), some (.int (iz 3))]) (st' := [.int (iz 2), .ref 8, .int (iz 3), .ref 8]) (h' := cxH (u2 z 7 2 3) (uf f 8 g) rc tl) rfl ?_
    refine Rx.ial (g := g) rfl rfl (by omega) (by omega) (by omega) ?_
    refine Rx.ias (g := g) (h' := cxH (u2 z 7 2 3) (uf f 8 (iu g 3 (g 2))) rc tl) rfl rfl (by omega) (by omega) (by omega) rfl ?_
    refine Rx.iinc (b := -1) rfl rfl rfl ?_
    refine Rx.walk 0 (pc' := 47) (L' := [some (.ref 7), some (.int (iz e)), some (.int (iz 2))]) (st' := []) (h' := cxH (u2 z 7 2 3) (uf f 8 (iu g 3 (g 2))) rc tl) rfl ?_
    refine Rx.walk 2 (pc' := 15) (L' := [some (.ref 7), some (.int (iz e)), some (.int (iz 2))]) (st' := [.int (iz 2)]) (h' := cxH (u2 z 7 2 3) (uf f 8 (iu g 3 (g 2))) rc tl) rfl ?_
    refine Rx.le1 rfl rfl ⟨by omega, by omega⟩ (fun b4 => by omega) (fun b4 => ?_)
    refine Rx.walk 4 (pc' := 24) (L' := [some (.ref 7), some (.int (iz e)), some (.int (iz 2))]) (st' := [.int (iz 1), .int (iz 2), .ref 8]) (h' := cxH (u2 z 7 2 3) (uf f 8 (iu g 3 (g 2))) rc tl) rfl ?_
    refine Rx.isub rfl ?_
    refine Rx.walk 0 (pc' := 25) (L' := [some (.ref 7), some (.int (iz e)), some (.int (iz 2))]) (st' := [.int (iz 1), .ref 8]) (h' := cxH (u2 z 7 2 3) (uf f 8 (iu g 3 (g 2))) rc tl) rfl ?_
    refine Rx.ial (g := (iu g 3 (g 2))) rfl rfl (by omega) (by omega) (by omega) ?_
    rw [show ((iu g 3 (g 2)) 1) = g 1 by simp [iu]]
    refine Rx.walk 1 (pc' := 27) (L' := [some (.ref 7), some (.int (iz e)), some (.int (iz 2))]) (st' := [.int (iz e), .int (iz (g 1))]) (h' := cxH (u2 z 7 2 3) (uf f 8 (iu g 3 (g 2))) rc tl) rfl ?_
    refine Rx.ge2 rfl rfl ⟨by omega, by omega⟩ ⟨by omega, by omega⟩ (fun b5 => ?_) (fun b5 => ?_)
    · refine Rx.walk 4 (pc' := 56) (L' := [some (.ref 7), some (.int (iz e)), some (.int (iz 2))]) (st' := [.int (iz e), .int (iz 2), .ref 8]) (h' := cxH (u2 z 7 2 3) (uf f 8 (iu g 3 (g 2))) rc tl) rfl ?_
      refine Rx.ias (g := (iu g 3 (g 2))) (h' := cxH (u2 z 7 2 3) (uf f 8 (iu (iu g 3 (g 2)) 2 e)) rc tl) rfl rfl (by omega) (by omega) (by omega) rfl ?_
      refine Rx.walk 4 (pc' := 63) (L' := [some (.ref 7), some (.int (iz e)), some (.int (iz 2))]) (st' := [.int (iz 1), .int (iz 3), .ref 7]) (h' := cxH (u2 z 7 2 3) (uf f 8 (iu (iu g 3 (g 2)) 2 e)) rc tl) rfl ?_
      refine Rx.iadd rfl ?_
      refine Rx.walk 0 (pc' := 64) (L' := [some (.ref 7), some (.int (iz e)), some (.int (iz 2))]) (st' := [.int (iz 4), .ref 7]) (h' := cxH (u2 z 7 2 3) (uf f 8 (iu (iu g 3 (g 2)) 2 e)) rc tl) rfl ?_
      refine Rx.walk 1 (pc' := 67) (L' := [some (.ref 7), some (.int (iz e)), some (.int (iz 2))]) (st' := []) (h' := cxH (u2 z 7 2 4) (uf f 8 (iu (iu g 3 (g 2)) 2 e)) rc tl) rfl ?_
      refine Rx.ret rfl ?_
      refine ⟨rfl, _, rfl, ?_⟩
      simp only [insD]
      repeat' split
      all_goals first | omega | simp [lst, iu]
    · refine Rx.walk 7 (pc' := 41) (L' := [some (.ref 7), some (.int (iz e)), some (.int (iz 2))]) (st' := [.int (iz 1), .int (iz 2), .ref 8, .int (iz 2), .ref 8]) (h' := cxH (u2 z 7 2 3) (uf f 8 (iu g 3 (g 2))) rc tl) rfl ?_
      refine Rx.isub rfl ?_
      refine Rx.walk 0 (pc' := 42) (L' := [some (.ref 7), some (.int (iz e)), some (.int (iz 2))]) (st' := [.int (iz 1), .ref 8, .int (iz 2), .ref 8]) (h' := cxH (u2 z 7 2 3) (uf f 8 (iu g 3 (g 2))) rc tl) rfl ?_
      refine Rx.ial (g := (iu g 3 (g 2))) rfl rfl (by omega) (by omega) (by omega) ?_
      rw [show ((iu g 3 (g 2)) 1) = g 1 by simp [iu]]
      refine Rx.ias (g := (iu g 3 (g 2))) (h' := cxH (u2 z 7 2 3) (uf f 8 (iu (iu g 3 (g 2)) 2 (g 1))) rc tl) rfl rfl (by omega) (by omega) (by omega) rfl ?_
      refine Rx.iinc (b := -1) rfl rfl rfl ?_
      refine Rx.walk 0 (pc' := 47) (L' := [some (.ref 7), some (.int (iz e)), some (.int (iz 1))]) (st' := []) (h' := cxH (u2 z 7 2 3) (uf f 8 (iu (iu g 3 (g 2)) 2 (g 1))) rc tl) rfl ?_
      refine Rx.walk 2 (pc' := 15) (L' := [some (.ref 7), some (.int (iz e)), some (.int (iz 1))]) (st' := [.int (iz 1)]) (h' := cxH (u2 z 7 2 3) (uf f 8 (iu (iu g 3 (g 2)) 2 (g 1))) rc tl) rfl ?_
      refine Rx.le1 rfl rfl ⟨by omega, by omega⟩ (fun b6 => by omega) (fun b6 => ?_)
      refine Rx.walk 4 (pc' := 24) (L' := [some (.ref 7), some (.int (iz e)), some (.int (iz 1))]) (st' := [.int (iz 1), .int (iz 1), .ref 8]) (h' := cxH (u2 z 7 2 3) (uf f 8 (iu (iu g 3 (g 2)) 2 (g 1))) rc tl) rfl ?_
      refine Rx.isub rfl ?_
      refine Rx.walk 0 (pc' := 25) (L' := [some (.ref 7), some (.int (iz e)), some (.int (iz 1))]) (st' := [.int (iz 0), .ref 8]) (h' := cxH (u2 z 7 2 3) (uf f 8 (iu (iu g 3 (g 2)) 2 (g 1))) rc tl) rfl ?_
      refine Rx.ial (g := (iu (iu g 3 (g 2)) 2 (g 1))) rfl rfl (by omega) (by omega) (by omega) ?_
      rw [show ((iu (iu g 3 (g 2)) 2 (g 1)) 0) = g 0 by simp [iu]]
      refine Rx.walk 1 (pc' := 27) (L' := [some (.ref 7), some (.int (iz e)), some (.int (iz 1))]) (st' := [.int (iz e), .int (iz (g 0))]) (h' := cxH (u2 z 7 2 3) (uf f 8 (iu (iu g 3 (g 2)) 2 (g 1))) rc tl) rfl ?_
      refine Rx.ge2 rfl rfl ⟨by omega, by omega⟩ ⟨by omega, by omega⟩ (fun b7 => ?_) (fun b7 => ?_)
      · refine Rx.walk 4 (pc' := 56) (L' := [some (.ref 7), some (.int (iz e)), some (.int (iz 1))]) (st' := [.int (iz e), .int (iz 1), .ref 8]) (h' := cxH (u2 z 7 2 3) (uf f 8 (iu (iu g 3 (g 2)) 2 (g 1))) rc tl) rfl ?_
        refine Rx.ias (g := (iu (iu g 3 (g 2)) 2 (g 1))) (h' := cxH (u2 z 7 2 3) (uf f 8 (iu (iu (iu g 3 (g 2)) 2 (g 1)) 1 e)) rc tl) rfl rfl (by omega) (by omega) (by omega) rfl ?_
        refine Rx.walk 4 (pc' := 63) (L' := [some (.ref 7), some (.int (iz e)), some (.int (iz 1))]) (st' := [.int (iz 1), .int (iz 3), .ref 7]) (h' := cxH (u2 z 7 2 3) (uf f 8 (iu (iu (iu g 3 (g 2)) 2 (g 1)) 1 e)) rc tl) rfl ?_
        refine Rx.iadd rfl ?_
        refine Rx.walk 0 (pc' := 64) (L' := [some (.ref 7), some (.int (iz e)), some (.int (iz 1))]) (st' := [.int (iz 4), .ref 7]) (h' := cxH (u2 z 7 2 3) (uf f 8 (iu (iu (iu g 3 (g 2)) 2 (g 1)) 1 e)) rc tl) rfl ?_
        refine Rx.walk 1 (pc' := 67) (L' := [some (.ref 7), some (.int (iz e)), some (.int (iz 1))]) (st' := []) (h' := cxH (u2 z 7 2 4) (uf f 8 (iu (iu (iu g 3 (g 2)) 2 (g 1)) 1 e)) rc tl) rfl ?_
        refine Rx.ret rfl ?_
        refine ⟨rfl, _, rfl, ?_⟩
        simp only [insD]
        repeat' split
        all_goals first | omega | simp [lst, iu]
      · refine Rx.walk 7 (pc' := 41) (L' := [some (.ref 7), some (.int (iz e)), some (.int (iz 1))]) (st' := [.int (iz 1), .int (iz 1), .ref 8, .int (iz 1), .ref 8]) (h' := cxH (u2 z 7 2 3) (uf f 8 (iu (iu g 3 (g 2)) 2 (g 1))) rc tl) rfl ?_
        refine Rx.isub rfl ?_
        refine Rx.walk 0 (pc' := 42) (L' := [some (.ref 7), some (.int (iz e)), some (.int (iz 1))]) (st' := [.int (iz 0), .ref 8, .int (iz 1), .ref 8]) (h' := cxH (u2 z 7 2 3) (uf f 8 (iu (iu g 3 (g 2)) 2 (g 1))) rc tl) rfl ?_
        refine Rx.ial (g := (iu (iu g 3 (g 2)) 2 (g 1))) rfl rfl (by omega) (by omega) (by omega) ?_
        rw [show ((iu (iu g 3 (g 2)) 2 (g 1)) 0) = g 0 by simp [iu]]
        refine Rx.ias (g := (iu (iu g 3 (g 2)) 2 (g 1))) (h' := cxH (u2 z 7 2 3) (uf f 8 (iu (iu (iu g 3 (g 2)) 2 (g 1)) 1 (g 0))) rc tl) rfl rfl (by omega) (by omega) (by omega) rfl ?_
        refine Rx.iinc (b := -1) rfl rfl rfl ?_
        refine Rx.walk 0 (pc' := 47) (L' := [some (.ref 7), some (.int (iz e)), some (.int (iz 0))]) (st' := []) (h' := cxH (u2 z 7 2 3) (uf f 8 (iu (iu (iu g 3 (g 2)) 2 (g 1)) 1 (g 0))) rc tl) rfl ?_
        refine Rx.walk 2 (pc' := 15) (L' := [some (.ref 7), some (.int (iz e)), some (.int (iz 0))]) (st' := [.int (iz 0)]) (h' := cxH (u2 z 7 2 3) (uf f 8 (iu (iu (iu g 3 (g 2)) 2 (g 1)) 1 (g 0))) rc tl) rfl ?_
        refine Rx.le1 rfl rfl ⟨by omega, by omega⟩ (fun b8 => ?_) (fun b8 => by omega)
        refine Rx.walk 4 (pc' := 56) (L' := [some (.ref 7), some (.int (iz e)), some (.int (iz 0))]) (st' := [.int (iz e), .int (iz 0), .ref 8]) (h' := cxH (u2 z 7 2 3) (uf f 8 (iu (iu (iu g 3 (g 2)) 2 (g 1)) 1 (g 0))) rc tl) rfl ?_
        refine Rx.ias (g := (iu (iu (iu g 3 (g 2)) 2 (g 1)) 1 (g 0))) (h' := cxH (u2 z 7 2 3) (uf f 8 (iu (iu (iu (iu g 3 (g 2)) 2 (g 1)) 1 (g 0)) 0 e)) rc tl) rfl rfl (by omega) (by omega) (by omega) rfl ?_
        refine Rx.walk 4 (pc' := 63) (L' := [some (.ref 7), some (.int (iz e)), some (.int (iz 0))]) (st' := [.int (iz 1), .int (iz 3), .ref 7]) (h' := cxH (u2 z 7 2 3) (uf f 8 (iu (iu (iu (iu g 3 (g 2)) 2 (g 1)) 1 (g 0)) 0 e)) rc tl) rfl ?_
        refine Rx.iadd rfl ?_
        refine Rx.walk 0 (pc' := 64) (L' := [some (.ref 7), some (.int (iz e)), some (.int (iz 0))]) (st' := [.int (iz 4), .ref 7]) (h' := cxH (u2 z 7 2 3) (uf f 8 (iu (iu (iu (iu g 3 (g 2)) 2 (g 1)) 1 (g 0)) 0 e)) rc tl) rfl ?_
        refine Rx.walk 1 (pc' := 67) (L' := [some (.ref 7), some (.int (iz e)), some (.int (iz 0))]) (st' := []) (h' := cxH (u2 z 7 2 4) (uf f 8 (iu (iu (iu (iu g 3 (g 2)) 2 (g 1)) 1 (g 0)) 0 e)) rc tl) rfl ?_
        refine Rx.ret rfl ?_
        refine ⟨rfl, _, rfl, ?_⟩
        simp only [insD]
        repeat' split
        all_goals first | omega | simp [lst, iu]
theorem x_addCoin (d : Nat) (z : Nat → Nat → Int) (f : Nat → Int → Int) (rc : Nat → Nat) (tl : AmH) (g : Int → Int) (e : Int) (he : 1 ≤ e ∧ e ≤ 4) (pl : List Int) (hl : pl.length < 4) (hg : lst g 0 pl) (hp : pl.Pairwise (fun x y => y ≤ x)) (hb : ∀ x ∈ pl, 1 ≤ x ∧ x ≤ 4) : Rx d m_X2_addCoin 0 (am_ent [.ref 7, .int (iz e)] 3) [] (cxH (u2 z 7 2 (pl.length : Int)) (uf f 8 g) rc tl) (fun rv h => rv = none ∧ ∃ g', h = cxH (u2 z 7 2 ((pl.length : Int) + 1)) (uf f 8 g') rc tl ∧ lst g' 0 (insD e pl)) := by
  match pl, hl, hg, hp, hb with
  | [], _, _, _, _ => exact x_addCoin0 d z f rc tl g e he
  | [x0], _, hg, hp, hb =>
    obtain ⟨rfl, -⟩ := hg
    exact x_addCoin1 d z f rc tl g e he (hb _ (by simp))
  | [x0, x1], _, hg, hp, hb =>
    obtain ⟨rfl, rfl, -⟩ := hg
    simp only [List.pairwise_cons, List.mem_cons, List.not_mem_nil, or_false] at hp
    exact x_addCoin2 d z f rc tl g e he (hp.1 _ rfl) (hb _ (by simp)) (hb _ (by simp))
  | [x0, x1, x2], _, hg, hp, hb =>
    obtain ⟨rfl, rfl, rfl, -⟩ := hg
    simp only [List.pairwise_cons, List.mem_cons, List.not_mem_nil, or_false] at hp
    exact x_addCoin3 d z f rc tl g e he (hp.1 _ (Or.inl rfl)) (hp.2.1 _ rfl) (hb _ (by simp)) (hb _ (by simp)) (hb _ (by simp))
  | _ :: _ :: _ :: _ :: _, hl, _, _, _ => simp at hl; omega
set_option maxRecDepth 100000 in
set_option maxHeartbeats 4000000 in
theorem x_isOpen (d : Nat) (z : Nat → Nat → Int) (f : Nat → Int → Int) (rc : Nat → Nat) (tl : AmH) (K : Int) (hK0 : 0 ≤ K) (hK1 : K ≤ 4) : Rx (d) m_X7_isOpen 0 (am_ent [.ref 3] 1) [] (cxH (u2 z 3 1 K) f rc tl) (fun rv h => ((0 < K ∧ rv = some (.int (iz 1))) ∨ (K = 0 ∧ rv = some (.int (iz 0)))) ∧ h = cxH (u2 z 3 1 K) f rc tl) := by
  refine Rx.walk 0 (pc' := 0) (L' := [some (.ref 3)]) (st' := []) (h' := cxH (u2 z 3 1 K) f rc tl) rfl ?_
  refine Rx.walk 2 (pc' := 4) (L' := [some (.ref 3)]) (st' := [.int (iz K)]) (h' := cxH (u2 z 3 1 K) f rc tl) rfl ?_
  refine Rx.le1 rfl rfl ⟨by omega, by omega⟩ (fun b1 => ?_) (fun b1 => ?_)
  · refine Rx.walk 1 (pc' := 12) (L' := [some (.ref 3)]) (st' := [.int (iz 0)]) (h' := cxH (u2 z 3 1 K) f rc tl) rfl ?_
    refine Rx.ret rfl ?_
    exact ⟨Or.inr ⟨by omega, rfl⟩, rfl⟩
  · refine Rx.walk 2 (pc' := 12) (L' := [some (.ref 3)]) (st' := [.int (iz 1)]) (h' := cxH (u2 z 3 1 K) f rc tl) rfl ?_
    refine Rx.ret rfl ?_
    exact ⟨Or.inl ⟨by omega, rfl⟩, rfl⟩

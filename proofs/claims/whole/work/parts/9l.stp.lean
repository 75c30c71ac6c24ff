/-! the model: stepsOf, order by order (printed by wip/whole/gensteps.py) -/
set_option maxRecDepth 100000 in
set_option maxHeartbeats 4000000 in
theorem n_has_0_0 (d : Nat) (h0 : AmH)   : Rx (d) m_X12_has 0 (am_ent [.int (iz 0), .int (iz 0)] 2) [] (h0) (fun rv h => rv = some (.int (iz 0)) ∧ h0 = h) := ⟨_, _, ⟨100, rfl⟩, rfl, rfl⟩
set_option maxRecDepth 100000 in
set_option maxHeartbeats 4000000 in
theorem m_stepsOf1_0 (d : Nat) (z : Nat → Int) (zl : Nat → Int) (f : Nat → Int → Int) (fl : Nat → Int → Int) (tx : Nat)  (od : Int → Int) (h0 : od 0 = 0) : Rx (d + 1) m_X12_stepsOf 0 (am_ent [.ref 0, .int (iz 1)] 6) [] (cmH z zl (uf f 22 od) fl tx) (fun rv h => rv = some (.int (iz 0)) ∧ h = cmH z zl (uf f 22 od) fl tx) := by
  refine Rx.walk 0 (pc' := 0) (L' := [some (.ref 0), some (.int (iz 1)), none, none, none, none]) (st' := []) (h' := cmH z zl (uf f 22 od) fl tx) rfl ?_
  refine Rx.walk 10 (pc' := 13) (L' := [some (.ref 0), some (.int (iz 1)), some (.int (iz 0)), some (.int (iz 0)), some (.int (iz 0)), some (.int (iz 0))]) (st' := [.int (iz 1), .int (iz 0)]) (h' := cmH z zl (uf f 22 od) fl tx) rfl ?_
  refine Rx.ge2 rfl rfl ⟨by omega, by omega⟩ ⟨by omega, by omega⟩ (fun b1 => by omega) (fun b1 => ?_)
  refine Rx.walk 2 (pc' := 19) (L' := [some (.ref 0), some (.int (iz 1)), some (.int (iz 0)), some (.int (iz 0)), some (.int (iz 0)), some (.int (iz 0))]) (st' := [.int (iz 0), .int (iz 0)]) (h' := cmH z zl (uf f 22 od) fl tx) rfl ?_
  refine Rx.callx (m' := m_X12_has) (as := [.int (iz 0), .int (iz 0)]) (rest := []) rfl (n_has_0_0 _ (cmH z zl (uf f 22 od) fl tx)   ) (fun v2 h3 q4 => ?_)
  obtain ⟨rfl, rfl⟩ := q4
  refine Rx.walk 0 (pc' := 22) (L' := [some (.ref 0), some (.int (iz 1)), some (.int (iz 0)), some (.int (iz 0)), some (.int (iz 0)), some (.int (iz 0))]) (st' := [.int (iz 0)]) (h' := cmH z zl (uf f 22 od) fl tx) rfl ?_
  refine Rx.ne1 rfl rfl ⟨by omega, by omega⟩ (fun b5 => by omega) (fun b5 => ?_)
  refine Rx.walk 4 (pc' := 32) (L' := [some (.ref 0), some (.int (iz 1)), some (.int (iz 0)), some (.int (iz 0)), some (.int (iz 0)), some (.int (iz 0))]) (st' := [.int (iz 0), .ref 22, .int (iz 0)]) (h' := cmH z zl (uf f 22 od) fl tx) rfl ?_
  refine Rx.ial (g := od) rfl rfl (by omega) (by omega) (by omega) ?_
  rw [show (od 0) = 0 from h0]
  refine Rx.eq2 rfl rfl ⟨by omega, by omega⟩ ⟨by omega, by omega⟩ (fun b6 => ?_) (fun b6 => by omega)
  refine Rx.walk 3 (pc' := 66) (L' := [some (.ref 0), some (.int (iz 1)), some (.int (iz 0)), some (.int (iz 0)), some (.int (iz 0)), some (.int (iz 0))]) (st' := [.int (iz 0), .int (iz 1), .int (iz 0)]) (h' := cmH z zl (uf f 22 od) fl tx) rfl ?_
  refine Rx.ishl (c := 1) rfl (by decide) ?_
  refine Rx.ior (c := 1) rfl (by decide) ?_
  refine Rx.walk 1 (pc' := 70) (L' := [some (.ref 0), some (.int (iz 1)), some (.int (iz 0)), some (.int (iz 0)), some (.int (iz 1)), some (.int (iz 0))]) (st' := []) (h' := cmH z zl (uf f 22 od) fl tx) rfl ?_
  refine Rx.iinc (b := 1) rfl rfl rfl ?_
  refine Rx.walk 0 (pc' := 73) (L' := [some (.ref 0), some (.int (iz 1)), some (.int (iz 0)), some (.int (iz 0)), some (.int (iz 1)), some (.int (iz 1))]) (st' := []) (h' := cmH z zl (uf f 22 od) fl tx) rfl ?_
  refine Rx.walk 3 (pc' := 13) (L' := [some (.ref 0), some (.int (iz 1)), some (.int (iz 0)), some (.int (iz 0)), some (.int (iz 1)), some (.int (iz 1))]) (st' := [.int (iz 1), .int (iz 1)]) (h' := cmH z zl (uf f 22 od) fl tx) rfl ?_
  refine Rx.ge2 rfl rfl ⟨by omega, by omega⟩ ⟨by omega, by omega⟩ (fun b7 => ?_) (fun b7 => by omega)
  refine Rx.walk 1 (pc' := 77) (L' := [some (.ref 0), some (.int (iz 1)), some (.int (iz 0)), some (.int (iz 0)), some (.int (iz 1)), some (.int (iz 1))]) (st' := [.int (iz 0)]) (h' := cmH z zl (uf f 22 od) fl tx) rfl ?_
  refine Rx.ret rfl ?_
  exact ⟨rfl, rfl⟩
set_option maxRecDepth 100000 in
set_option maxHeartbeats 4000000 in
theorem n_has_1_0 (d : Nat) (h0 : AmH)   : Rx (d) m_X12_has 0 (am_ent [.int (iz 1), .int (iz 0)] 2) [] (h0) (fun rv h => rv = some (.int (iz 1)) ∧ h0 = h) := ⟨_, _, ⟨100, rfl⟩, rfl, rfl⟩
set_option maxRecDepth 100000 in
set_option maxHeartbeats 4000000 in
theorem n_has_1_1 (d : Nat) (h0 : AmH)   : Rx (d) m_X12_has 0 (am_ent [.int (iz 1), .int (iz 1)] 2) [] (h0) (fun rv h => rv = some (.int (iz 0)) ∧ h0 = h) := ⟨_, _, ⟨100, rfl⟩, rfl, rfl⟩
set_option maxRecDepth 100000 in
set_option maxHeartbeats 4000000 in
theorem m_stepsOf2_0 (d : Nat) (z : Nat → Int) (zl : Nat → Int) (f : Nat → Int → Int) (fl : Nat → Int → Int) (tx : Nat)  (od : Int → Int) (h0 : od 0 = 0) (h1 : od 1 = 1) : Rx (d + 1) m_X12_stepsOf 0 (am_ent [.ref 0, .int (iz 2)] 6) [] (cmH z zl (uf f 22 od) fl tx) (fun rv h => rv = some (.int (iz 0)) ∧ h = cmH z zl (uf f 22 od) fl tx) := by
  refine Rx.walk 0 (pc' := 0) (L' := [some (.ref 0), some (.int (iz 2)), none, none, none, none]) (st' := []) (h' := cmH z zl (uf f 22 od) fl tx) rfl ?_
  refine Rx.walk 10 (pc' := 13) (L' := [some (.ref 0), some (.int (iz 2)), some (.int (iz 0)), some (.int (iz 0)), some (.int (iz 0)), some (.int (iz 0))]) (st' := [.int (iz 2), .int (iz 0)]) (h' := cmH z zl (uf f 22 od) fl tx) rfl ?_
  refine Rx.ge2 rfl rfl ⟨by omega, by omega⟩ ⟨by omega, by omega⟩ (fun b1 => by omega) (fun b1 => ?_)
  refine Rx.walk 2 (pc' := 19) (L' := [some (.ref 0), some (.int (iz 2)), some (.int (iz 0)), some (.int (iz 0)), some (.int (iz 0)), some (.int (iz 0))]) (st' := [.int (iz 0), .int (iz 0)]) (h' := cmH z zl (uf f 22 od) fl tx) rfl ?_
  refine Rx.callx (m' := m_X12_has) (as := [.int (iz 0), .int (iz 0)]) (rest := []) rfl (n_has_0_0 _ (cmH z zl (uf f 22 od) fl tx)   ) (fun v2 h3 q4 => ?_)
  obtain ⟨rfl, rfl⟩ := q4
  refine Rx.walk 0 (pc' := 22) (L' := [some (.ref 0), some (.int (iz 2)), some (.int (iz 0)), some (.int (iz 0)), some (.int (iz 0)), some (.int (iz 0))]) (st' := [.int (iz 0)]) (h' := cmH z zl (uf f 22 od) fl tx) rfl ?_
  refine Rx.ne1 rfl rfl ⟨by omega, by omega⟩ (fun b5 => by omega) (fun b5 => ?_)
  refine Rx.walk 4 (pc' := 32) (L' := [some (.ref 0), some (.int (iz 2)), some (.int (iz 0)), some (.int (iz 0)), some (.int (iz 0)), some (.int (iz 0))]) (st' := [.int (iz 0), .ref 22, .int (iz 0)]) (h' := cmH z zl (uf f 22 od) fl tx) rfl ?_
  refine Rx.ial (g := od) rfl rfl (by omega) (by omega) (by omega) ?_
  rw [show (od 0) = 0 from h0]
  refine Rx.eq2 rfl rfl ⟨by omega, by omega⟩ ⟨by omega, by omega⟩ (fun b6 => ?_) (fun b6 => by omega)
  refine Rx.walk 3 (pc' := 66) (L' := [some (.ref 0), some (.int (iz 2)), some (.int (iz 0)), some (.int (iz 0)), some (.int (iz 0)), some (.int (iz 0))]) (st' := [.int (iz 0), .int (iz 1), .int (iz 0)]) (h' := cmH z zl (uf f 22 od) fl tx) rfl ?_
  refine Rx.ishl (c := 1) rfl (by decide) ?_
  refine Rx.ior (c := 1) rfl (by decide) ?_
  refine Rx.walk 1 (pc' := 70) (L' := [some (.ref 0), some (.int (iz 2)), some (.int (iz 0)), some (.int (iz 0)), some (.int (iz 1)), some (.int (iz 0))]) (st' := []) (h' := cmH z zl (uf f 22 od) fl tx) rfl ?_
  refine Rx.iinc (b := 1) rfl rfl rfl ?_
  refine Rx.walk 0 (pc' := 73) (L' := [some (.ref 0), some (.int (iz 2)), some (.int (iz 0)), some (.int (iz 0)), some (.int (iz 1)), some (.int (iz 1))]) (st' := []) (h' := cmH z zl (uf f 22 od) fl tx) rfl ?_
  refine Rx.walk 3 (pc' := 13) (L' := [some (.ref 0), some (.int (iz 2)), some (.int (iz 0)), some (.int (iz 0)), some (.int (iz 1)), some (.int (iz 1))]) (st' := [.int (iz 2), .int (iz 1)]) (h' := cmH z zl (uf f 22 od) fl tx) rfl ?_
  refine Rx.ge2 rfl rfl ⟨by omega, by omega⟩ ⟨by omega, by omega⟩ (fun b7 => by omega) (fun b7 => ?_)
  refine Rx.walk 2 (pc' := 19) (L' := [some (.ref 0), some (.int (iz 2)), some (.int (iz 0)), some (.int (iz 0)), some (.int (iz 1)), some (.int (iz 1))]) (st' := [.int (iz 0), .int (iz 1)]) (h' := cmH z zl (uf f 22 od) fl tx) rfl ?_
  refine Rx.callx (m' := m_X12_has) (as := [.int (iz 1), .int (iz 0)]) (rest := []) rfl (n_has_1_0 _ (cmH z zl (uf f 22 od) fl tx)   ) (fun v8 h9 q10 => ?_)
  obtain ⟨rfl, rfl⟩ := q10
  refine Rx.walk 0 (pc' := 22) (L' := [some (.ref 0), some (.int (iz 2)), some (.int (iz 0)), some (.int (iz 0)), some (.int (iz 1)), some (.int (iz 1))]) (st' := [.int (iz 1)]) (h' := cmH z zl (uf f 22 od) fl tx) rfl ?_
  refine Rx.ne1 rfl rfl ⟨by omega, by omega⟩ (fun b11 => ?_) (fun b11 => by omega)
  refine Rx.walk 3 (pc' := 40) (L' := [some (.ref 0), some (.int (iz 2)), some (.int (iz 0)), some (.int (iz 0)), some (.int (iz 1)), some (.int (iz 1))]) (st' := [.int (iz 0), .int (iz 1), .int (iz 0)]) (h' := cmH z zl (uf f 22 od) fl tx) rfl ?_
  refine Rx.callx (m' := m_X12_has) (as := [.int (iz 1), .int (iz 0)]) (rest := [.int (iz 0)]) rfl (n_has_1_0 _ (cmH z zl (uf f 22 od) fl tx)   ) (fun v12 h13 q14 => ?_)
  obtain ⟨rfl, rfl⟩ := q14
  refine Rx.walk 0 (pc' := 43) (L' := [some (.ref 0), some (.int (iz 2)), some (.int (iz 0)), some (.int (iz 0)), some (.int (iz 1)), some (.int (iz 1))]) (st' := [.int (iz 1), .int (iz 0)]) (h' := cmH z zl (uf f 22 od) fl tx) rfl ?_
  refine Rx.eq1 rfl rfl ⟨by omega, by omega⟩ (fun b15 => by omega) (fun b15 => ?_)
  refine Rx.walk 2 (pc' := 51) (L' := [some (.ref 0), some (.int (iz 2)), some (.int (iz 0)), some (.int (iz 0)), some (.int (iz 1)), some (.int (iz 1))]) (st' := [.int (iz 0), .int (iz 0)]) (h' := cmH z zl (uf f 22 od) fl tx) rfl ?_
  refine Rx.iadd rfl ?_
  refine Rx.walk 0 (pc' := 52) (L' := [some (.ref 0), some (.int (iz 2)), some (.int (iz 0)), some (.int (iz 0)), some (.int (iz 1)), some (.int (iz 1))]) (st' := [.int (iz 0)]) (h' := cmH z zl (uf f 22 od) fl tx) rfl ?_
  refine Rx.walk 3 (pc' := 55) (L' := [some (.ref 0), some (.int (iz 2)), some (.int (iz 0)), some (.int (iz 0)), some (.int (iz 1)), some (.int (iz 1))]) (st' := [.int (iz 1), .int (iz 0)]) (h' := cmH z zl (uf f 22 od) fl tx) rfl ?_
  refine Rx.iadd rfl ?_
  refine Rx.walk 0 (pc' := 56) (L' := [some (.ref 0), some (.int (iz 2)), some (.int (iz 0)), some (.int (iz 0)), some (.int (iz 1)), some (.int (iz 1))]) (st' := [.int (iz 1)]) (h' := cmH z zl (uf f 22 od) fl tx) rfl ?_
  refine Rx.walk 1 (pc' := 57) (L' := [some (.ref 0), some (.int (iz 2)), some (.int (iz 0)), some (.int (iz 0)), some (.int (iz 1)), some (.int (iz 1))]) (st' := [.int (iz 2), .int (iz 1)]) (h' := cmH z zl (uf f 22 od) fl tx) rfl ?_
  refine Rx.irem rfl ⟨by omega, by omega⟩ ⟨by omega, by omega⟩ (by omega) (by omega) ?_
  refine Rx.walk 4 (pc' := 19) (L' := [some (.ref 0), some (.int (iz 2)), some (.int (iz 0)), some (.int (iz 1)), some (.int (iz 1)), some (.int (iz 1))]) (st' := [.int (iz 1), .int (iz 1)]) (h' := cmH z zl (uf f 22 od) fl tx) rfl ?_
  refine Rx.callx (m' := m_X12_has) (as := [.int (iz 1), .int (iz 1)]) (rest := []) rfl (n_has_1_1 _ (cmH z zl (uf f 22 od) fl tx)   ) (fun v16 h17 q18 => ?_)
  obtain ⟨rfl, rfl⟩ := q18
  refine Rx.walk 0 (pc' := 22) (L' := [some (.ref 0), some (.int (iz 2)), some (.int (iz 0)), some (.int (iz 1)), some (.int (iz 1)), some (.int (iz 1))]) (st' := [.int (iz 0)]) (h' := cmH z zl (uf f 22 od) fl tx) rfl ?_
  refine Rx.ne1 rfl rfl ⟨by omega, by omega⟩ (fun b19 => by omega) (fun b19 => ?_)
  refine Rx.walk 4 (pc' := 32) (L' := [some (.ref 0), some (.int (iz 2)), some (.int (iz 0)), some (.int (iz 1)), some (.int (iz 1)), some (.int (iz 1))]) (st' := [.int (iz 1), .ref 22, .int (iz 1)]) (h' := cmH z zl (uf f 22 od) fl tx) rfl ?_
  refine Rx.ial (g := od) rfl rfl (by omega) (by omega) (by omega) ?_
  rw [show (od 1) = 1 from h1]
  refine Rx.eq2 rfl rfl ⟨by omega, by omega⟩ ⟨by omega, by omega⟩ (fun b20 => ?_) (fun b20 => by omega)
  refine Rx.walk 3 (pc' := 66) (L' := [some (.ref 0), some (.int (iz 2)), some (.int (iz 0)), some (.int (iz 1)), some (.int (iz 1)), some (.int (iz 1))]) (st' := [.int (iz 1), .int (iz 1), .int (iz 1)]) (h' := cmH z zl (uf f 22 od) fl tx) rfl ?_
  refine Rx.ishl (c := 2) rfl (by decide) ?_
  refine Rx.ior (c := 3) rfl (by decide) ?_
  refine Rx.walk 1 (pc' := 70) (L' := [some (.ref 0), some (.int (iz 2)), some (.int (iz 0)), some (.int (iz 1)), some (.int (iz 3)), some (.int (iz 1))]) (st' := []) (h' := cmH z zl (uf f 22 od) fl tx) rfl ?_
  refine Rx.iinc (b := 1) rfl rfl rfl ?_
  refine Rx.walk 0 (pc' := 73) (L' := [some (.ref 0), some (.int (iz 2)), some (.int (iz 0)), some (.int (iz 1)), some (.int (iz 3)), some (.int (iz 2))]) (st' := []) (h' := cmH z zl (uf f 22 od) fl tx) rfl ?_
  refine Rx.walk 3 (pc' := 13) (L' := [some (.ref 0), some (.int (iz 2)), some (.int (iz 0)), some (.int (iz 1)), some (.int (iz 3)), some (.int (iz 2))]) (st' := [.int (iz 2), .int (iz 2)]) (h' := cmH z zl (uf f 22 od) fl tx) rfl ?_
  refine Rx.ge2 rfl rfl ⟨by omega, by omega⟩ ⟨by omega, by omega⟩ (fun b21 => ?_) (fun b21 => by omega)
  refine Rx.walk 1 (pc' := 77) (L' := [some (.ref 0), some (.int (iz 2)), some (.int (iz 0)), some (.int (iz 1)), some (.int (iz 3)), some (.int (iz 2))]) (st' := [.int (iz 0)]) (h' := cmH z zl (uf f 22 od) fl tx) rfl ?_
  refine Rx.ret rfl ?_
  exact ⟨rfl, rfl⟩
set_option maxRecDepth 100000 in
set_option maxHeartbeats 4000000 in
theorem n_has_0_1 (d : Nat) (h0 : AmH)   : Rx (d) m_X12_has 0 (am_ent [.int (iz 0), .int (iz 1)] 2) [] (h0) (fun rv h => rv = some (.int (iz 0)) ∧ h0 = h) := ⟨_, _, ⟨100, rfl⟩, rfl, rfl⟩
set_option maxRecDepth 100000 in
set_option maxHeartbeats 4000000 in
theorem n_has_2_1 (d : Nat) (h0 : AmH)   : Rx (d) m_X12_has 0 (am_ent [.int (iz 2), .int (iz 1)] 2) [] (h0) (fun rv h => rv = some (.int (iz 1)) ∧ h0 = h) := ⟨_, _, ⟨100, rfl⟩, rfl, rfl⟩
set_option maxRecDepth 100000 in
set_option maxHeartbeats 4000000 in
theorem n_has_2_0 (d : Nat) (h0 : AmH)   : Rx (d) m_X12_has 0 (am_ent [.int (iz 2), .int (iz 0)] 2) [] (h0) (fun rv h => rv = some (.int (iz 0)) ∧ h0 = h) := ⟨_, _, ⟨100, rfl⟩, rfl, rfl⟩
set_option maxRecDepth 100000 in
set_option maxHeartbeats 4000000 in
theorem m_stepsOf2_1 (d : Nat) (z : Nat → Int) (zl : Nat → Int) (f : Nat → Int → Int) (fl : Nat → Int → Int) (tx : Nat)  (od : Int → Int) (h0 : od 0 = 1) (h1 : od 1 = 0) : Rx (d + 1) m_X12_stepsOf 0 (am_ent [.ref 0, .int (iz 2)] 6) [] (cmH z zl (uf f 22 od) fl tx) (fun rv h => rv = some (.int (iz 1)) ∧ h = cmH z zl (uf f 22 od) fl tx) := by
  refine Rx.walk 0 (pc' := 0) (L' := [some (.ref 0), some (.int (iz 2)), none, none, none, none]) (st' := []) (h' := cmH z zl (uf f 22 od) fl tx) rfl ?_
  refine Rx.walk 10 (pc' := 13) (L' := [some (.ref 0), some (.int (iz 2)), some (.int (iz 0)), some (.int (iz 0)), some (.int (iz 0)), some (.int (iz 0))]) (st' := [.int (iz 2), .int (iz 0)]) (h' := cmH z zl (uf f 22 od) fl tx) rfl ?_
  refine Rx.ge2 rfl rfl ⟨by omega, by omega⟩ ⟨by omega, by omega⟩ (fun b1 => by omega) (fun b1 => ?_)
  refine Rx.walk 2 (pc' := 19) (L' := [some (.ref 0), some (.int (iz 2)), some (.int (iz 0)), some (.int (iz 0)), some (.int (iz 0)), some (.int (iz 0))]) (st' := [.int (iz 0), .int (iz 0)]) (h' := cmH z zl (uf f 22 od) fl tx) rfl ?_
  refine Rx.callx (m' := m_X12_has) (as := [.int (iz 0), .int (iz 0)]) (rest := []) rfl (n_has_0_0 _ (cmH z zl (uf f 22 od) fl tx)   ) (fun v2 h3 q4 => ?_)
  obtain ⟨rfl, rfl⟩ := q4
  refine Rx.walk 0 (pc' := 22) (L' := [some (.ref 0), some (.int (iz 2)), some (.int (iz 0)), some (.int (iz 0)), some (.int (iz 0)), some (.int (iz 0))]) (st' := [.int (iz 0)]) (h' := cmH z zl (uf f 22 od) fl tx) rfl ?_
  refine Rx.ne1 rfl rfl ⟨by omega, by omega⟩ (fun b5 => by omega) (fun b5 => ?_)
  refine Rx.walk 4 (pc' := 32) (L' := [some (.ref 0), some (.int (iz 2)), some (.int (iz 0)), some (.int (iz 0)), some (.int (iz 0)), some (.int (iz 0))]) (st' := [.int (iz 0), .ref 22, .int (iz 0)]) (h' := cmH z zl (uf f 22 od) fl tx) rfl ?_
  refine Rx.ial (g := od) rfl rfl (by omega) (by omega) (by omega) ?_
  rw [show (od 0) = 1 from h0]
  refine Rx.eq2 rfl rfl ⟨by omega, by omega⟩ ⟨by omega, by omega⟩ (fun b6 => by omega) (fun b6 => ?_)
  refine Rx.walk 3 (pc' := 40) (L' := [some (.ref 0), some (.int (iz 2)), some (.int (iz 0)), some (.int (iz 0)), some (.int (iz 0)), some (.int (iz 0))]) (st' := [.int (iz 0), .int (iz 0), .int (iz 0)]) (h' := cmH z zl (uf f 22 od) fl tx) rfl ?_
  refine Rx.callx (m' := m_X12_has) (as := [.int (iz 0), .int (iz 0)]) (rest := [.int (iz 0)]) rfl (n_has_0_0 _ (cmH z zl (uf f 22 od) fl tx)   ) (fun v7 h8 q9 => ?_)
  obtain ⟨rfl, rfl⟩ := q9
  refine Rx.walk 0 (pc' := 43) (L' := [some (.ref 0), some (.int (iz 2)), some (.int (iz 0)), some (.int (iz 0)), some (.int (iz 0)), some (.int (iz 0))]) (st' := [.int (iz 0), .int (iz 0)]) (h' := cmH z zl (uf f 22 od) fl tx) rfl ?_
  refine Rx.eq1 rfl rfl ⟨by omega, by omega⟩ (fun b10 => ?_) (fun b10 => by omega)
  refine Rx.walk 1 (pc' := 51) (L' := [some (.ref 0), some (.int (iz 2)), some (.int (iz 0)), some (.int (iz 0)), some (.int (iz 0)), some (.int (iz 0))]) (st' := [.int (iz 1), .int (iz 0)]) (h' := cmH z zl (uf f 22 od) fl tx) rfl ?_
  refine Rx.iadd rfl ?_
  refine Rx.walk 0 (pc' := 52) (L' := [some (.ref 0), some (.int (iz 2)), some (.int (iz 0)), some (.int (iz 0)), some (.int (iz 0)), some (.int (iz 0))]) (st' := [.int (iz 1)]) (h' := cmH z zl (uf f 22 od) fl tx) rfl ?_
  refine Rx.walk 3 (pc' := 55) (L' := [some (.ref 0), some (.int (iz 2)), some (.int (iz 1)), some (.int (iz 0)), some (.int (iz 0)), some (.int (iz 0))]) (st' := [.int (iz 1), .int (iz 0)]) (h' := cmH z zl (uf f 22 od) fl tx) rfl ?_
  refine Rx.iadd rfl ?_
  refine Rx.walk 0 (pc' := 56) (L' := [some (.ref 0), some (.int (iz 2)), some (.int (iz 1)), some (.int (iz 0)), some (.int (iz 0)), some (.int (iz 0))]) (st' := [.int (iz 1)]) (h' := cmH z zl (uf f 22 od) fl tx) rfl ?_
  refine Rx.walk 1 (pc' := 57) (L' := [some (.ref 0), some (.int (iz 2)), some (.int (iz 1)), some (.int (iz 0)), some (.int (iz 0)), some (.int (iz 0))]) (st' := [.int (iz 2), .int (iz 1)]) (h' := cmH z zl (uf f 22 od) fl tx) rfl ?_
  refine Rx.irem rfl ⟨by omega, by omega⟩ ⟨by omega, by omega⟩ (by omega) (by omega) ?_
  refine Rx.walk 4 (pc' := 19) (L' := [some (.ref 0), some (.int (iz 2)), some (.int (iz 1)), some (.int (iz 1)), some (.int (iz 0)), some (.int (iz 0))]) (st' := [.int (iz 1), .int (iz 0)]) (h' := cmH z zl (uf f 22 od) fl tx) rfl ?_
  refine Rx.callx (m' := m_X12_has) (as := [.int (iz 0), .int (iz 1)]) (rest := []) rfl (n_has_0_1 _ (cmH z zl (uf f 22 od) fl tx)   ) (fun v11 h12 q13 => ?_)
  obtain ⟨rfl, rfl⟩ := q13
  refine Rx.walk 0 (pc' := 22) (L' := [some (.ref 0), some (.int (iz 2)), some (.int (iz 1)), some (.int (iz 1)), some (.int (iz 0)), some (.int (iz 0))]) (st' := [.int (iz 0)]) (h' := cmH z zl (uf f 22 od) fl tx) rfl ?_
  refine Rx.ne1 rfl rfl ⟨by omega, by omega⟩ (fun b14 => by omega) (fun b14 => ?_)
  refine Rx.walk 4 (pc' := 32) (L' := [some (.ref 0), some (.int (iz 2)), some (.int (iz 1)), some (.int (iz 1)), some (.int (iz 0)), some (.int (iz 0))]) (st' := [.int (iz 0), .ref 22, .int (iz 1)]) (h' := cmH z zl (uf f 22 od) fl tx) rfl ?_
  refine Rx.ial (g := od) rfl rfl (by omega) (by omega) (by omega) ?_
  rw [show (od 0) = 1 from h0]
  refine Rx.eq2 rfl rfl ⟨by omega, by omega⟩ ⟨by omega, by omega⟩ (fun b15 => ?_) (fun b15 => by omega)
  refine Rx.walk 3 (pc' := 66) (L' := [some (.ref 0), some (.int (iz 2)), some (.int (iz 1)), some (.int (iz 1)), some (.int (iz 0)), some (.int (iz 0))]) (st' := [.int (iz 1), .int (iz 1), .int (iz 0)]) (h' := cmH z zl (uf f 22 od) fl tx) rfl ?_
  refine Rx.ishl (c := 2) rfl (by decide) ?_
  refine Rx.ior (c := 2) rfl (by decide) ?_
  refine Rx.walk 1 (pc' := 70) (L' := [some (.ref 0), some (.int (iz 2)), some (.int (iz 1)), some (.int (iz 1)), some (.int (iz 2)), some (.int (iz 0))]) (st' := []) (h' := cmH z zl (uf f 22 od) fl tx) rfl ?_
  refine Rx.iinc (b := 1) rfl rfl rfl ?_
  refine Rx.walk 0 (pc' := 73) (L' := [some (.ref 0), some (.int (iz 2)), some (.int (iz 1)), some (.int (iz 1)), some (.int (iz 2)), some (.int (iz 1))]) (st' := []) (h' := cmH z zl (uf f 22 od) fl tx) rfl ?_
  refine Rx.walk 3 (pc' := 13) (L' := [some (.ref 0), some (.int (iz 2)), some (.int (iz 1)), some (.int (iz 1)), some (.int (iz 2)), some (.int (iz 1))]) (st' := [.int (iz 2), .int (iz 1)]) (h' := cmH z zl (uf f 22 od) fl tx) rfl ?_
  refine Rx.ge2 rfl rfl ⟨by omega, by omega⟩ ⟨by omega, by omega⟩ (fun b16 => by omega) (fun b16 => ?_)
  refine Rx.walk 2 (pc' := 19) (L' := [some (.ref 0), some (.int (iz 2)), some (.int (iz 1)), some (.int (iz 1)), some (.int (iz 2)), some (.int (iz 1))]) (st' := [.int (iz 1), .int (iz 2)]) (h' := cmH z zl (uf f 22 od) fl tx) rfl ?_
  refine Rx.callx (m' := m_X12_has) (as := [.int (iz 2), .int (iz 1)]) (rest := []) rfl (n_has_2_1 _ (cmH z zl (uf f 22 od) fl tx)   ) (fun v17 h18 q19 => ?_)
  obtain ⟨rfl, rfl⟩ := q19
  refine Rx.walk 0 (pc' := 22) (L' := [some (.ref 0), some (.int (iz 2)), some (.int (iz 1)), some (.int (iz 1)), some (.int (iz 2)), some (.int (iz 1))]) (st' := [.int (iz 1)]) (h' := cmH z zl (uf f 22 od) fl tx) rfl ?_
  refine Rx.ne1 rfl rfl ⟨by omega, by omega⟩ (fun b20 => ?_) (fun b20 => by omega)
  refine Rx.walk 3 (pc' := 40) (L' := [some (.ref 0), some (.int (iz 2)), some (.int (iz 1)), some (.int (iz 1)), some (.int (iz 2)), some (.int (iz 1))]) (st' := [.int (iz 1), .int (iz 2), .int (iz 1)]) (h' := cmH z zl (uf f 22 od) fl tx) rfl ?_
  refine Rx.callx (m' := m_X12_has) (as := [.int (iz 2), .int (iz 1)]) (rest := [.int (iz 1)]) rfl (n_has_2_1 _ (cmH z zl (uf f 22 od) fl tx)   ) (fun v21 h22 q23 => ?_)
  obtain ⟨rfl, rfl⟩ := q23
  refine Rx.walk 0 (pc' := 43) (L' := [some (.ref 0), some (.int (iz 2)), some (.int (iz 1)), some (.int (iz 1)), some (.int (iz 2)), some (.int (iz 1))]) (st' := [.int (iz 1), .int (iz 1)]) (h' := cmH z zl (uf f 22 od) fl tx) rfl ?_
  refine Rx.eq1 rfl rfl ⟨by omega, by omega⟩ (fun b24 => by omega) (fun b24 => ?_)
  refine Rx.walk 2 (pc' := 51) (L' := [some (.ref 0), some (.int (iz 2)), some (.int (iz 1)), some (.int (iz 1)), some (.int (iz 2)), some (.int (iz 1))]) (st' := [.int (iz 0), .int (iz 1)]) (h' := cmH z zl (uf f 22 od) fl tx) rfl ?_
  refine Rx.iadd rfl ?_
  refine Rx.walk 0 (pc' := 52) (L' := [some (.ref 0), some (.int (iz 2)), some (.int (iz 1)), some (.int (iz 1)), some (.int (iz 2)), some (.int (iz 1))]) (st' := [.int (iz 1)]) (h' := cmH z zl (uf f 22 od) fl tx) rfl ?_
  refine Rx.walk 3 (pc' := 55) (L' := [some (.ref 0), some (.int (iz 2)), some (.int (iz 1)), some (.int (iz 1)), some (.int (iz 2)), some (.int (iz 1))]) (st' := [.int (iz 1), .int (iz 1)]) (h' := cmH z zl (uf f 22 od) fl tx) rfl ?_
  refine Rx.iadd rfl ?_
  refine Rx.walk 0 (pc' := 56) (L' := [some (.ref 0), some (.int (iz 2)), some (.int (iz 1)), some (.int (iz 1)), some (.int (iz 2)), some (.int (iz 1))]) (st' := [.int (iz 2)]) (h' := cmH z zl (uf f 22 od) fl tx) rfl ?_
  refine Rx.walk 1 (pc' := 57) (L' := [some (.ref 0), some (.int (iz 2)), some (.int (iz 1)), some (.int (iz 1)), some (.int (iz 2)), some (.int (iz 1))]) (st' := [.int (iz 2), .int (iz 2)]) (h' := cmH z zl (uf f 22 od) fl tx) rfl ?_
  refine Rx.irem rfl ⟨by omega, by omega⟩ ⟨by omega, by omega⟩ (by omega) (by omega) ?_
  refine Rx.walk 4 (pc' := 19) (L' := [some (.ref 0), some (.int (iz 2)), some (.int (iz 1)), some (.int (iz 0)), some (.int (iz 2)), some (.int (iz 1))]) (st' := [.int (iz 0), .int (iz 2)]) (h' := cmH z zl (uf f 22 od) fl tx) rfl ?_
  refine Rx.callx (m' := m_X12_has) (as := [.int (iz 2), .int (iz 0)]) (rest := []) rfl (n_has_2_0 _ (cmH z zl (uf f 22 od) fl tx)   ) (fun v25 h26 q27 => ?_)
  obtain ⟨rfl, rfl⟩ := q27
  refine Rx.walk 0 (pc' := 22) (L' := [some (.ref 0), some (.int (iz 2)), some (.int (iz 1)), some (.int (iz 0)), some (.int (iz 2)), some (.int (iz 1))]) (st' := [.int (iz 0)]) (h' := cmH z zl (uf f 22 od) fl tx) rfl ?_
  refine Rx.ne1 rfl rfl ⟨by omega, by omega⟩ (fun b28 => by omega) (fun b28 => ?_)
  refine Rx.walk 4 (pc' := 32) (L' := [some (.ref 0), some (.int (iz 2)), some (.int (iz 1)), some (.int (iz 0)), some (.int (iz 2)), some (.int (iz 1))]) (st' := [.int (iz 1), .ref 22, .int (iz 0)]) (h' := cmH z zl (uf f 22 od) fl tx) rfl ?_
  refine Rx.ial (g := od) rfl rfl (by omega) (by omega) (by omega) ?_
  rw [show (od 1) = 0 from h1]
  refine Rx.eq2 rfl rfl ⟨by omega, by omega⟩ ⟨by omega, by omega⟩ (fun b29 => ?_) (fun b29 => by omega)
  refine Rx.walk 3 (pc' := 66) (L' := [some (.ref 0), some (.int (iz 2)), some (.int (iz 1)), some (.int (iz 0)), some (.int (iz 2)), some (.int (iz 1))]) (st' := [.int (iz 0), .int (iz 1), .int (iz 2)]) (h' := cmH z zl (uf f 22 od) fl tx) rfl ?_
  refine Rx.ishl (c := 1) rfl (by decide) ?_
  refine Rx.ior (c := 3) rfl (by decide) ?_
  refine Rx.walk 1 (pc' := 70) (L' := [some (.ref 0), some (.int (iz 2)), some (.int (iz 1)), some (.int (iz 0)), some (.int (iz 3)), some (.int (iz 1))]) (st' := []) (h' := cmH z zl (uf f 22 od) fl tx) rfl ?_
  refine Rx.iinc (b := 1) rfl rfl rfl ?_
  refine Rx.walk 0 (pc' := 73) (L' := [some (.ref 0), some (.int (iz 2)), some (.int (iz 1)), some (.int (iz 0)), some (.int (iz 3)), some (.int (iz 2))]) (st' := []) (h' := cmH z zl (uf f 22 od) fl tx) rfl ?_
  refine Rx.walk 3 (pc' := 13) (L' := [some (.ref 0), some (.int (iz 2)), some (.int (iz 1)), some (.int (iz 0)), some (.int (iz 3)), some (.int (iz 2))]) (st' := [.int (iz 2), .int (iz 2)]) (h' := cmH z zl (uf f 22 od) fl tx) rfl ?_
  refine Rx.ge2 rfl rfl ⟨by omega, by omega⟩ ⟨by omega, by omega⟩ (fun b30 => ?_) (fun b30 => by omega)
  refine Rx.walk 1 (pc' := 77) (L' := [some (.ref 0), some (.int (iz 2)), some (.int (iz 1)), some (.int (iz 0)), some (.int (iz 3)), some (.int (iz 2))]) (st' := [.int (iz 1)]) (h' := cmH z zl (uf f 22 od) fl tx) rfl ?_
  refine Rx.ret rfl ?_
  exact ⟨rfl, rfl⟩
set_option maxRecDepth 100000 in
set_option maxHeartbeats 4000000 in
theorem n_has_3_1 (d : Nat) (h0 : AmH)   : Rx (d) m_X12_has 0 (am_ent [.int (iz 3), .int (iz 1)] 2) [] (h0) (fun rv h => rv = some (.int (iz 1)) ∧ h0 = h) := ⟨_, _, ⟨100, rfl⟩, rfl, rfl⟩
set_option maxRecDepth 100000 in
set_option maxHeartbeats 4000000 in
theorem n_has_3_2 (d : Nat) (h0 : AmH)   : Rx (d) m_X12_has 0 (am_ent [.int (iz 3), .int (iz 2)] 2) [] (h0) (fun rv h => rv = some (.int (iz 0)) ∧ h0 = h) := ⟨_, _, ⟨100, rfl⟩, rfl, rfl⟩
set_option maxRecDepth 100000 in
set_option maxHeartbeats 4000000 in
theorem m_stepsOf3_0 (d : Nat) (z : Nat → Int) (zl : Nat → Int) (f : Nat → Int → Int) (fl : Nat → Int → Int) (tx : Nat)  (od : Int → Int) (h0 : od 0 = 0) (h1 : od 1 = 1) (h2 : od 2 = 2) : Rx (d + 1) m_X12_stepsOf 0 (am_ent [.ref 0, .int (iz 3)] 6) [] (cmH z zl (uf f 22 od) fl tx) (fun rv h => rv = some (.int (iz 0)) ∧ h = cmH z zl (uf f 22 od) fl tx) := by
  refine Rx.walk 0 (pc' := 0) (L' := [some (.ref 0), some (.int (iz 3)), none, none, none, none]) (st' := []) (h' := cmH z zl (uf f 22 od) fl tx) rfl ?_
  refine Rx.walk 10 (pc' := 13) (L' := [some (.ref 0), some (.int (iz 3)), some (.int (iz 0)), some (.int (iz 0)), some (.int (iz 0)), some (.int (iz 0))]) (st' := [.int (iz 3), .int (iz 0)]) (h' := cmH z zl (uf f 22 od) fl tx) rfl ?_
  refine Rx.ge2 rfl rfl ⟨by omega, by omega⟩ ⟨by omega, by omega⟩ (fun b1 => by omega) (fun b1 => ?_)
  refine Rx.walk 2 (pc' := 19) (L' := [some (.ref 0), some (.int (iz 3)), some (.int (iz 0)), some (.int (iz 0)), some (.int (iz 0)), some (.int (iz 0))]) (st' := [.int (iz 0), .int (iz 0)]) (h' := cmH z zl (uf f 22 od) fl tx) rfl ?_
  refine Rx.callx (m' := m_X12_has) (as := [.int (iz 0), .int (iz 0)]) (rest := []) rfl (n_has_0_0 _ (cmH z zl (uf f 22 od) fl tx)   ) (fun v2 h3 q4 => ?_)
  obtain ⟨rfl, rfl⟩ := q4
  refine Rx.walk 0 (pc' := 22) (L' := [some (.ref 0), some (.int (iz 3)), some (.int (iz 0)), some (.int (iz 0)), some (.int (iz 0)), some (.int (iz 0))]) (st' := [.int (iz 0)]) (h' := cmH z zl (uf f 22 od) fl tx) rfl ?_
  refine Rx.ne1 rfl rfl ⟨by omega, by omega⟩ (fun b5 => by omega) (fun b5 => ?_)
  refine Rx.walk 4 (pc' := 32) (L' := [some (.ref 0), some (.int (iz 3)), some (.int (iz 0)), some (.int (iz 0)), some (.int (iz 0)), some (.int (iz 0))]) (st' := [.int (iz 0), .ref 22, .int (iz 0)]) (h' := cmH z zl (uf f 22 od) fl tx) rfl ?_
  refine Rx.ial (g := od) rfl rfl (by omega) (by omega) (by omega) ?_
  rw [show (od 0) = 0 from h0]
  refine Rx.eq2 rfl rfl ⟨by omega, by omega⟩ ⟨by omega, by omega⟩ (fun b6 => ?_) (fun b6 => by omega)
  refine Rx.walk 3 (pc' := 66) (L' := [some (.ref 0), some (.int (iz 3)), some (.int (iz 0)), some (.int (iz 0)), some (.int (iz 0)), some (.int (iz 0))]) (st' := [.int (iz 0), .int (iz 1), .int (iz 0)]) (h' := cmH z zl (uf f 22 od) fl tx) rfl ?_
  refine Rx.ishl (c := 1) rfl (by decide) ?_
  refine Rx.ior (c := 1) rfl (by decide) ?_
  refine Rx.walk 1 (pc' := 70) (L' := [some (.ref 0), some (.int (iz 3)), some (.int (iz 0)), some (.int (iz 0)), some (.int (iz 1)), some (.int (iz 0))]) (st' := []) (h' := cmH z zl (uf f 22 od) fl tx) rfl ?_
  refine Rx.iinc (b := 1) rfl rfl rfl ?_
  refine Rx.walk 0 (pc' := 73) (L' := [some (.ref 0), some (.int (iz 3)), some (.int (iz 0)), some (.int (iz 0)), some (.int (iz 1)), some (.int (iz 1))]) (st' := []) (h' := cmH z zl (uf f 22 od) fl tx) rfl ?_
  refine Rx.walk 3 (pc' := 13) (L' := [some (.ref 0), some (.int (iz 3)), some (.int (iz 0)), some (.int (iz 0)), some (.int (iz 1)), some (.int (iz 1))]) (st' := [.int (iz 3), .int (iz 1)]) (h' := cmH z zl (uf f 22 od) fl tx) rfl ?_
  refine Rx.ge2 rfl rfl ⟨by omega, by omega⟩ ⟨by omega, by omega⟩ (fun b7 => by omega) (fun b7 => ?_)
  refine Rx.walk 2 (pc' := 19) (L' := [some (.ref 0), some (.int (iz 3)), some (.int (iz 0)), some (.int (iz 0)), some (.int (iz 1)), some (.int (iz 1))]) (st' := [.int (iz 0), .int (iz 1)]) (h' := cmH z zl (uf f 22 od) fl tx) rfl ?_
  refine Rx.callx (m' := m_X12_has) (as := [.int (iz 1), .int (iz 0)]) (rest := []) rfl (n_has_1_0 _ (cmH z zl (uf f 22 od) fl tx)   ) (fun v8 h9 q10 => ?_)
  obtain ⟨rfl, rfl⟩ := q10
  refine Rx.walk 0 (pc' := 22) (L' := [some (.ref 0), some (.int (iz 3)), some (.int (iz 0)), some (.int (iz 0)), some (.int (iz 1)), some (.int (iz 1))]) (st' := [.int (iz 1)]) (h' := cmH z zl (uf f 22 od) fl tx) rfl ?_
  refine Rx.ne1 rfl rfl ⟨by omega, by omega⟩ (fun b11 => ?_) (fun b11 => by omega)
  refine Rx.walk 3 (pc' := 40) (L' := [some (.ref 0), some (.int (iz 3)), some (.int (iz 0)), some (.int (iz 0)), some (.int (iz 1)), some (.int (iz 1))]) (st' := [.int (iz 0), .int (iz 1), .int (iz 0)]) (h' := cmH z zl (uf f 22 od) fl tx) rfl ?_
  refine Rx.callx (m' := m_X12_has) (as := [.int (iz 1), .int (iz 0)]) (rest := [.int (iz 0)]) rfl (n_has_1_0 _ (cmH z zl (uf f 22 od) fl tx)   ) (fun v12 h13 q14 => ?_)
  obtain ⟨rfl, rfl⟩ := q14
  refine Rx.walk 0 (pc' := 43) (L' := [some (.ref 0), some (.int (iz 3)), some (.int (iz 0)), some (.int (iz 0)), some (.int (iz 1)), some (.int (iz 1))]) (st' := [.int (iz 1), .int (iz 0)]) (h' := cmH z zl (uf f 22 od) fl tx) rfl ?_
  refine Rx.eq1 rfl rfl ⟨by omega, by omega⟩ (fun b15 => by omega) (fun b15 => ?_)
  refine Rx.walk 2 (pc' := 51) (L' := [some (.ref 0), some (.int (iz 3)), some (.int (iz 0)), some (.int (iz 0)), some (.int (iz 1)), some (.int (iz 1))]) (st' := [.int (iz 0), .int (iz 0)]) (h' := cmH z zl (uf f 22 od) fl tx) rfl ?_
  refine Rx.iadd rfl ?_
  refine Rx.walk 0 (pc' := 52) (L' := [some (.ref 0), some (.int (iz 3)), some (.int (iz 0)), some (.int (iz 0)), some (.int (iz 1)), some (.int (iz 1))]) (st' := [.int (iz 0)]) (h' := cmH z zl (uf f 22 od) fl tx) rfl ?_
  refine Rx.walk 3 (pc' := 55) (L' := [some (.ref 0), some (.int (iz 3)), some (.int (iz 0)), some (.int (iz 0)), some (.int (iz 1)), some (.int (iz 1))]) (st' := [.int (iz 1), .int (iz 0)]) (h' := cmH z zl (uf f 22 od) fl tx) rfl ?_
  refine Rx.iadd rfl ?_
  refine Rx.walk 0 (pc' := 56) (L' := [some (.ref 0), some (.int (iz 3)), some (.int (iz 0)), some (.int (iz 0)), some (.int (iz 1)), some (.int (iz 1))]) (st' := [.int (iz 1)]) (h' := cmH z zl (uf f 22 od) fl tx) rfl ?_
  refine Rx.walk 1 (pc' := 57) (L' := [some (.ref 0), some (.int (iz 3)), some (.int (iz 0)), some (.int (iz 0)), some (.int (iz 1)), some (.int (iz 1))]) (st' := [.int (iz 3), .int (iz 1)]) (h' := cmH z zl (uf f 22 od) fl tx) rfl ?_
  refine Rx.irem rfl ⟨by omega, by omega⟩ ⟨by omega, by omega⟩ (by omega) (by omega) ?_
  refine Rx.walk 4 (pc' := 19) (L' := [some (.ref 0), some (.int (iz 3)), some (.int (iz 0)), some (.int (iz 1)), some (.int (iz 1)), some (.int (iz 1))]) (st' := [.int (iz 1), .int (iz 1)]) (h' := cmH z zl (uf f 22 od) fl tx) rfl ?_
  refine Rx.callx (m' := m_X12_has) (as := [.int (iz 1), .int (iz 1)]) (rest := []) rfl (n_has_1_1 _ (cmH z zl (uf f 22 od) fl tx)   ) (fun v16 h17 q18 => ?_)
  obtain ⟨rfl, rfl⟩ := q18
  refine Rx.walk 0 (pc' := 22) (L' := [some (.ref 0), some (.int (iz 3)), some (.int (iz 0)), some (.int (iz 1)), some (.int (iz 1)), some (.int (iz 1))]) (st' := [.int (iz 0)]) (h' := cmH z zl (uf f 22 od) fl tx) rfl ?_
  refine Rx.ne1 rfl rfl ⟨by omega, by omega⟩ (fun b19 => by omega) (fun b19 => ?_)
  refine Rx.walk 4 (pc' := 32) (L' := [some (.ref 0), some (.int (iz 3)), some (.int (iz 0)), some (.int (iz 1)), some (.int (iz 1)), some (.int (iz 1))]) (st' := [.int (iz 1), .ref 22, .int (iz 1)]) (h' := cmH z zl (uf f 22 od) fl tx) rfl ?_
  refine Rx.ial (g := od) rfl rfl (by omega) (by omega) (by omega) ?_
  rw [show (od 1) = 1 from h1]
  refine Rx.eq2 rfl rfl ⟨by omega, by omega⟩ ⟨by omega, by omega⟩ (fun b20 => ?_) (fun b20 => by omega)
  refine Rx.walk 3 (pc' := 66) (L' := [some (.ref 0), some (.int (iz 3)), some (.int (iz 0)), some (.int (iz 1)), some (.int (iz 1)), some (.int (iz 1))]) (st' := [.int (iz 1), .int (iz 1), .int (iz 1)]) (h' := cmH z zl (uf f 22 od) fl tx) rfl ?_
  refine Rx.ishl (c := 2) rfl (by decide) ?_
  refine Rx.ior (c := 3) rfl (by decide) ?_
  refine Rx.walk 1 (pc' := 70) (L' := [some (.ref 0), some (.int (iz 3)), some (.int (iz 0)), some (.int (iz 1)), some (.int (iz 3)), some (.int (iz 1))]) (st' := []) (h' := cmH z zl (uf f 22 od) fl tx) rfl ?_
  refine Rx.iinc (b := 1) rfl rfl rfl ?_
  refine Rx.walk 0 (pc' := 73) (L' := [some (.ref 0), some (.int (iz 3)), some (.int (iz 0)), some (.int (iz 1)), some (.int (iz 3)), some (.int (iz 2))]) (st' := []) (h' := cmH z zl (uf f 22 od) fl tx) rfl ?_
  refine Rx.walk 3 (pc' := 13) (L' := [some (.ref 0), some (.int (iz 3)), some (.int (iz 0)), some (.int (iz 1)), some (.int (iz 3)), some (.int (iz 2))]) (st' := [.int (iz 3), .int (iz 2)]) (h' := cmH z zl (uf f 22 od) fl tx) rfl ?_
  refine Rx.ge2 rfl rfl ⟨by omega, by omega⟩ ⟨by omega, by omega⟩ (fun b21 => by omega) (fun b21 => ?_)
  refine Rx.walk 2 (pc' := 19) (L' := [some (.ref 0), some (.int (iz 3)), some (.int (iz 0)), some (.int (iz 1)), some (.int (iz 3)), some (.int (iz 2))]) (st' := [.int (iz 1), .int (iz 3)]) (h' := cmH z zl (uf f 22 od) fl tx) rfl ?_
  refine Rx.callx (m' := m_X12_has) (as := [.int (iz 3), .int (iz 1)]) (rest := []) rfl (n_has_3_1 _ (cmH z zl (uf f 22 od) fl tx)   ) (fun v22 h23 q24 => ?_)
  obtain ⟨rfl, rfl⟩ := q24
  refine Rx.walk 0 (pc' := 22) (L' := [some (.ref 0), some (.int (iz 3)), some (.int (iz 0)), some (.int (iz 1)), some (.int (iz 3)), some (.int (iz 2))]) (st' := [.int (iz 1)]) (h' := cmH z zl (uf f 22 od) fl tx) rfl ?_
  refine Rx.ne1 rfl rfl ⟨by omega, by omega⟩ (fun b25 => ?_) (fun b25 => by omega)
  refine Rx.walk 3 (pc' := 40) (L' := [some (.ref 0), some (.int (iz 3)), some (.int (iz 0)), some (.int (iz 1)), some (.int (iz 3)), some (.int (iz 2))]) (st' := [.int (iz 1), .int (iz 3), .int (iz 0)]) (h' := cmH z zl (uf f 22 od) fl tx) rfl ?_
  refine Rx.callx (m' := m_X12_has) (as := [.int (iz 3), .int (iz 1)]) (rest := [.int (iz 0)]) rfl (n_has_3_1 _ (cmH z zl (uf f 22 od) fl tx)   ) (fun v26 h27 q28 => ?_)
  obtain ⟨rfl, rfl⟩ := q28
  refine Rx.walk 0 (pc' := 43) (L' := [some (.ref 0), some (.int (iz 3)), some (.int (iz 0)), some (.int (iz 1)), some (.int (iz 3)), some (.int (iz 2))]) (st' := [.int (iz 1), .int (iz 0)]) (h' := cmH z zl (uf f 22 od) fl tx) rfl ?_
  refine Rx.eq1 rfl rfl ⟨by omega, by omega⟩ (fun b29 => by omega) (fun b29 => ?_)
  refine Rx.walk 2 (pc' := 51) (L' := [some (.ref 0), some (.int (iz 3)), some (.int (iz 0)), some (.int (iz 1)), some (.int (iz 3)), some (.int (iz 2))]) (st' := [.int (iz 0), .int (iz 0)]) (h' := cmH z zl (uf f 22 od) fl tx) rfl ?_
  refine Rx.iadd rfl ?_
  refine Rx.walk 0 (pc' := 52) (L' := [some (.ref 0), some (.int (iz 3)), some (.int (iz 0)), some (.int (iz 1)), some (.int (iz 3)), some (.int (iz 2))]) (st' := [.int (iz 0)]) (h' := cmH z zl (uf f 22 od) fl tx) rfl ?_
  refine Rx.walk 3 (pc' := 55) (L' := [some (.ref 0), some (.int (iz 3)), some (.int (iz 0)), some (.int (iz 1)), some (.int (iz 3)), some (.int (iz 2))]) (st' := [.int (iz 1), .int (iz 1)]) (h' := cmH z zl (uf f 22 od) fl tx) rfl ?_
  refine Rx.iadd rfl ?_
  refine Rx.walk 0 (pc' := 56) (L' := [some (.ref 0), some (.int (iz 3)), some (.int (iz 0)), some (.int (iz 1)), some (.int (iz 3)), some (.int (iz 2))]) (st' := [.int (iz 2)]) (h' := cmH z zl (uf f 22 od) fl tx) rfl ?_
  refine Rx.walk 1 (pc' := 57) (L' := [some (.ref 0), some (.int (iz 3)), some (.int (iz 0)), some (.int (iz 1)), some (.int (iz 3)), some (.int (iz 2))]) (st' := [.int (iz 3), .int (iz 2)]) (h' := cmH z zl (uf f 22 od) fl tx) rfl ?_
  refine Rx.irem rfl ⟨by omega, by omega⟩ ⟨by omega, by omega⟩ (by omega) (by omega) ?_
  refine Rx.walk 4 (pc' := 19) (L' := [some (.ref 0), some (.int (iz 3)), some (.int (iz 0)), some (.int (iz 2)), some (.int (iz 3)), some (.int (iz 2))]) (st' := [.int (iz 2), .int (iz 3)]) (h' := cmH z zl (uf f 22 od) fl tx) rfl ?_
  refine Rx.callx (m' := m_X12_has) (as := [.int (iz 3), .int (iz 2)]) (rest := []) rfl (n_has_3_2 _ (cmH z zl (uf f 22 od) fl tx)   ) (fun v30 h31 q32 => ?_)
  obtain ⟨rfl, rfl⟩ := q32
  refine Rx.walk 0 (pc' := 22) (L' := [some (.ref 0), some (.int (iz 3)), some (.int (iz 0)), some (.int (iz 2)), some (.int (iz 3)), some (.int (iz 2))]) (st' := [.int (iz 0)]) (h' := cmH z zl (uf f 22 od) fl tx) rfl ?_
  refine Rx.ne1 rfl rfl ⟨by omega, by omega⟩ (fun b33 => by omega) (fun b33 => ?_)
  refine Rx.walk 4 (pc' := 32) (L' := [some (.ref 0), some (.int (iz 3)), some (.int (iz 0)), some (.int (iz 2)), some (.int (iz 3)), some (.int (iz 2))]) (st' := [.int (iz 2), .ref 22, .int (iz 2)]) (h' := cmH z zl (uf f 22 od) fl tx) rfl ?_
  refine Rx.ial (g := od) rfl rfl (by omega) (by omega) (by omega) ?_
  rw [show (od 2) = 2 from h2]
  refine Rx.eq2 rfl rfl ⟨by omega, by omega⟩ ⟨by omega, by omega⟩ (fun b34 => ?_) (fun b34 => by omega)
  refine Rx.walk 3 (pc' := 66) (L' := [some (.ref 0), some (.int (iz 3)), some (.int (iz 0)), some (.int (iz 2)), some (.int (iz 3)), some (.int (iz 2))]) (st' := [.int (iz 2), .int (iz 1), .int (iz 3)]) (h' := cmH z zl (uf f 22 od) fl tx) rfl ?_
  refine Rx.ishl (c := 4) rfl (by decide) ?_
  refine Rx.ior (c := 7) rfl (by decide) ?_
  refine Rx.walk 1 (pc' := 70) (L' := [some (.ref 0), some (.int (iz 3)), some (.int (iz 0)), some (.int (iz 2)), some (.int (iz 7)), some (.int (iz 2))]) (st' := []) (h' := cmH z zl (uf f 22 od) fl tx) rfl ?_
  refine Rx.iinc (b := 1) rfl rfl rfl ?_
  refine Rx.walk 0 (pc' := 73) (L' := [some (.ref 0), some (.int (iz 3)), some (.int (iz 0)), some (.int (iz 2)), some (.int (iz 7)), some (.int (iz 3))]) (st' := []) (h' := cmH z zl (uf f 22 od) fl tx) rfl ?_
  refine Rx.walk 3 (pc' := 13) (L' := [some (.ref 0), some (.int (iz 3)), some (.int (iz 0)), some (.int (iz 2)), some (.int (iz 7)), some (.int (iz 3))]) (st' := [.int (iz 3), .int (iz 3)]) (h' := cmH z zl (uf f 22 od) fl tx) rfl ?_
  refine Rx.ge2 rfl rfl ⟨by omega, by omega⟩ ⟨by omega, by omega⟩ (fun b35 => ?_) (fun b35 => by omega)
  refine Rx.walk 1 (pc' := 77) (L' := [some (.ref 0), some (.int (iz 3)), some (.int (iz 0)), some (.int (iz 2)), some (.int (iz 7)), some (.int (iz 3))]) (st' := [.int (iz 0)]) (h' := cmH z zl (uf f 22 od) fl tx) rfl ?_
  refine Rx.ret rfl ?_
  exact ⟨rfl, rfl⟩
set_option maxRecDepth 100000 in
set_option maxHeartbeats 4000000 in
theorem n_has_1_2 (d : Nat) (h0 : AmH)   : Rx (d) m_X12_has 0 (am_ent [.int (iz 1), .int (iz 2)] 2) [] (h0) (fun rv h => rv = some (.int (iz 0)) ∧ h0 = h) := ⟨_, _, ⟨100, rfl⟩, rfl, rfl⟩
set_option maxRecDepth 100000 in
set_option maxHeartbeats 4000000 in
theorem n_has_5_2 (d : Nat) (h0 : AmH)   : Rx (d) m_X12_has 0 (am_ent [.int (iz 5), .int (iz 2)] 2) [] (h0) (fun rv h => rv = some (.int (iz 1)) ∧ h0 = h) := ⟨_, _, ⟨100, rfl⟩, rfl, rfl⟩
set_option maxRecDepth 100000 in
set_option maxHeartbeats 4000000 in
theorem n_has_5_0 (d : Nat) (h0 : AmH)   : Rx (d) m_X12_has 0 (am_ent [.int (iz 5), .int (iz 0)] 2) [] (h0) (fun rv h => rv = some (.int (iz 1)) ∧ h0 = h) := ⟨_, _, ⟨100, rfl⟩, rfl, rfl⟩
set_option maxRecDepth 100000 in
set_option maxHeartbeats 4000000 in
theorem n_has_5_1 (d : Nat) (h0 : AmH)   : Rx (d) m_X12_has 0 (am_ent [.int (iz 5), .int (iz 1)] 2) [] (h0) (fun rv h => rv = some (.int (iz 0)) ∧ h0 = h) := ⟨_, _, ⟨100, rfl⟩, rfl, rfl⟩
set_option maxRecDepth 100000 in
set_option maxHeartbeats 4000000 in
theorem m_stepsOf3_1 (d : Nat) (z : Nat → Int) (zl : Nat → Int) (f : Nat → Int → Int) (fl : Nat → Int → Int) (tx : Nat)  (od : Int → Int) (h0 : od 0 = 0) (h1 : od 1 = 2) (h2 : od 2 = 1) : Rx (d + 1) m_X12_stepsOf 0 (am_ent [.ref 0, .int (iz 3)] 6) [] (cmH z zl (uf f 22 od) fl tx) (fun rv h => rv = some (.int (iz 1)) ∧ h = cmH z zl (uf f 22 od) fl tx) := by
  refine Rx.walk 0 (pc' := 0) (L' := [some (.ref 0), some (.int (iz 3)), none, none, none, none]) (st' := []) (h' := cmH z zl (uf f 22 od) fl tx) rfl ?_
  refine Rx.walk 10 (pc' := 13) (L' := [some (.ref 0), some (.int (iz 3)), some (.int (iz 0)), some (.int (iz 0)), some (.int (iz 0)), some (.int (iz 0))]) (st' := [.int (iz 3), .int (iz 0)]) (h' := cmH z zl (uf f 22 od) fl tx) rfl ?_
  refine Rx.ge2 rfl rfl ⟨by omega, by omega⟩ ⟨by omega, by omega⟩ (fun b1 => by omega) (fun b1 => ?_)
  refine Rx.walk 2 (pc' := 19) (L' := [some (.ref 0), some (.int (iz 3)), some (.int (iz 0)), some (.int (iz 0)), some (.int (iz 0)), some (.int (iz 0))]) (st' := [.int (iz 0), .int (iz 0)]) (h' := cmH z zl (uf f 22 od) fl tx) rfl ?_
  refine Rx.callx (m' := m_X12_has) (as := [.int (iz 0), .int (iz 0)]) (rest := []) rfl (n_has_0_0 _ (cmH z zl (uf f 22 od) fl tx)   ) (fun v2 h3 q4 => ?_)
  obtain ⟨rfl, rfl⟩ := q4
  refine Rx.walk 0 (pc' := 22) (L' := [some (.ref 0), some (.int (iz 3)), some (.int (iz 0)), some (.int (iz 0)), some (.int (iz 0)), some (.int (iz 0))]) (st' := [.int (iz 0)]) (h' := cmH z zl (uf f 22 od) fl tx) rfl ?_
  refine Rx.ne1 rfl rfl ⟨by omega, by omega⟩ (fun b5 => by omega) (fun b5 => ?_)
  refine Rx.walk 4 (pc' := 32) (L' := [some (.ref 0), some (.int (iz 3)), some (.int (iz 0)), some (.int (iz 0)), some (.int (iz 0)), some (.int (iz 0))]) (st' := [.int (iz 0), .ref 22, .int (iz 0)]) (h' := cmH z zl (uf f 22 od) fl tx) rfl ?_
  refine Rx.ial (g := od) rfl rfl (by omega) (by omega) (by omega) ?_
  rw [show (od 0) = 0 from h0]
  refine Rx.eq2 rfl rfl ⟨by omega, by omega⟩ ⟨by omega, by omega⟩ (fun b6 => ?_) (fun b6 => by omega)
  refine Rx.walk 3 (pc' := 66) (L' := [some (.ref 0), some (.int (iz 3)), some (.int (iz 0)), some (.int (iz 0)), some (.int (iz 0)), some (.int (iz 0))]) (st' := [.int (iz 0), .int (iz 1), .int (iz 0)]) (h' := cmH z zl (uf f 22 od) fl tx) rfl ?_
  refine Rx.ishl (c := 1) rfl (by decide) ?_
  refine Rx.ior (c := 1) rfl (by decide) ?_
  refine Rx.walk 1 (pc' := 70) (L' := [some (.ref 0), some (.int (iz 3)), some (.int (iz 0)), some (.int (iz 0)), some (.int (iz 1)), some (.int (iz 0))]) (st' := []) (h' := cmH z zl (uf f 22 od) fl tx) rfl ?_
  refine Rx.iinc (b := 1) rfl rfl rfl ?_
  refine Rx.walk 0 (pc' := 73) (L' := [some (.ref 0), some (.int (iz 3)), some (.int (iz 0)), some (.int (iz 0)), some (.int (iz 1)), some (.int (iz 1))]) (st' := []) (h' := cmH z zl (uf f 22 od) fl tx) rfl ?_
  refine Rx.walk 3 (pc' := 13) (L' := [some (.ref 0), some (.int (iz 3)), some (.int (iz 0)), some (.int (iz 0)), some (.int (iz 1)), some (.int (iz 1))]) (st' := [.int (iz 3), .int (iz 1)]) (h' := cmH z zl (uf f 22 od) fl tx) rfl ?_
  refine Rx.ge2 rfl rfl ⟨by omega, by omega⟩ ⟨by omega, by omega⟩ (fun b7 => by omega) (fun b7 => ?_)
  refine Rx.walk 2 (pc' := 19) (L' := [some (.ref 0), some (.int (iz 3)), some (.int (iz 0)), some (.int (iz 0)), some (.int (iz 1)), some (.int (iz 1))]) (st' := [.int (iz 0), .int (iz 1)]) (h' := cmH z zl (uf f 22 od) fl tx) rfl ?_
  refine Rx.callx (m' := m_X12_has) (as := [.int (iz 1), .int (iz 0)]) (rest := []) rfl (n_has_1_0 _ (cmH z zl (uf f 22 od) fl tx)   ) (fun v8 h9 q10 => ?_)
  obtain ⟨rfl, rfl⟩ := q10
  refine Rx.walk 0 (pc' := 22) (L' := [some (.ref 0), some (.int (iz 3)), some (.int (iz 0)), some (.int (iz 0)), some (.int (iz 1)), some (.int (iz 1))]) (st' := [.int (iz 1)]) (h' := cmH z zl (uf f 22 od) fl tx) rfl ?_
  refine Rx.ne1 rfl rfl ⟨by omega, by omega⟩ (fun b11 => ?_) (fun b11 => by omega)
  refine Rx.walk 3 (pc' := 40) (L' := [some (.ref 0), some (.int (iz 3)), some (.int (iz 0)), some (.int (iz 0)), some (.int (iz 1)), some (.int (iz 1))]) (st' := [.int (iz 0), .int (iz 1), .int (iz 0)]) (h' := cmH z zl (uf f 22 od) fl tx) rfl ?_
  refine Rx.callx (m' := m_X12_has) (as := [.int (iz 1), .int (iz 0)]) (rest := [.int (iz 0)]) rfl (n_has_1_0 _ (cmH z zl (uf f 22 od) fl tx)   ) (fun v12 h13 q14 => ?_)
  obtain ⟨rfl, rfl⟩ := q14
  refine Rx.walk 0 (pc' := 43) (L' := [some (.ref 0), some (.int (iz 3)), some (.int (iz 0)), some (.int (iz 0)), some (.int (iz 1)), some (.int (iz 1))]) (st' := [.int (iz 1), .int (iz 0)]) (h' := cmH z zl (uf f 22 od) fl tx) rfl ?_
  refine Rx.eq1 rfl rfl ⟨by omega, by omega⟩ (fun b15 => by omega) (fun b15 => ?_)
  refine Rx.walk 2 (pc' := 51) (L' := [some (.ref 0), some (.int (iz 3)), some (.int (iz 0)), some (.int (iz 0)), some (.int (iz 1)), some (.int (iz 1))]) (st' := [.int (iz 0), .int (iz 0)]) (h' := cmH z zl (uf f 22 od) fl tx) rfl ?_
  refine Rx.iadd rfl ?_
  refine Rx.walk 0 (pc' := 52) (L' := [some (.ref 0), some (.int (iz 3)), some (.int (iz 0)), some (.int (iz 0)), some (.int (iz 1)), some (.int (iz 1))]) (st' := [.int (iz 0)]) (h' := cmH z zl (uf f 22 od) fl tx) rfl ?_
  refine Rx.walk 3 (pc' := 55) (L' := [some (.ref 0), some (.int (iz 3)), some (.int (iz 0)), some (.int (iz 0)), some (.int (iz 1)), some (.int (iz 1))]) (st' := [.int (iz 1), .int (iz 0)]) (h' := cmH z zl (uf f 22 od) fl tx) rfl ?_
  refine Rx.iadd rfl ?_
  refine Rx.walk 0 (pc' := 56) (L' := [some (.ref 0), some (.int (iz 3)), some (.int (iz 0)), some (.int (iz 0)), some (.int (iz 1)), some (.int (iz 1))]) (st' := [.int (iz 1)]) (h' := cmH z zl (uf f 22 od) fl tx) rfl ?_
  refine Rx.walk 1 (pc' := 57) (L' := [some (.ref 0), some (.int (iz 3)), some (.int (iz 0)), some (.int (iz 0)), some (.int (iz 1)), some (.int (iz 1))]) (st' := [.int (iz 3), .int (iz 1)]) (h' := cmH z zl (uf f 22 od) fl tx) rfl ?_
  refine Rx.irem rfl ⟨by omega, by omega⟩ ⟨by omega, by omega⟩ (by omega) (by omega) ?_
  refine Rx.walk 4 (pc' := 19) (L' := [some (.ref 0), some (.int (iz 3)), some (.int (iz 0)), some (.int (iz 1)), some (.int (iz 1)), some (.int (iz 1))]) (st' := [.int (iz 1), .int (iz 1)]) (h' := cmH z zl (uf f 22 od) fl tx) rfl ?_
  refine Rx.callx (m' := m_X12_has) (as := [.int (iz 1), .int (iz 1)]) (rest := []) rfl (n_has_1_1 _ (cmH z zl (uf f 22 od) fl tx)   ) (fun v16 h17 q18 => ?_)
  obtain ⟨rfl, rfl⟩ := q18
  refine Rx.walk 0 (pc' := 22) (L' := [some (.ref 0), some (.int (iz 3)), some (.int (iz 0)), some (.int (iz 1)), some (.int (iz 1)), some (.int (iz 1))]) (st' := [.int (iz 0)]) (h' := cmH z zl (uf f 22 od) fl tx) rfl ?_
  refine Rx.ne1 rfl rfl ⟨by omega, by omega⟩ (fun b19 => by omega) (fun b19 => ?_)
  refine Rx.walk 4 (pc' := 32) (L' := [some (.ref 0), some (.int (iz 3)), some (.int (iz 0)), some (.int (iz 1)), some (.int (iz 1)), some (.int (iz 1))]) (st' := [.int (iz 1), .ref 22, .int (iz 1)]) (h' := cmH z zl (uf f 22 od) fl tx) rfl ?_
  refine Rx.ial (g := od) rfl rfl (by omega) (by omega) (by omega) ?_
  rw [show (od 1) = 2 from h1]
  refine Rx.eq2 rfl rfl ⟨by omega, by omega⟩ ⟨by omega, by omega⟩ (fun b20 => by omega) (fun b20 => ?_)
  refine Rx.walk 3 (pc' := 40) (L' := [some (.ref 0), some (.int (iz 3)), some (.int (iz 0)), some (.int (iz 1)), some (.int (iz 1)), some (.int (iz 1))]) (st' := [.int (iz 1), .int (iz 1), .int (iz 0)]) (h' := cmH z zl (uf f 22 od) fl tx) rfl ?_
  refine Rx.callx (m' := m_X12_has) (as := [.int (iz 1), .int (iz 1)]) (rest := [.int (iz 0)]) rfl (n_has_1_1 _ (cmH z zl (uf f 22 od) fl tx)   ) (fun v21 h22 q23 => ?_)
  obtain ⟨rfl, rfl⟩ := q23
  refine Rx.walk 0 (pc' := 43) (L' := [some (.ref 0), some (.int (iz 3)), some (.int (iz 0)), some (.int (iz 1)), some (.int (iz 1)), some (.int (iz 1))]) (st' := [.int (iz 0), .int (iz 0)]) (h' := cmH z zl (uf f 22 od) fl tx) rfl ?_
  refine Rx.eq1 rfl rfl ⟨by omega, by omega⟩ (fun b24 => ?_) (fun b24 => by omega)
  refine Rx.walk 1 (pc' := 51) (L' := [some (.ref 0), some (.int (iz 3)), some (.int (iz 0)), some (.int (iz 1)), some (.int (iz 1)), some (.int (iz 1))]) (st' := [.int (iz 1), .int (iz 0)]) (h' := cmH z zl (uf f 22 od) fl tx) rfl ?_
  refine Rx.iadd rfl ?_
  refine Rx.walk 0 (pc' := 52) (L' := [some (.ref 0), some (.int (iz 3)), some (.int (iz 0)), some (.int (iz 1)), some (.int (iz 1)), some (.int (iz 1))]) (st' := [.int (iz 1)]) (h' := cmH z zl (uf f 22 od) fl tx) rfl ?_
  refine Rx.walk 3 (pc' := 55) (L' := [some (.ref 0), some (.int (iz 3)), some (.int (iz 1)), some (.int (iz 1)), some (.int (iz 1)), some (.int (iz 1))]) (st' := [.int (iz 1), .int (iz 1)]) (h' := cmH z zl (uf f 22 od) fl tx) rfl ?_
  refine Rx.iadd rfl ?_
  refine Rx.walk 0 (pc' := 56) (L' := [some (.ref 0), some (.int (iz 3)), some (.int (iz 1)), some (.int (iz 1)), some (.int (iz 1)), some (.int (iz 1))]) (st' := [.int (iz 2)]) (h' := cmH z zl (uf f 22 od) fl tx) rfl ?_
  refine Rx.walk 1 (pc' := 57) (L' := [some (.ref 0), some (.int (iz 3)), some (.int (iz 1)), some (.int (iz 1)), some (.int (iz 1)), some (.int (iz 1))]) (st' := [.int (iz 3), .int (iz 2)]) (h' := cmH z zl (uf f 22 od) fl tx) rfl ?_
  refine Rx.irem rfl ⟨by omega, by omega⟩ ⟨by omega, by omega⟩ (by omega) (by omega) ?_
  refine Rx.walk 4 (pc' := 19) (L' := [some (.ref 0), some (.int (iz 3)), some (.int (iz 1)), some (.int (iz 2)), some (.int (iz 1)), some (.int (iz 1))]) (st' := [.int (iz 2), .int (iz 1)]) (h' := cmH z zl (uf f 22 od) fl tx) rfl ?_
  refine Rx.callx (m' := m_X12_has) (as := [.int (iz 1), .int (iz 2)]) (rest := []) rfl (n_has_1_2 _ (cmH z zl (uf f 22 od) fl tx)   ) (fun v25 h26 q27 => ?_)
  obtain ⟨rfl, rfl⟩ := q27
  refine Rx.walk 0 (pc' := 22) (L' := [some (.ref 0), some (.int (iz 3)), some (.int (iz 1)), some (.int (iz 2)), some (.int (iz 1)), some (.int (iz 1))]) (st' := [.int (iz 0)]) (h' := cmH z zl (uf f 22 od) fl tx) rfl ?_
  refine Rx.ne1 rfl rfl ⟨by omega, by omega⟩ (fun b28 => by omega) (fun b28 => ?_)
  refine Rx.walk 4 (pc' := 32) (L' := [some (.ref 0), some (.int (iz 3)), some (.int (iz 1)), some (.int (iz 2)), some (.int (iz 1)), some (.int (iz 1))]) (st' := [.int (iz 1), .ref 22, .int (iz 2)]) (h' := cmH z zl (uf f 22 od) fl tx) rfl ?_
  refine Rx.ial (g := od) rfl rfl (by omega) (by omega) (by omega) ?_
  rw [show (od 1) = 2 from h1]
  refine Rx.eq2 rfl rfl ⟨by omega, by omega⟩ ⟨by omega, by omega⟩ (fun b29 => ?_) (fun b29 => by omega)
  refine Rx.walk 3 (pc' := 66) (L' := [some (.ref 0), some (.int (iz 3)), some (.int (iz 1)), some (.int (iz 2)), some (.int (iz 1)), some (.int (iz 1))]) (st' := [.int (iz 2), .int (iz 1), .int (iz 1)]) (h' := cmH z zl (uf f 22 od) fl tx) rfl ?_
  refine Rx.ishl (c := 4) rfl (by decide) ?_
  refine Rx.ior (c := 5) rfl (by decide) ?_
  refine Rx.walk 1 (pc' := 70) (L' := [some (.ref 0), some (.int (iz 3)), some (.int (iz 1)), some (.int (iz 2)), some (.int (iz 5)), some (.int (iz 1))]) (st' := []) (h' := cmH z zl (uf f 22 od) fl tx) rfl ?_
  refine Rx.iinc (b := 1) rfl rfl rfl ?_
  refine Rx.walk 0 (pc' := 73) (L' := [some (.ref 0), some (.int (iz 3)), some (.int (iz 1)), some (.int (iz 2)), some (.int (iz 5)), some (.int (iz 2))]) (st' := []) (h' := cmH z zl (uf f 22 od) fl tx) rfl ?_
  refine Rx.walk 3 (pc' := 13) (L' := [some (.ref 0), some (.int (iz 3)), some (.int (iz 1)), some (.int (iz 2)), some (.int (iz 5)), some (.int (iz 2))]) (st' := [.int (iz 3), .int (iz 2)]) (h' := cmH z zl (uf f 22 od) fl tx) rfl ?_
  refine Rx.ge2 rfl rfl ⟨by omega, by omega⟩ ⟨by omega, by omega⟩ (fun b30 => by omega) (fun b30 => ?_)
  refine Rx.walk 2 (pc' := 19) (L' := [some (.ref 0), some (.int (iz 3)), some (.int (iz 1)), some (.int (iz 2)), some (.int (iz 5)), some (.int (iz 2))]) (st' := [.int (iz 2), .int (iz 5)]) (h' := cmH z zl (uf f 22 od) fl tx) rfl ?_
  refine Rx.callx (m' := m_X12_has) (as := [.int (iz 5), .int (iz 2)]) (rest := []) rfl (n_has_5_2 _ (cmH z zl (uf f 22 od) fl tx)   ) (fun v31 h32 q33 => ?_)
  obtain ⟨rfl, rfl⟩ := q33
  refine Rx.walk 0 (pc' := 22) (L' := [some (.ref 0), some (.int (iz 3)), some (.int (iz 1)), some (.int (iz 2)), some (.int (iz 5)), some (.int (iz 2))]) (st' := [.int (iz 1)]) (h' := cmH z zl (uf f 22 od) fl tx) rfl ?_
  refine Rx.ne1 rfl rfl ⟨by omega, by omega⟩ (fun b34 => ?_) (fun b34 => by omega)
  refine Rx.walk 3 (pc' := 40) (L' := [some (.ref 0), some (.int (iz 3)), some (.int (iz 1)), some (.int (iz 2)), some (.int (iz 5)), some (.int (iz 2))]) (st' := [.int (iz 2), .int (iz 5), .int (iz 1)]) (h' := cmH z zl (uf f 22 od) fl tx) rfl ?_
  refine Rx.callx (m' := m_X12_has) (as := [.int (iz 5), .int (iz 2)]) (rest := [.int (iz 1)]) rfl (n_has_5_2 _ (cmH z zl (uf f 22 od) fl tx)   ) (fun v35 h36 q37 => ?_)
  obtain ⟨rfl, rfl⟩ := q37
  refine Rx.walk 0 (pc' := 43) (L' := [some (.ref 0), some (.int (iz 3)), some (.int (iz 1)), some (.int (iz 2)), some (.int (iz 5)), some (.int (iz 2))]) (st' := [.int (iz 1), .int (iz 1)]) (h' := cmH z zl (uf f 22 od) fl tx) rfl ?_
  refine Rx.eq1 rfl rfl ⟨by omega, by omega⟩ (fun b38 => by omega) (fun b38 => ?_)
  refine Rx.walk 2 (pc' := 51) (L' := [some (.ref 0), some (.int (iz 3)), some (.int (iz 1)), some (.int (iz 2)), some (.int (iz 5)), some (.int (iz 2))]) (st' := [.int (iz 0), .int (iz 1)]) (h' := cmH z zl (uf f 22 od) fl tx) rfl ?_
  refine Rx.iadd rfl ?_
  refine Rx.walk 0 (pc' := 52) (L' := [some (.ref 0), some (.int (iz 3)), some (.int (iz 1)), some (.int (iz 2)), some (.int (iz 5)), some (.int (iz 2))]) (st' := [.int (iz 1)]) (h' := cmH z zl (uf f 22 od) fl tx) rfl ?_
  refine Rx.walk 3 (pc' := 55) (L' := [some (.ref 0), some (.int (iz 3)), some (.int (iz 1)), some (.int (iz 2)), some (.int (iz 5)), some (.int (iz 2))]) (st' := [.int (iz 1), .int (iz 2)]) (h' := cmH z zl (uf f 22 od) fl tx) rfl ?_
  refine Rx.iadd rfl ?_
  refine Rx.walk 0 (pc' := 56) (L' := [some (.ref 0), some (.int (iz 3)), some (.int (iz 1)), some (.int (iz 2)), some (.int (iz 5)), some (.int (iz 2))]) (st' := [.int (iz 3)]) (h' := cmH z zl (uf f 22 od) fl tx) rfl ?_
  refine Rx.walk 1 (pc' := 57) (L' := [some (.ref 0), some (.int (iz 3)), some (.int (iz 1)), some (.int (iz 2)), some (.int (iz 5)), some (.int (iz 2))]) (st' := [.int (iz 3), .int (iz 3)]) (h' := cmH z zl (uf f 22 od) fl tx) rfl ?_
  refine Rx.irem rfl ⟨by omega, by omega⟩ ⟨by omega, by omega⟩ (by omega) (by omega) ?_
  refine Rx.walk 4 (pc' := 19) (L' := [some (.ref 0), some (.int (iz 3)), some (.int (iz 1)), some (.int (iz 0)), some (.int (iz 5)), some (.int (iz 2))]) (st' := [.int (iz 0), .int (iz 5)]) (h' := cmH z zl (uf f 22 od) fl tx) rfl ?_
  refine Rx.callx (m' := m_X12_has) (as := [.int (iz 5), .int (iz 0)]) (rest := []) rfl (n_has_5_0 _ (cmH z zl (uf f 22 od) fl tx)   ) (fun v39 h40 q41 => ?_)
  obtain ⟨rfl, rfl⟩ := q41
  refine Rx.walk 0 (pc' := 22) (L' := [some (.ref 0), some (.int (iz 3)), some (.int (iz 1)), some (.int (iz 0)), some (.int (iz 5)), some (.int (iz 2))]) (st' := [.int (iz 1)]) (h' := cmH z zl (uf f 22 od) fl tx) rfl ?_
  refine Rx.ne1 rfl rfl ⟨by omega, by omega⟩ (fun b42 => ?_) (fun b42 => by omega)
  refine Rx.walk 3 (pc' := 40) (L' := [some (.ref 0), some (.int (iz 3)), some (.int (iz 1)), some (.int (iz 0)), some (.int (iz 5)), some (.int (iz 2))]) (st' := [.int (iz 0), .int (iz 5), .int (iz 1)]) (h' := cmH z zl (uf f 22 od) fl tx) rfl ?_
  refine Rx.callx (m' := m_X12_has) (as := [.int (iz 5), .int (iz 0)]) (rest := [.int (iz 1)]) rfl (n_has_5_0 _ (cmH z zl (uf f 22 od) fl tx)   ) (fun v43 h44 q45 => ?_)
  obtain ⟨rfl, rfl⟩ := q45
  refine Rx.walk 0 (pc' := 43) (L' := [some (.ref 0), some (.int (iz 3)), some (.int (iz 1)), some (.int (iz 0)), some (.int (iz 5)), some (.int (iz 2))]) (st' := [.int (iz 1), .int (iz 1)]) (h' := cmH z zl (uf f 22 od) fl tx) rfl ?_
  refine Rx.eq1 rfl rfl ⟨by omega, by omega⟩ (fun b46 => by omega) (fun b46 => ?_)
  refine Rx.walk 2 (pc' := 51) (L' := [some (.ref 0), some (.int (iz 3)), some (.int (iz 1)), some (.int (iz 0)), some (.int (iz 5)), some (.int (iz 2))]) (st' := [.int (iz 0), .int (iz 1)]) (h' := cmH z zl (uf f 22 od) fl tx) rfl ?_
  refine Rx.iadd rfl ?_
  refine Rx.walk 0 (pc' := 52) (L' := [some (.ref 0), some (.int (iz 3)), some (.int (iz 1)), some (.int (iz 0)), some (.int (iz 5)), some (.int (iz 2))]) (st' := [.int (iz 1)]) (h' := cmH z zl (uf f 22 od) fl tx) rfl ?_
  refine Rx.walk 3 (pc' := 55) (L' := [some (.ref 0), some (.int (iz 3)), some (.int (iz 1)), some (.int (iz 0)), some (.int (iz 5)), some (.int (iz 2))]) (st' := [.int (iz 1), .int (iz 0)]) (h' := cmH z zl (uf f 22 od) fl tx) rfl ?_
  refine Rx.iadd rfl ?_
  refine Rx.walk 0 (pc' := 56) (L' := [some (.ref 0), some (.int (iz 3)), some (.int (iz 1)), some (.int (iz 0)), some (.int (iz 5)), some (.int (iz 2))]) (st' := [.int (iz 1)]) (h' := cmH z zl (uf f 22 od) fl tx) rfl ?_
  refine Rx.walk 1 (pc' := 57) (L' := [some (.ref 0), some (.int (iz 3)), some (.int (iz 1)), some (.int (iz 0)), some (.int (iz 5)), some (.int (iz 2))]) (st' := [.int (iz 3), .int (iz 1)]) (h' := cmH z zl (uf f 22 od) fl tx) rfl ?_
  refine Rx.irem rfl ⟨by omega, by omega⟩ ⟨by omega, by omega⟩ (by omega) (by omega) ?_
  refine Rx.walk 4 (pc' := 19) (L' := [some (.ref 0), some (.int (iz 3)), some (.int (iz 1)), some (.int (iz 1)), some (.int (iz 5)), some (.int (iz 2))]) (st' := [.int (iz 1), .int (iz 5)]) (h' := cmH z zl (uf f 22 od) fl tx) rfl ?_
  refine Rx.callx (m' := m_X12_has) (as := [.int (iz 5), .int (iz 1)]) (rest := []) rfl (n_has_5_1 _ (cmH z zl (uf f 22 od) fl tx)   ) (fun v47 h48 q49 => ?_)
  obtain ⟨rfl, rfl⟩ := q49
  refine Rx.walk 0 (pc' := 22) (L' := [some (.ref 0), some (.int (iz 3)), some (.int (iz 1)), some (.int (iz 1)), some (.int (iz 5)), some (.int (iz 2))]) (st' := [.int (iz 0)]) (h' := cmH z zl (uf f 22 od) fl tx) rfl ?_
  refine Rx.ne1 rfl rfl ⟨by omega, by omega⟩ (fun b50 => by omega) (fun b50 => ?_)
  refine Rx.walk 4 (pc' := 32) (L' := [some (.ref 0), some (.int (iz 3)), some (.int (iz 1)), some (.int (iz 1)), some (.int (iz 5)), some (.int (iz 2))]) (st' := [.int (iz 2), .ref 22, .int (iz 1)]) (h' := cmH z zl (uf f 22 od) fl tx) rfl ?_
  refine Rx.ial (g := od) rfl rfl (by omega) (by omega) (by omega) ?_
  rw [show (od 2) = 1 from h2]
  refine Rx.eq2 rfl rfl ⟨by omega, by omega⟩ ⟨by omega, by omega⟩ (fun b51 => ?_) (fun b51 => by omega)
  refine Rx.walk 3 (pc' := 66) (L' := [some (.ref 0), some (.int (iz 3)), some (.int (iz 1)), some (.int (iz 1)), some (.int (iz 5)), some (.int (iz 2))]) (st' := [.int (iz 1), .int (iz 1), .int (iz 5)]) (h' := cmH z zl (uf f 22 od) fl tx) rfl ?_
  refine Rx.ishl (c := 2) rfl (by decide) ?_
  refine Rx.ior (c := 7) rfl (by decide) ?_
  refine Rx.walk 1 (pc' := 70) (L' := [some (.ref 0), some (.int (iz 3)), some (.int (iz 1)), some (.int (iz 1)), some (.int (iz 7)), some (.int (iz 2))]) (st' := []) (h' := cmH z zl (uf f 22 od) fl tx) rfl ?_
  refine Rx.iinc (b := 1) rfl rfl rfl ?_
  refine Rx.walk 0 (pc' := 73) (L' := [some (.ref 0), some (.int (iz 3)), some (.int (iz 1)), some (.int (iz 1)), some (.int (iz 7)), some (.int (iz 3))]) (st' := []) (h' := cmH z zl (uf f 22 od) fl tx) rfl ?_
  refine Rx.walk 3 (pc' := 13) (L' := [some (.ref 0), some (.int (iz 3)), some (.int (iz 1)), some (.int (iz 1)), some (.int (iz 7)), some (.int (iz 3))]) (st' := [.int (iz 3), .int (iz 3)]) (h' := cmH z zl (uf f 22 od) fl tx) rfl ?_
  refine Rx.ge2 rfl rfl ⟨by omega, by omega⟩ ⟨by omega, by omega⟩ (fun b52 => ?_) (fun b52 => by omega)
  refine Rx.walk 1 (pc' := 77) (L' := [some (.ref 0), some (.int (iz 3)), some (.int (iz 1)), some (.int (iz 1)), some (.int (iz 7)), some (.int (iz 3))]) (st' := [.int (iz 1)]) (h' := cmH z zl (uf f 22 od) fl tx) rfl ?_
  refine Rx.ret rfl ?_
  exact ⟨rfl, rfl⟩
set_option maxRecDepth 100000 in
set_option maxHeartbeats 4000000 in
theorem n_has_2_2 (d : Nat) (h0 : AmH)   : Rx (d) m_X12_has 0 (am_ent [.int (iz 2), .int (iz 2)] 2) [] (h0) (fun rv h => rv = some (.int (iz 0)) ∧ h0 = h) := ⟨_, _, ⟨100, rfl⟩, rfl, rfl⟩
set_option maxRecDepth 100000 in
set_option maxHeartbeats 4000000 in
theorem n_has_3_0 (d : Nat) (h0 : AmH)   : Rx (d) m_X12_has 0 (am_ent [.int (iz 3), .int (iz 0)] 2) [] (h0) (fun rv h => rv = some (.int (iz 1)) ∧ h0 = h) := ⟨_, _, ⟨100, rfl⟩, rfl, rfl⟩
set_option maxRecDepth 100000 in
set_option maxHeartbeats 4000000 in
theorem m_stepsOf3_2 (d : Nat) (z : Nat → Int) (zl : Nat → Int) (f : Nat → Int → Int) (fl : Nat → Int → Int) (tx : Nat)  (od : Int → Int) (h0 : od 0 = 1) (h1 : od 1 = 0) (h2 : od 2 = 2) : Rx (d + 1) m_X12_stepsOf 0 (am_ent [.ref 0, .int (iz 3)] 6) [] (cmH z zl (uf f 22 od) fl tx) (fun rv h => rv = some (.int (iz 2)) ∧ h = cmH z zl (uf f 22 od) fl tx) := by
  refine Rx.walk 0 (pc' := 0) (L' := [some (.ref 0), some (.int (iz 3)), none, none, none, none]) (st' := []) (h' := cmH z zl (uf f 22 od) fl tx) rfl ?_
  refine Rx.walk 10 (pc' := 13) (L' := [some (.ref 0), some (.int (iz 3)), some (.int (iz 0)), some (.int (iz 0)), some (.int (iz 0)), some (.int (iz 0))]) (st' := [.int (iz 3), .int (iz 0)]) (h' := cmH z zl (uf f 22 od) fl tx) rfl ?_
  refine Rx.ge2 rfl rfl ⟨by omega, by omega⟩ ⟨by omega, by omega⟩ (fun b1 => by omega) (fun b1 => ?_)
  refine Rx.walk 2 (pc' := 19) (L' := [some (.ref 0), some (.int (iz 3)), some (.int (iz 0)), some (.int (iz 0)), some (.int (iz 0)), some (.int (iz 0))]) (st' := [.int (iz 0), .int (iz 0)]) (h' := cmH z zl (uf f 22 od) fl tx) rfl ?_
  refine Rx.callx (m' := m_X12_has) (as := [.int (iz 0), .int (iz 0)]) (rest := []) rfl (n_has_0_0 _ (cmH z zl (uf f 22 od) fl tx)   ) (fun v2 h3 q4 => ?_)
  obtain ⟨rfl, rfl⟩ := q4
  refine Rx.walk 0 (pc' := 22) (L' := [some (.ref 0), some (.int (iz 3)), some (.int (iz 0)), some (.int (iz 0)), some (.int (iz 0)), some (.int (iz 0))]) (st' := [.int (iz 0)]) (h' := cmH z zl (uf f 22 od) fl tx) rfl ?_
  refine Rx.ne1 rfl rfl ⟨by omega, by omega⟩ (fun b5 => by omega) (fun b5 => ?_)
  refine Rx.walk 4 (pc' := 32) (L' := [some (.ref 0), some (.int (iz 3)), some (.int (iz 0)), some (.int (iz 0)), some (.int (iz 0)), some (.int (iz 0))]) (st' := [.int (iz 0), .ref 22, .int (iz 0)]) (h' := cmH z zl (uf f 22 od) fl tx) rfl ?_
  refine Rx.ial (g := od) rfl rfl (by omega) (by omega) (by omega) ?_
  rw [show (od 0) = 1 from h0]
  refine Rx.eq2 rfl rfl ⟨by omega, by omega⟩ ⟨by omega, by omega⟩ (fun b6 => by omega) (fun b6 => ?_)
  refine Rx.walk 3 (pc' := 40) (L' := [some (.ref 0), some (.int (iz 3)), some (.int (iz 0)), some (.int (iz 0)), some (.int (iz 0)), some (.int (iz 0))]) (st' := [.int (iz 0), .int (iz 0), .int (iz 0)]) (h' := cmH z zl (uf f 22 od) fl tx) rfl ?_
  refine Rx.callx (m' := m_X12_has) (as := [.int (iz 0), .int (iz 0)]) (rest := [.int (iz 0)]) rfl (n_has_0_0 _ (cmH z zl (uf f 22 od) fl tx)   ) (fun v7 h8 q9 => ?_)
  obtain ⟨rfl, rfl⟩ := q9
  refine Rx.walk 0 (pc' := 43) (L' := [some (.ref 0), some (.int (iz 3)), some (.int (iz 0)), some (.int (iz 0)), some (.int (iz 0)), some (.int (iz 0))]) (st' := [.int (iz 0), .int (iz 0)]) (h' := cmH z zl (uf f 22 od) fl tx) rfl ?_
  refine Rx.eq1 rfl rfl ⟨by omega, by omega⟩ (fun b10 => ?_) (fun b10 => by omega)
  refine Rx.walk 1 (pc' := 51) (L' := [some (.ref 0), some (.int (iz 3)), some (.int (iz 0)), some (.int (iz 0)), some (.int (iz 0)), some (.int (iz 0))]) (st' := [.int (iz 1), .int (iz 0)]) (h' := cmH z zl (uf f 22 od) fl tx) rfl ?_
  refine Rx.iadd rfl ?_
  refine Rx.walk 0 (pc' := 52) (L' := [some (.ref 0), some (.int (iz 3)), some (.int (iz 0)), some (.int (iz 0)), some (.int (iz 0)), some (.int (iz 0))]) (st' := [.int (iz 1)]) (h' := cmH z zl (uf f 22 od) fl tx) rfl ?_
  refine Rx.walk 3 (pc' := 55) (L' := [some (.ref 0), some (.int (iz 3)), some (.int (iz 1)), some (.int (iz 0)), some (.int (iz 0)), some (.int (iz 0))]) (st' := [.int (iz 1), .int (iz 0)]) (h' := cmH z zl (uf f 22 od) fl tx) rfl ?_
  refine Rx.iadd rfl ?_
  refine Rx.walk 0 (pc' := 56) (L' := [some (.ref 0), some (.int (iz 3)), some (.int (iz 1)), some (.int (iz 0)), some (.int (iz 0)), some (.int (iz 0))]) (st' := [.int (iz 1)]) (h' := cmH z zl (uf f 22 od) fl tx) rfl ?_
  refine Rx.walk 1 (pc' := 57) (L' := [some (.ref 0), some (.int (iz 3)), some (.int (iz 1)), some (.int (iz 0)), some (.int (iz 0)), some (.int (iz 0))]) (st' := [.int (iz 3), .int (iz 1)]) (h' := cmH z zl (uf f 22 od) fl tx) rfl ?_
  refine Rx.irem rfl ⟨by omega, by omega⟩ ⟨by omega, by omega⟩ (by omega) (by omega) ?_
  refine Rx.walk 4 (pc' := 19) (L' := [some (.ref 0), some (.int (iz 3)), some (.int (iz 1)), some (.int (iz 1)), some (.int (iz 0)), some (.int (iz 0))]) (st' := [.int (iz 1), .int (iz 0)]) (h' := cmH z zl (uf f 22 od) fl tx) rfl ?_
  refine Rx.callx (m' := m_X12_has) (as := [.int (iz 0), .int (iz 1)]) (rest := []) rfl (n_has_0_1 _ (cmH z zl (uf f 22 od) fl tx)   ) (fun v11 h12 q13 => ?_)
  obtain ⟨rfl, rfl⟩ := q13
  refine Rx.walk 0 (pc' := 22) (L' := [some (.ref 0), some (.int (iz 3)), some (.int (iz 1)), some (.int (iz 1)), some (.int (iz 0)), some (.int (iz 0))]) (st' := [.int (iz 0)]) (h' := cmH z zl (uf f 22 od) fl tx) rfl ?_
  refine Rx.ne1 rfl rfl ⟨by omega, by omega⟩ (fun b14 => by omega) (fun b14 => ?_)
  refine Rx.walk 4 (pc' := 32) (L' := [some (.ref 0), some (.int (iz 3)), some (.int (iz 1)), some (.int (iz 1)), some (.int (iz 0)), some (.int (iz 0))]) (st' := [.int (iz 0), .ref 22, .int (iz 1)]) (h' := cmH z zl (uf f 22 od) fl tx) rfl ?_
  refine Rx.ial (g := od) rfl rfl (by omega) (by omega) (by omega) ?_
  rw [show (od 0) = 1 from h0]
  refine Rx.eq2 rfl rfl ⟨by omega, by omega⟩ ⟨by omega, by omega⟩ (fun b15 => ?_) (fun b15 => by omega)
  refine Rx.walk 3 (pc' := 66) (L' := [some (.ref 0), some (.int (iz 3)), some (.int (iz 1)), some (.int (iz 1)), some (.int (iz 0)), some (.int (iz 0))]) (st' := [.int (iz 1), .int (iz 1), .int (iz 0)]) (h' := cmH z zl (uf f 22 od) fl tx) rfl ?_
  refine Rx.ishl (c := 2) rfl (by decide) ?_
  refine Rx.ior (c := 2) rfl (by decide) ?_
  refine Rx.walk 1 (pc' := 70) (L' := [some (.ref 0), some (.int (iz 3)), some (.int (iz 1)), some (.int (iz 1)), some (.int (iz 2)), some (.int (iz 0))]) (st' := []) (h' := cmH z zl (uf f 22 od) fl tx) rfl ?_
  refine Rx.iinc (b := 1) rfl rfl rfl ?_
  refine Rx.walk 0 (pc' := 73) (L' := [some (.ref 0), some (.int (iz 3)), some (.int (iz 1)), some (.int (iz 1)), some (.int (iz 2)), some (.int (iz 1))]) (st' := []) (h' := cmH z zl (uf f 22 od) fl tx) rfl ?_
  refine Rx.walk 3 (pc' := 13) (L' := [some (.ref 0), some (.int (iz 3)), some (.int (iz 1)), some (.int (iz 1)), some (.int (iz 2)), some (.int (iz 1))]) (st' := [.int (iz 3), .int (iz 1)]) (h' := cmH z zl (uf f 22 od) fl tx) rfl ?_
  refine Rx.ge2 rfl rfl ⟨by omega, by omega⟩ ⟨by omega, by omega⟩ (fun b16 => by omega) (fun b16 => ?_)
  refine Rx.walk 2 (pc' := 19) (L' := [some (.ref 0), some (.int (iz 3)), some (.int (iz 1)), some (.int (iz 1)), some (.int (iz 2)), some (.int (iz 1))]) (st' := [.int (iz 1), .int (iz 2)]) (h' := cmH z zl (uf f 22 od) fl tx) rfl ?_
  refine Rx.callx (m' := m_X12_has) (as := [.int (iz 2), .int (iz 1)]) (rest := []) rfl (n_has_2_1 _ (cmH z zl (uf f 22 od) fl tx)   ) (fun v17 h18 q19 => ?_)
  obtain ⟨rfl, rfl⟩ := q19
  refine Rx.walk 0 (pc' := 22) (L' := [some (.ref 0), some (.int (iz 3)), some (.int (iz 1)), some (.int (iz 1)), some (.int (iz 2)), some (.int (iz 1))]) (st' := [.int (iz 1)]) (h' := cmH z zl (uf f 22 od) fl tx) rfl ?_
  refine Rx.ne1 rfl rfl ⟨by omega, by omega⟩ (fun b20 => ?_) (fun b20 => by omega)
  refine Rx.walk 3 (pc' := 40) (L' := [some (.ref 0), some (.int (iz 3)), some (.int (iz 1)), some (.int (iz 1)), some (.int (iz 2)), some (.int (iz 1))]) (st' := [.int (iz 1), .int (iz 2), .int (iz 1)]) (h' := cmH z zl (uf f 22 od) fl tx) rfl ?_
  refine Rx.callx (m' := m_X12_has) (as := [.int (iz 2), .int (iz 1)]) (rest := [.int (iz 1)]) rfl (n_has_2_1 _ (cmH z zl (uf f 22 od) fl tx)   ) (fun v21 h22 q23 => ?_)
  obtain ⟨rfl, rfl⟩ := q23
  refine Rx.walk 0 (pc' := 43) (L' := [some (.ref 0), some (.int (iz 3)), some (.int (iz 1)), some (.int (iz 1)), some (.int (iz 2)), some (.int (iz 1))]) (st' := [.int (iz 1), .int (iz 1)]) (h' := cmH z zl (uf f 22 od) fl tx) rfl ?_
  refine Rx.eq1 rfl rfl ⟨by omega, by omega⟩ (fun b24 => by omega) (fun b24 => ?_)
  refine Rx.walk 2 (pc' := 51) (L' := [some (.ref 0), some (.int (iz 3)), some (.int (iz 1)), some (.int (iz 1)), some (.int (iz 2)), some (.int (iz 1))]) (st' := [.int (iz 0), .int (iz 1)]) (h' := cmH z zl (uf f 22 od) fl tx) rfl ?_
  refine Rx.iadd rfl ?_
  refine Rx.walk 0 (pc' := 52) (L' := [some (.ref 0), some (.int (iz 3)), some (.int (iz 1)), some (.int (iz 1)), some (.int (iz 2)), some (.int (iz 1))]) (st' := [.int (iz 1)]) (h' := cmH z zl (uf f 22 od) fl tx) rfl ?_
  refine Rx.walk 3 (pc' := 55) (L' := [some (.ref 0), some (.int (iz 3)), some (.int (iz 1)), some (.int (iz 1)), some (.int (iz 2)), some (.int (iz 1))]) (st' := [.int (iz 1), .int (iz 1)]) (h' := cmH z zl (uf f 22 od) fl tx) rfl ?_
  refine Rx.iadd rfl ?_
  refine Rx.walk 0 (pc' := 56) (L' := [some (.ref 0), some (.int (iz 3)), some (.int (iz 1)), some (.int (iz 1)), some (.int (iz 2)), some (.int (iz 1))]) (st' := [.int (iz 2)]) (h' := cmH z zl (uf f 22 od) fl tx) rfl ?_
  refine Rx.walk 1 (pc' := 57) (L' := [some (.ref 0), some (.int (iz 3)), some (.int (iz 1)), some (.int (iz 1)), some (.int (iz 2)), some (.int (iz 1))]) (st' := [.int (iz 3), .int (iz 2)]) (h' := cmH z zl (uf f 22 od) fl tx) rfl ?_
  refine Rx.irem rfl ⟨by omega, by omega⟩ ⟨by omega, by omega⟩ (by omega) (by omega) ?_
  refine Rx.walk 4 (pc' := 19) (L' := [some (.ref 0), some (.int (iz 3)), some (.int (iz 1)), some (.int (iz 2)), some (.int (iz 2)), some (.int (iz 1))]) (st' := [.int (iz 2), .int (iz 2)]) (h' := cmH z zl (uf f 22 od) fl tx) rfl ?_
  refine Rx.callx (m' := m_X12_has) (as := [.int (iz 2), .int (iz 2)]) (rest := []) rfl (n_has_2_2 _ (cmH z zl (uf f 22 od) fl tx)   ) (fun v25 h26 q27 => ?_)
  obtain ⟨rfl, rfl⟩ := q27
  refine Rx.walk 0 (pc' := 22) (L' := [some (.ref 0), some (.int (iz 3)), some (.int (iz 1)), some (.int (iz 2)), some (.int (iz 2)), some (.int (iz 1))]) (st' := [.int (iz 0)]) (h' := cmH z zl (uf f 22 od) fl tx) rfl ?_
  refine Rx.ne1 rfl rfl ⟨by omega, by omega⟩ (fun b28 => by omega) (fun b28 => ?_)
  refine Rx.walk 4 (pc' := 32) (L' := [some (.ref 0), some (.int (iz 3)), some (.int (iz 1)), some (.int (iz 2)), some (.int (iz 2)), some (.int (iz 1))]) (st' := [.int (iz 1), .ref 22, .int (iz 2)]) (h' := cmH z zl (uf f 22 od) fl tx) rfl ?_
  refine Rx.ial (g := od) rfl rfl (by omega) (by omega) (by omega) ?_
  rw [show (od 1) = 0 from h1]
  refine Rx.eq2 rfl rfl ⟨by omega, by omega⟩ ⟨by omega, by omega⟩ (fun b29 => by omega) (fun b29 => ?_)
  refine Rx.walk 3 (pc' := 40) (L' := [some (.ref 0), some (.int (iz 3)), some (.int (iz 1)), some (.int (iz 2)), some (.int (iz 2)), some (.int (iz 1))]) (st' := [.int (iz 2), .int (iz 2), .int (iz 1)]) (h' := cmH z zl (uf f 22 od) fl tx) rfl ?_
  refine Rx.callx (m' := m_X12_has) (as := [.int (iz 2), .int (iz 2)]) (rest := [.int (iz 1)]) rfl (n_has_2_2 _ (cmH z zl (uf f 22 od) fl tx)   ) (fun v30 h31 q32 => ?_)
  obtain ⟨rfl, rfl⟩ := q32
  refine Rx.walk 0 (pc' := 43) (L' := [some (.ref 0), some (.int (iz 3)), some (.int (iz 1)), some (.int (iz 2)), some (.int (iz 2)), some (.int (iz 1))]) (st' := [.int (iz 0), .int (iz 1)]) (h' := cmH z zl (uf f 22 od) fl tx) rfl ?_
  refine Rx.eq1 rfl rfl ⟨by omega, by omega⟩ (fun b33 => ?_) (fun b33 => by omega)
  refine Rx.walk 1 (pc' := 51) (L' := [some (.ref 0), some (.int (iz 3)), some (.int (iz 1)), some (.int (iz 2)), some (.int (iz 2)), some (.int (iz 1))]) (st' := [.int (iz 1), .int (iz 1)]) (h' := cmH z zl (uf f 22 od) fl tx) rfl ?_
  refine Rx.iadd rfl ?_
  refine Rx.walk 0 (pc' := 52) (L' := [some (.ref 0), some (.int (iz 3)), some (.int (iz 1)), some (.int (iz 2)), some (.int (iz 2)), some (.int (iz 1))]) (st' := [.int (iz 2)]) (h' := cmH z zl (uf f 22 od) fl tx) rfl ?_
  refine Rx.walk 3 (pc' := 55) (L' := [some (.ref 0), some (.int (iz 3)), some (.int (iz 2)), some (.int (iz 2)), some (.int (iz 2)), some (.int (iz 1))]) (st' := [.int (iz 1), .int (iz 2)]) (h' := cmH z zl (uf f 22 od) fl tx) rfl ?_
  refine Rx.iadd rfl ?_
  refine Rx.walk 0 (pc' := 56) (L' := [some (.ref 0), some (.int (iz 3)), some (.int (iz 2)), some (.int (iz 2)), some (.int (iz 2)), some (.int (iz 1))]) (st' := [.int (iz 3)]) (h' := cmH z zl (uf f 22 od) fl tx) rfl ?_
  refine Rx.walk 1 (pc' := 57) (L' := [some (.ref 0), some (.int (iz 3)), some (.int (iz 2)), some (.int (iz 2)), some (.int (iz 2)), some (.int (iz 1))]) (st' := [.int (iz 3), .int (iz 3)]) (h' := cmH z zl (uf f 22 od) fl tx) rfl ?_
  refine Rx.irem rfl ⟨by omega, by omega⟩ ⟨by omega, by omega⟩ (by omega) (by omega) ?_
  refine Rx.walk 4 (pc' := 19) (L' := [some (.ref 0), some (.int (iz 3)), some (.int (iz 2)), some (.int (iz 0)), some (.int (iz 2)), some (.int (iz 1))]) (st' := [.int (iz 0), .int (iz 2)]) (h' := cmH z zl (uf f 22 od) fl tx) rfl ?_
  refine Rx.callx (m' := m_X12_has) (as := [.int (iz 2), .int (iz 0)]) (rest := []) rfl (n_has_2_0 _ (cmH z zl (uf f 22 od) fl tx)   ) (fun v34 h35 q36 => ?_)
  obtain ⟨rfl, rfl⟩ := q36
  refine Rx.walk 0 (pc' := 22) (L' := [some (.ref 0), some (.int (iz 3)), some (.int (iz 2)), some (.int (iz 0)), some (.int (iz 2)), some (.int (iz 1))]) (st' := [.int (iz 0)]) (h' := cmH z zl (uf f 22 od) fl tx) rfl ?_
  refine Rx.ne1 rfl rfl ⟨by omega, by omega⟩ (fun b37 => by omega) (fun b37 => ?_)
  refine Rx.walk 4 (pc' := 32) (L' := [some (.ref 0), some (.int (iz 3)), some (.int (iz 2)), some (.int (iz 0)), some (.int (iz 2)), some (.int (iz 1))]) (st' := [.int (iz 1), .ref 22, .int (iz 0)]) (h' := cmH z zl (uf f 22 od) fl tx) rfl ?_
  refine Rx.ial (g := od) rfl rfl (by omega) (by omega) (by omega) ?_
  rw [show (od 1) = 0 from h1]
  refine Rx.eq2 rfl rfl ⟨by omega, by omega⟩ ⟨by omega, by omega⟩ (fun b38 => ?_) (fun b38 => by omega)
  refine Rx.walk 3 (pc' := 66) (L' := [some (.ref 0), some (.int (iz 3)), some (.int (iz 2)), some (.int (iz 0)), some (.int (iz 2)), some (.int (iz 1))]) (st' := [.int (iz 0), .int (iz 1), .int (iz 2)]) (h' := cmH z zl (uf f 22 od) fl tx) rfl ?_
  refine Rx.ishl (c := 1) rfl (by decide) ?_
  refine Rx.ior (c := 3) rfl (by decide) ?_
  refine Rx.walk 1 (pc' := 70) (L' := [some (.ref 0), some (.int (iz 3)), some (.int (iz 2)), some (.int (iz 0)), some (.int (iz 3)), some (.int (iz 1))]) (st' := []) (h' := cmH z zl (uf f 22 od) fl tx) rfl ?_
  refine Rx.iinc (b := 1) rfl rfl rfl ?_
  refine Rx.walk 0 (pc' := 73) (L' := [some (.ref 0), some (.int (iz 3)), some (.int (iz 2)), some (.int (iz 0)), some (.int (iz 3)), some (.int (iz 2))]) (st' := []) (h' := cmH z zl (uf f 22 od) fl tx) rfl ?_
  refine Rx.walk 3 (pc' := 13) (L' := [some (.ref 0), some (.int (iz 3)), some (.int (iz 2)), some (.int (iz 0)), some (.int (iz 3)), some (.int (iz 2))]) (st' := [.int (iz 3), .int (iz 2)]) (h' := cmH z zl (uf f 22 od) fl tx) rfl ?_
  refine Rx.ge2 rfl rfl ⟨by omega, by omega⟩ ⟨by omega, by omega⟩ (fun b39 => by omega) (fun b39 => ?_)
  refine Rx.walk 2 (pc' := 19) (L' := [some (.ref 0), some (.int (iz 3)), some (.int (iz 2)), some (.int (iz 0)), some (.int (iz 3)), some (.int (iz 2))]) (st' := [.int (iz 0), .int (iz 3)]) (h' := cmH z zl (uf f 22 od) fl tx) rfl ?_
  refine Rx.callx (m' := m_X12_has) (as := [.int (iz 3), .int (iz 0)]) (rest := []) rfl (n_has_3_0 _ (cmH z zl (uf f 22 od) fl tx)   ) (fun v40 h41 q42 => ?_)
  obtain ⟨rfl, rfl⟩ := q42
  refine Rx.walk 0 (pc' := 22) (L' := [some (.ref 0), some (.int (iz 3)), some (.int (iz 2)), some (.int (iz 0)), some (.int (iz 3)), some (.int (iz 2))]) (st' := [.int (iz 1)]) (h' := cmH z zl (uf f 22 od) fl tx) rfl ?_
  refine Rx.ne1 rfl rfl ⟨by omega, by omega⟩ (fun b43 => ?_) (fun b43 => by omega)
  refine Rx.walk 3 (pc' := 40) (L' := [some (.ref 0), some (.int (iz 3)), some (.int (iz 2)), some (.int (iz 0)), some (.int (iz 3)), some (.int (iz 2))]) (st' := [.int (iz 0), .int (iz 3), .int (iz 2)]) (h' := cmH z zl (uf f 22 od) fl tx) rfl ?_
  refine Rx.callx (m' := m_X12_has) (as := [.int (iz 3), .int (iz 0)]) (rest := [.int (iz 2)]) rfl (n_has_3_0 _ (cmH z zl (uf f 22 od) fl tx)   ) (fun v44 h45 q46 => ?_)
  obtain ⟨rfl, rfl⟩ := q46
  refine Rx.walk 0 (pc' := 43) (L' := [some (.ref 0), some (.int (iz 3)), some (.int (iz 2)), some (.int (iz 0)), some (.int (iz 3)), some (.int (iz 2))]) (st' := [.int (iz 1), .int (iz 2)]) (h' := cmH z zl (uf f 22 od) fl tx) rfl ?_
  refine Rx.eq1 rfl rfl ⟨by omega, by omega⟩ (fun b47 => by omega) (fun b47 => ?_)
  refine Rx.walk 2 (pc' := 51) (L' := [some (.ref 0), some (.int (iz 3)), some (.int (iz 2)), some (.int (iz 0)), some (.int (iz 3)), some (.int (iz 2))]) (st' := [.int (iz 0), .int (iz 2)]) (h' := cmH z zl (uf f 22 od) fl tx) rfl ?_
  refine Rx.iadd rfl ?_
  refine Rx.walk 0 (pc' := 52) (L' := [some (.ref 0), some (.int (iz 3)), some (.int (iz 2)), some (.int (iz 0)), some (.int (iz 3)), some (.int (iz 2))]) (st' := [.int (iz 2)]) (h' := cmH z zl (uf f 22 od) fl tx) rfl ?_
  refine Rx.walk 3 (pc' := 55) (L' := [some (.ref 0), some (.int (iz 3)), some (.int (iz 2)), some (.int (iz 0)), some (.int (iz 3)), some (.int (iz 2))]) (st' := [.int (iz 1), .int (iz 0)]) (h' := cmH z zl (uf f 22 od) fl tx) rfl ?_
  refine Rx.iadd rfl ?_
  refine Rx.walk 0 (pc' := 56) (L' := [some (.ref 0), some (.int (iz 3)), some (.int (iz 2)), some (.int (iz 0)), some (.int (iz 3)), some (.int (iz 2))]) (st' := [.int (iz 1)]) (h' := cmH z zl (uf f 22 od) fl tx) rfl ?_
  refine Rx.walk 1 (pc' := 57) (L' := [some (.ref 0), some (.int (iz 3)), some (.int (iz 2)), some (.int (iz 0)), some (.int (iz 3)), some (.int (iz 2))]) (st' := [.int (iz 3), .int (iz 1)]) (h' := cmH z zl (uf f 22 od) fl tx) rfl ?_
  refine Rx.irem rfl ⟨by omega, by omega⟩ ⟨by omega, by omega⟩ (by omega) (by omega) ?_
  refine Rx.walk 4 (pc' := 19) (L' := [some (.ref 0), some (.int (iz 3)), some (.int (iz 2)), some (.int (iz 1)), some (.int (iz 3)), some (.int (iz 2))]) (st' := [.int (iz 1), .int (iz 3)]) (h' := cmH z zl (uf f 22 od) fl tx) rfl ?_
  refine Rx.callx (m' := m_X12_has) (as := [.int (iz 3), .int (iz 1)]) (rest := []) rfl (n_has_3_1 _ (cmH z zl (uf f 22 od) fl tx)   ) (fun v48 h49 q50 => ?_)
  obtain ⟨rfl, rfl⟩ := q50
  refine Rx.walk 0 (pc' := 22) (L' := [some (.ref 0), some (.int (iz 3)), some (.int (iz 2)), some (.int (iz 1)), some (.int (iz 3)), some (.int (iz 2))]) (st' := [.int (iz 1)]) (h' := cmH z zl (uf f 22 od) fl tx) rfl ?_
  refine Rx.ne1 rfl rfl ⟨by omega, by omega⟩ (fun b51 => ?_) (fun b51 => by omega)
  refine Rx.walk 3 (pc' := 40) (L' := [some (.ref 0), some (.int (iz 3)), some (.int (iz 2)), some (.int (iz 1)), some (.int (iz 3)), some (.int (iz 2))]) (st' := [.int (iz 1), .int (iz 3), .int (iz 2)]) (h' := cmH z zl (uf f 22 od) fl tx) rfl ?_
  refine Rx.callx (m' := m_X12_has) (as := [.int (iz 3), .int (iz 1)]) (rest := [.int (iz 2)]) rfl (n_has_3_1 _ (cmH z zl (uf f 22 od) fl tx)   ) (fun v52 h53 q54 => ?_)
  obtain ⟨rfl, rfl⟩ := q54
  refine Rx.walk 0 (pc' := 43) (L' := [some (.ref 0), some (.int (iz 3)), some (.int (iz 2)), some (.int (iz 1)), some (.int (iz 3)), some (.int (iz 2))]) (st' := [.int (iz 1), .int (iz 2)]) (h' := cmH z zl (uf f 22 od) fl tx) rfl ?_
  refine Rx.eq1 rfl rfl ⟨by omega, by omega⟩ (fun b55 => by omega) (fun b55 => ?_)
  refine Rx.walk 2 (pc' := 51) (L' := [some (.ref 0), some (.int (iz 3)), some (.int (iz 2)), some (.int (iz 1)), some (.int (iz 3)), some (.int (iz 2))]) (st' := [.int (iz 0), .int (iz 2)]) (h' := cmH z zl (uf f 22 od) fl tx) rfl ?_
  refine Rx.iadd rfl ?_
  refine Rx.walk 0 (pc' := 52) (L' := [some (.ref 0), some (.int (iz 3)), some (.int (iz 2)), some (.int (iz 1)), some (.int (iz 3)), some (.int (iz 2))]) (st' := [.int (iz 2)]) (h' := cmH z zl (uf f 22 od) fl tx) rfl ?_
  refine Rx.walk 3 (pc' := 55) (L' := [some (.ref 0), some (.int (iz 3)), some (.int (iz 2)), some (.int (iz 1)), some (.int (iz 3)), some (.int (iz 2))]) (st' := [.int (iz 1), .int (iz 1)]) (h' := cmH z zl (uf f 22 od) fl tx) rfl ?_
  refine Rx.iadd rfl ?_
  refine Rx.walk 0 (pc' := 56) (L' := [some (.ref 0), some (.int (iz 3)), some (.int (iz 2)), some (.int (iz 1)), some (.int (iz 3)), some (.int (iz 2))]) (st' := [.int (iz 2)]) (h' := cmH z zl (uf f 22 od) fl tx) rfl ?_
  refine Rx.walk 1 (pc' := 57) (L' := [some (.ref 0), some (.int (iz 3)), some (.int (iz 2)), some (.int (iz 1)), some (.int (iz 3)), some (.int (iz 2))]) (st' := [.int (iz 3), .int (iz 2)]) (h' := cmH z zl (uf f 22 od) fl tx) rfl ?_
  refine Rx.irem rfl ⟨by omega, by omega⟩ ⟨by omega, by omega⟩ (by omega) (by omega) ?_
  refine Rx.walk 4 (pc' := 19) (L' := [some (.ref 0), some (.int (iz 3)), some (.int (iz 2)), some (.int (iz 2)), some (.int (iz 3)), some (.int (iz 2))]) (st' := [.int (iz 2), .int (iz 3)]) (h' := cmH z zl (uf f 22 od) fl tx) rfl ?_
  refine Rx.callx (m' := m_X12_has) (as := [.int (iz 3), .int (iz 2)]) (rest := []) rfl (n_has_3_2 _ (cmH z zl (uf f 22 od) fl tx)   ) (fun v56 h57 q58 => ?_)
  obtain ⟨rfl, rfl⟩ := q58
  refine Rx.walk 0 (pc' := 22) (L' := [some (.ref 0), some (.int (iz 3)), some (.int (iz 2)), some (.int (iz 2)), some (.int (iz 3)), some (.int (iz 2))]) (st' := [.int (iz 0)]) (h' := cmH z zl (uf f 22 od) fl tx) rfl ?_
  refine Rx.ne1 rfl rfl ⟨by omega, by omega⟩ (fun b59 => by omega) (fun b59 => ?_)
  refine Rx.walk 4 (pc' := 32) (L' := [some (.ref 0), some (.int (iz 3)), some (.int (iz 2)), some (.int (iz 2)), some (.int (iz 3)), some (.int (iz 2))]) (st' := [.int (iz 2), .ref 22, .int (iz 2)]) (h' := cmH z zl (uf f 22 od) fl tx) rfl ?_
  refine Rx.ial (g := od) rfl rfl (by omega) (by omega) (by omega) ?_
  rw [show (od 2) = 2 from h2]
  refine Rx.eq2 rfl rfl ⟨by omega, by omega⟩ ⟨by omega, by omega⟩ (fun b60 => ?_) (fun b60 => by omega)
  refine Rx.walk 3 (pc' := 66) (L' := [some (.ref 0), some (.int (iz 3)), some (.int (iz 2)), some (.int (iz 2)), some (.int (iz 3)), some (.int (iz 2))]) (st' := [.int (iz 2), .int (iz 1), .int (iz 3)]) (h' := cmH z zl (uf f 22 od) fl tx) rfl ?_
  refine Rx.ishl (c := 4) rfl (by decide) ?_
  refine Rx.ior (c := 7) rfl (by decide) ?_
  refine Rx.walk 1 (pc' := 70) (L' := [some (.ref 0), some (.int (iz 3)), some (.int (iz 2)), some (.int (iz 2)), some (.int (iz 7)), some (.int (iz 2))]) (st' := []) (h' := cmH z zl (uf f 22 od) fl tx) rfl ?_
  refine Rx.iinc (b := 1) rfl rfl rfl ?_
  refine Rx.walk 0 (pc' := 73) (L' := [some (.ref 0), some (.int (iz 3)), some (.int (iz 2)), some (.int (iz 2)), some (.int (iz 7)), some (.int (iz 3))]) (st' := []) (h' := cmH z zl (uf f 22 od) fl tx) rfl ?_
  refine Rx.walk 3 (pc' := 13) (L' := [some (.ref 0), some (.int (iz 3)), some (.int (iz 2)), some (.int (iz 2)), some (.int (iz 7)), some (.int (iz 3))]) (st' := [.int (iz 3), .int (iz 3)]) (h' := cmH z zl (uf f 22 od) fl tx) rfl ?_
  refine Rx.ge2 rfl rfl ⟨by omega, by omega⟩ ⟨by omega, by omega⟩ (fun b61 => ?_) (fun b61 => by omega)
  refine Rx.walk 1 (pc' := 77) (L' := [some (.ref 0), some (.int (iz 3)), some (.int (iz 2)), some (.int (iz 2)), some (.int (iz 7)), some (.int (iz 3))]) (st' := [.int (iz 2)]) (h' := cmH z zl (uf f 22 od) fl tx) rfl ?_
  refine Rx.ret rfl ?_
  exact ⟨rfl, rfl⟩
set_option maxRecDepth 100000 in
set_option maxHeartbeats 4000000 in
theorem n_has_6_2 (d : Nat) (h0 : AmH)   : Rx (d) m_X12_has 0 (am_ent [.int (iz 6), .int (iz 2)] 2) [] (h0) (fun rv h => rv = some (.int (iz 1)) ∧ h0 = h) := ⟨_, _, ⟨100, rfl⟩, rfl, rfl⟩
set_option maxRecDepth 100000 in
set_option maxHeartbeats 4000000 in
theorem n_has_6_0 (d : Nat) (h0 : AmH)   : Rx (d) m_X12_has 0 (am_ent [.int (iz 6), .int (iz 0)] 2) [] (h0) (fun rv h => rv = some (.int (iz 0)) ∧ h0 = h) := ⟨_, _, ⟨100, rfl⟩, rfl, rfl⟩
set_option maxRecDepth 100000 in
set_option maxHeartbeats 4000000 in
theorem m_stepsOf3_3 (d : Nat) (z : Nat → Int) (zl : Nat → Int) (f : Nat → Int → Int) (fl : Nat → Int → Int) (tx : Nat)  (od : Int → Int) (h0 : od 0 = 1) (h1 : od 1 = 2) (h2 : od 2 = 0) : Rx (d + 1) m_X12_stepsOf 0 (am_ent [.ref 0, .int (iz 3)] 6) [] (cmH z zl (uf f 22 od) fl tx) (fun rv h => rv = some (.int (iz 1)) ∧ h = cmH z zl (uf f 22 od) fl tx) := by
  refine Rx.walk 0 (pc' := 0) (L' := [some (.ref 0), some (.int (iz 3)), none, none, none, none]) (st' := []) (h' := cmH z zl (uf f 22 od) fl tx) rfl ?_
  refine Rx.walk 10 (pc' := 13) (L' := [some (.ref 0), some (.int (iz 3)), some (.int (iz 0)), some (.int (iz 0)), some (.int (iz 0)), some (.int (iz 0))]) (st' := [.int (iz 3), .int (iz 0)]) (h' := cmH z zl (uf f 22 od) fl tx) rfl ?_
  refine Rx.ge2 rfl rfl ⟨by omega, by omega⟩ ⟨by omega, by omega⟩ (fun b1 => by omega) (fun b1 => ?_)
  refine Rx.walk 2 (pc' := 19) (L' := [some (.ref 0), some (.int (iz 3)), some (.int (iz 0)), some (.int (iz 0)), some (.int (iz 0)), some (.int (iz 0))]) (st' := [.int (iz 0), .int (iz 0)]) (h' := cmH z zl (uf f 22 od) fl tx) rfl ?_
  refine Rx.callx (m' := m_X12_has) (as := [.int (iz 0), .int (iz 0)]) (rest := []) rfl (n_has_0_0 _ (cmH z zl (uf f 22 od) fl tx)   ) (fun v2 h3 q4 => ?_)
  obtain ⟨rfl, rfl⟩ := q4
  refine Rx.walk 0 (pc' := 22) (L' := [some (.ref 0), some (.int (iz 3)), some (.int (iz 0)), some (.int (iz 0)), some (.int (iz 0)), some (.int (iz 0))]) (st' := [.int (iz 0)]) (h' := cmH z zl (uf f 22 od) fl tx) rfl ?_
  refine Rx.ne1 rfl rfl ⟨by omega, by omega⟩ (fun b5 => by omega) (fun b5 => ?_)
  refine Rx.walk 4 (pc' := 32) (L' := [some (.ref 0), some (.int (iz 3)), some (.int (iz 0)), some (.int (iz 0)), some (.int (iz 0)), some (.int (iz 0))]) (st' := [.int (iz 0), .ref 22, .int (iz 0)]) (h' := cmH z zl (uf f 22 od) fl tx) rfl ?_
  refine Rx.ial (g := od) rfl rfl (by omega) (by omega) (by omega) ?_
  rw [show (od 0) = 1 from h0]
  refine Rx.eq2 rfl rfl ⟨by omega, by omega⟩ ⟨by omega, by omega⟩ (fun b6 => by omega) (fun b6 => ?_)
  refine Rx.walk 3 (pc' := 40) (L' := [some (.ref 0), some (.int (iz 3)), some (.int (iz 0)), some (.int (iz 0)), some (.int (iz 0)), some (.int (iz 0))]) (st' := [.int (iz 0), .int (iz 0), .int (iz 0)]) (h' := cmH z zl (uf f 22 od) fl tx) rfl ?_
  refine Rx.callx (m' := m_X12_has) (as := [.int (iz 0), .int (iz 0)]) (rest := [.int (iz 0)]) rfl (n_has_0_0 _ (cmH z zl (uf f 22 od) fl tx)   ) (fun v7 h8 q9 => ?_)
  obtain ⟨rfl, rfl⟩ := q9
  refine Rx.walk 0 (pc' := 43) (L' := [some (.ref 0), some (.int (iz 3)), some (.int (iz 0)), some (.int (iz 0)), some (.int (iz 0)), some (.int (iz 0))]) (st' := [.int (iz 0), .int (iz 0)]) (h' := cmH z zl (uf f 22 od) fl tx) rfl ?_
  refine Rx.eq1 rfl rfl ⟨by omega, by omega⟩ (fun b10 => ?_) (fun b10 => by omega)
  refine Rx.walk 1 (pc' := 51) (L' := [some (.ref 0), some (.int (iz 3)), some (.int (iz 0)), some (.int (iz 0)), some (.int (iz 0)), some (.int (iz 0))]) (st' := [.int (iz 1), .int (iz 0)]) (h' := cmH z zl (uf f 22 od) fl tx) rfl ?_
  refine Rx.iadd rfl ?_
  refine Rx.walk 0 (pc' := 52) (L' := [some (.ref 0), some (.int (iz 3)), some (.int (iz 0)), some (.int (iz 0)), some (.int (iz 0)), some (.int (iz 0))]) (st' := [.int (iz 1)]) (h' := cmH z zl (uf f 22 od) fl tx) rfl ?_
  refine Rx.walk 3 (pc' := 55) (L' := [some (.ref 0), some (.int (iz 3)), some (.int (iz 1)), some (.int (iz 0)), some (.int (iz 0)), some (.int (iz 0))]) (st' := [.int (iz 1), .int (iz 0)]) (h' := cmH z zl (uf f 22 od) fl tx) rfl ?_
  refine Rx.iadd rfl ?_
  refine Rx.walk 0 (pc' := 56) (L' := [some (.ref 0), some (.int (iz 3)), some (.int (iz 1)), some (.int (iz 0)), some (.int (iz 0)), some (.int (iz 0))]) (st' := [.int (iz 1)]) (h' := cmH z zl (uf f 22 od) fl tx) rfl ?_
  refine Rx.walk 1 (pc' := 57) (L' := [some (.ref 0), some (.int (iz 3)), some (.int (iz 1)), some (.int (iz 0)), some (.int (iz 0)), some (.int (iz 0))]) (st' := [.int (iz 3), .int (iz 1)]) (h' := cmH z zl (uf f 22 od) fl tx) rfl ?_
  refine Rx.irem rfl ⟨by omega, by omega⟩ ⟨by omega, by omega⟩ (by omega) (by omega) ?_
  refine Rx.walk 4 (pc' := 19) (L' := [some (.ref 0), some (.int (iz 3)), some (.int (iz 1)), some (.int (iz 1)), some (.int (iz 0)), some (.int (iz 0))]) (st' := [.int (iz 1), .int (iz 0)]) (h' := cmH z zl (uf f 22 od) fl tx) rfl ?_
  refine Rx.callx (m' := m_X12_has) (as := [.int (iz 0), .int (iz 1)]) (rest := []) rfl (n_has_0_1 _ (cmH z zl (uf f 22 od) fl tx)   ) (fun v11 h12 q13 => ?_)
  obtain ⟨rfl, rfl⟩ := q13
  refine Rx.walk 0 (pc' := 22) (L' := [some (.ref 0), some (.int (iz 3)), some (.int (iz 1)), some (.int (iz 1)), some (.int (iz 0)), some (.int (iz 0))]) (st' := [.int (iz 0)]) (h' := cmH z zl (uf f 22 od) fl tx) rfl ?_
  refine Rx.ne1 rfl rfl ⟨by omega, by omega⟩ (fun b14 => by omega) (fun b14 => ?_)
  refine Rx.walk 4 (pc' := 32) (L' := [some (.ref 0), some (.int (iz 3)), some (.int (iz 1)), some (.int (iz 1)), some (.int (iz 0)), some (.int (iz 0))]) (st' := [.int (iz 0), .ref 22, .int (iz 1)]) (h' := cmH z zl (uf f 22 od) fl tx) rfl ?_
  refine Rx.ial (g := od) rfl rfl (by omega) (by omega) (by omega) ?_
  rw [show (od 0) = 1 from h0]
  refine Rx.eq2 rfl rfl ⟨by omega, by omega⟩ ⟨by omega, by omega⟩ (fun b15 => ?_) (fun b15 => by omega)
  refine Rx.walk 3 (pc' := 66) (L' := [some (.ref 0), some (.int (iz 3)), some (.int (iz 1)), some (.int (iz 1)), some (.int (iz 0)), some (.int (iz 0))]) (st' := [.int (iz 1), .int (iz 1), .int (iz 0)]) (h' := cmH z zl (uf f 22 od) fl tx) rfl ?_
  refine Rx.ishl (c := 2) rfl (by decide) ?_
  refine Rx.ior (c := 2) rfl (by decide) ?_
  refine Rx.walk 1 (pc' := 70) (L' := [some (.ref 0), some (.int (iz 3)), some (.int (iz 1)), some (.int (iz 1)), some (.int (iz 2)), some (.int (iz 0))]) (st' := []) (h' := cmH z zl (uf f 22 od) fl tx) rfl ?_
  refine Rx.iinc (b := 1) rfl rfl rfl ?_
  refine Rx.walk 0 (pc' := 73) (L' := [some (.ref 0), some (.int (iz 3)), some (.int (iz 1)), some (.int (iz 1)), some (.int (iz 2)), some (.int (iz 1))]) (st' := []) (h' := cmH z zl (uf f 22 od) fl tx) rfl ?_
  refine Rx.walk 3 (pc' := 13) (L' := [some (.ref 0), some (.int (iz 3)), some (.int (iz 1)), some (.int (iz 1)), some (.int (iz 2)), some (.int (iz 1))]) (st' := [.int (iz 3), .int (iz 1)]) (h' := cmH z zl (uf f 22 od) fl tx) rfl ?_
  refine Rx.ge2 rfl rfl ⟨by omega, by omega⟩ ⟨by omega, by omega⟩ (fun b16 => by omega) (fun b16 => ?_)
  refine Rx.walk 2 (pc' := 19) (L' := [some (.ref 0), some (.int (iz 3)), some (.int (iz 1)), some (.int (iz 1)), some (.int (iz 2)), some (.int (iz 1))]) (st' := [.int (iz 1), .int (iz 2)]) (h' := cmH z zl (uf f 22 od) fl tx) rfl ?_
  refine Rx.callx (m' := m_X12_has) (as := [.int (iz 2), .int (iz 1)]) (rest := []) rfl (n_has_2_1 _ (cmH z zl (uf f 22 od) fl tx)   ) (fun v17 h18 q19 => ?_)
  obtain ⟨rfl, rfl⟩ := q19
  refine Rx.walk 0 (pc' := 22) (L' := [some (.ref 0), some (.int (iz 3)), some (.int (iz 1)), some (.int (iz 1)), some (.int (iz 2)), some (.int (iz 1))]) (st' := [.int (iz 1)]) (h' := cmH z zl (uf f 22 od) fl tx) rfl ?_
  refine Rx.ne1 rfl rfl ⟨by omega, by omega⟩ (fun b20 => ?_) (fun b20 => by omega)
  refine Rx.walk 3 (pc' := 40) (L' := [some (.ref 0), some (.int (iz 3)), some (.int (iz 1)), some (.int (iz 1)), some (.int (iz 2)), some (.int (iz 1))]) (st' := [.int (iz 1), .int (iz 2), .int (iz 1)]) (h' := cmH z zl (uf f 22 od) fl tx) rfl ?_
  refine Rx.callx (m' := m_X12_has) (as := [.int (iz 2), .int (iz 1)]) (rest := [.int (iz 1)]) rfl (n_has_2_1 _ (cmH z zl (uf f 22 od) fl tx)   ) (fun v21 h22 q23 => ?_)
  obtain ⟨rfl, rfl⟩ := q23
  refine Rx.walk 0 (pc' := 43) (L' := [some (.ref 0), some (.int (iz 3)), some (.int (iz 1)), some (.int (iz 1)), some (.int (iz 2)), some (.int (iz 1))]) (st' := [.int (iz 1), .int (iz 1)]) (h' := cmH z zl (uf f 22 od) fl tx) rfl ?_
  refine Rx.eq1 rfl rfl ⟨by omega, by omega⟩ (fun b24 => by omega) (fun b24 => ?_)
  refine Rx.walk 2 (pc' := 51) (L' := [some (.ref 0), some (.int (iz 3)), some (.int (iz 1)), some (.int (iz 1)), some (.int (iz 2)), some (.int (iz 1))]) (st' := [.int (iz 0), .int (iz 1)]) (h' := cmH z zl (uf f 22 od) fl tx) rfl ?_
  refine Rx.iadd rfl ?_
  refine Rx.walk 0 (pc' := 52) (L' := [some (.ref 0), some (.int (iz 3)), some (.int (iz 1)), some (.int (iz 1)), some (.int (iz 2)), some (.int (iz 1))]) (st' := [.int (iz 1)]) (h' := cmH z zl (uf f 22 od) fl tx) rfl ?_
  refine Rx.walk 3 (pc' := 55) (L' := [some (.ref 0), some (.int (iz 3)), some (.int (iz 1)), some (.int (iz 1)), some (.int (iz 2)), some (.int (iz 1))]) (st' := [.int (iz 1), .int (iz 1)]) (h' := cmH z zl (uf f 22 od) fl tx) rfl ?_
  refine Rx.iadd rfl ?_
  refine Rx.walk 0 (pc' := 56) (L' := [some (.ref 0), some (.int (iz 3)), some (.int (iz 1)), some (.int (iz 1)), some (.int (iz 2)), some (.int (iz 1))]) (st' := [.int (iz 2)]) (h' := cmH z zl (uf f 22 od) fl tx) rfl ?_
  refine Rx.walk 1 (pc' := 57) (L' := [some (.ref 0), some (.int (iz 3)), some (.int (iz 1)), some (.int (iz 1)), some (.int (iz 2)), some (.int (iz 1))]) (st' := [.int (iz 3), .int (iz 2)]) (h' := cmH z zl (uf f 22 od) fl tx) rfl ?_
  refine Rx.irem rfl ⟨by omega, by omega⟩ ⟨by omega, by omega⟩ (by omega) (by omega) ?_
  refine Rx.walk 4 (pc' := 19) (L' := [some (.ref 0), some (.int (iz 3)), some (.int (iz 1)), some (.int (iz 2)), some (.int (iz 2)), some (.int (iz 1))]) (st' := [.int (iz 2), .int (iz 2)]) (h' := cmH z zl (uf f 22 od) fl tx) rfl ?_
  refine Rx.callx (m' := m_X12_has) (as := [.int (iz 2), .int (iz 2)]) (rest := []) rfl (n_has_2_2 _ (cmH z zl (uf f 22 od) fl tx)   ) (fun v25 h26 q27 => ?_)
  obtain ⟨rfl, rfl⟩ := q27
  refine Rx.walk 0 (pc' := 22) (L' := [some (.ref 0), some (.int (iz 3)), some (.int (iz 1)), some (.int (iz 2)), some (.int (iz 2)), some (.int (iz 1))]) (st' := [.int (iz 0)]) (h' := cmH z zl (uf f 22 od) fl tx) rfl ?_
  refine Rx.ne1 rfl rfl ⟨by omega, by omega⟩ (fun b28 => by omega) (fun b28 => ?_)
  refine Rx.walk 4 (pc' := 32) (L' := [some (.ref 0), some (.int (iz 3)), some (.int (iz 1)), some (.int (iz 2)), some (.int (iz 2)), some (.int (iz 1))]) (st' := [.int (iz 1), .ref 22, .int (iz 2)]) (h' := cmH z zl (uf f 22 od) fl tx) rfl ?_
  refine Rx.ial (g := od) rfl rfl (by omega) (by omega) (by omega) ?_
  rw [show (od 1) = 2 from h1]
  refine Rx.eq2 rfl rfl ⟨by omega, by omega⟩ ⟨by omega, by omega⟩ (fun b29 => ?_) (fun b29 => by omega)
  refine Rx.walk 3 (pc' := 66) (L' := [some (.ref 0), some (.int (iz 3)), some (.int (iz 1)), some (.int (iz 2)), some (.int (iz 2)), some (.int (iz 1))]) (st' := [.int (iz 2), .int (iz 1), .int (iz 2)]) (h' := cmH z zl (uf f 22 od) fl tx) rfl ?_
  refine Rx.ishl (c := 4) rfl (by decide) ?_
  refine Rx.ior (c := 6) rfl (by decide) ?_
  refine Rx.walk 1 (pc' := 70) (L' := [some (.ref 0), some (.int (iz 3)), some (.int (iz 1)), some (.int (iz 2)), some (.int (iz 6)), some (.int (iz 1))]) (st' := []) (h' := cmH z zl (uf f 22 od) fl tx) rfl ?_
  refine Rx.iinc (b := 1) rfl rfl rfl ?_
  refine Rx.walk 0 (pc' := 73) (L' := [some (.ref 0), some (.int (iz 3)), some (.int (iz 1)), some (.int (iz 2)), some (.int (iz 6)), some (.int (iz 2))]) (st' := []) (h' := cmH z zl (uf f 22 od) fl tx) rfl ?_
  refine Rx.walk 3 (pc' := 13) (L' := [some (.ref 0), some (.int (iz 3)), some (.int (iz 1)), some (.int (iz 2)), some (.int (iz 6)), some (.int (iz 2))]) (st' := [.int (iz 3), .int (iz 2)]) (h' := cmH z zl (uf f 22 od) fl tx) rfl ?_
  refine Rx.ge2 rfl rfl ⟨by omega, by omega⟩ ⟨by omega, by omega⟩ (fun b30 => by omega) (fun b30 => ?_)
  refine Rx.walk 2 (pc' := 19) (L' := [some (.ref 0), some (.int (iz 3)), some (.int (iz 1)), some (.int (iz 2)), some (.int (iz 6)), some (.int (iz 2))]) (st' := [.int (iz 2), .int (iz 6)]) (h' := cmH z zl (uf f 22 od) fl tx) rfl ?_
  refine Rx.callx (m' := m_X12_has) (as := [.int (iz 6), .int (iz 2)]) (rest := []) rfl (n_has_6_2 _ (cmH z zl (uf f 22 od) fl tx)   ) (fun v31 h32 q33 => ?_)
  obtain ⟨rfl, rfl⟩ := q33
  refine Rx.walk 0 (pc' := 22) (L' := [some (.ref 0), some (.int (iz 3)), some (.int (iz 1)), some (.int (iz 2)), some (.int (iz 6)), some (.int (iz 2))]) (st' := [.int (iz 1)]) (h' := cmH z zl (uf f 22 od) fl tx) rfl ?_
  refine Rx.ne1 rfl rfl ⟨by omega, by omega⟩ (fun b34 => ?_) (fun b34 => by omega)
  refine Rx.walk 3 (pc' := 40) (L' := [some (.ref 0), some (.int (iz 3)), some (.int (iz 1)), some (.int (iz 2)), some (.int (iz 6)), some (.int (iz 2))]) (st' := [.int (iz 2), .int (iz 6), .int (iz 1)]) (h' := cmH z zl (uf f 22 od) fl tx) rfl ?_
  refine Rx.callx (m' := m_X12_has) (as := [.int (iz 6), .int (iz 2)]) (rest := [.int (iz 1)]) rfl (n_has_6_2 _ (cmH z zl (uf f 22 od) fl tx)   ) (fun v35 h36 q37 => ?_)
  obtain ⟨rfl, rfl⟩ := q37
  refine Rx.walk 0 (pc' := 43) (L' := [some (.ref 0), some (.int (iz 3)), some (.int (iz 1)), some (.int (iz 2)), some (.int (iz 6)), some (.int (iz 2))]) (st' := [.int (iz 1), .int (iz 1)]) (h' := cmH z zl (uf f 22 od) fl tx) rfl ?_
  refine Rx.eq1 rfl rfl ⟨by omega, by omega⟩ (fun b38 => by omega) (fun b38 => ?_)
  refine Rx.walk 2 (pc' := 51) (L' := [some (.ref 0), some (.int (iz 3)), some (.int (iz 1)), some (.int (iz 2)), some (.int (iz 6)), some (.int (iz 2))]) (st' := [.int (iz 0), .int (iz 1)]) (h' := cmH z zl (uf f 22 od) fl tx) rfl ?_
  refine Rx.iadd rfl ?_
  refine Rx.walk 0 (pc' := 52) (L' := [some (.ref 0), some (.int (iz 3)), some (.int (iz 1)), some (.int (iz 2)), some (.int (iz 6)), some (.int (iz 2))]) (st' := [.int (iz 1)]) (h' := cmH z zl (uf f 22 od) fl tx) rfl ?_
  refine Rx.walk 3 (pc' := 55) (L' := [some (.ref 0), some (.int (iz 3)), some (.int (iz 1)), some (.int (iz 2)), some (.int (iz 6)), some (.int (iz 2))]) (st' := [.int (iz 1), .int (iz 2)]) (h' := cmH z zl (uf f 22 od) fl tx) rfl ?_
  refine Rx.iadd rfl ?_
  refine Rx.walk 0 (pc' := 56) (L' := [some (.ref 0), some (.int (iz 3)), some (.int (iz 1)), some (.int (iz 2)), some (.int (iz 6)), some (.int (iz 2))]) (st' := [.int (iz 3)]) (h' := cmH z zl (uf f 22 od) fl tx) rfl ?_
  refine Rx.walk 1 (pc' := 57) (L' := [some (.ref 0), some (.int (iz 3)), some (.int (iz 1)), some (.int (iz 2)), some (.int (iz 6)), some (.int (iz 2))]) (st' := [.int (iz 3), .int (iz 3)]) (h' := cmH z zl (uf f 22 od) fl tx) rfl ?_
  refine Rx.irem rfl ⟨by omega, by omega⟩ ⟨by omega, by omega⟩ (by omega) (by omega) ?_
  refine Rx.walk 4 (pc' := 19) (L' := [some (.ref 0), some (.int (iz 3)), some (.int (iz 1)), some (.int (iz 0)), some (.int (iz 6)), some (.int (iz 2))]) (st' := [.int (iz 0), .int (iz 6)]) (h' := cmH z zl (uf f 22 od) fl tx) rfl ?_
  refine Rx.callx (m' := m_X12_has) (as := [.int (iz 6), .int (iz 0)]) (rest := []) rfl (n_has_6_0 _ (cmH z zl (uf f 22 od) fl tx)   ) (fun v39 h40 q41 => ?_)
  obtain ⟨rfl, rfl⟩ := q41
  refine Rx.walk 0 (pc' := 22) (L' := [some (.ref 0), some (.int (iz 3)), some (.int (iz 1)), some (.int (iz 0)), some (.int (iz 6)), some (.int (iz 2))]) (st' := [.int (iz 0)]) (h' := cmH z zl (uf f 22 od) fl tx) rfl ?_
  refine Rx.ne1 rfl rfl ⟨by omega, by omega⟩ (fun b42 => by omega) (fun b42 => ?_)
  refine Rx.walk 4 (pc' := 32) (L' := [some (.ref 0), some (.int (iz 3)), some (.int (iz 1)), some (.int (iz 0)), some (.int (iz 6)), some (.int (iz 2))]) (st' := [.int (iz 2), .ref 22, .int (iz 0)]) (h' := cmH z zl (uf f 22 od) fl tx) rfl ?_
  refine Rx.ial (g := od) rfl rfl (by omega) (by omega) (by omega) ?_
  rw [show (od 2) = 0 from h2]
  refine Rx.eq2 rfl rfl ⟨by omega, by omega⟩ ⟨by omega, by omega⟩ (fun b43 => ?_) (fun b43 => by omega)
  refine Rx.walk 3 (pc' := 66) (L' := [some (.ref 0), some (.int (iz 3)), some (.int (iz 1)), some (.int (iz 0)), some (.int (iz 6)), some (.int (iz 2))]) (st' := [.int (iz 0), .int (iz 1), .int (iz 6)]) (h' := cmH z zl (uf f 22 od) fl tx) rfl ?_
  refine Rx.ishl (c := 1) rfl (by decide) ?_
  refine Rx.ior (c := 7) rfl (by decide) ?_
  refine Rx.walk 1 (pc' := 70) (L' := [some (.ref 0), some (.int (iz 3)), some (.int (iz 1)), some (.int (iz 0)), some (.int (iz 7)), some (.int (iz 2))]) (st' := []) (h' := cmH z zl (uf f 22 od) fl tx) rfl ?_
  refine Rx.iinc (b := 1) rfl rfl rfl ?_
  refine Rx.walk 0 (pc' := 73) (L' := [some (.ref 0), some (.int (iz 3)), some (.int (iz 1)), some (.int (iz 0)), some (.int (iz 7)), some (.int (iz 3))]) (st' := []) (h' := cmH z zl (uf f 22 od) fl tx) rfl ?_
  refine Rx.walk 3 (pc' := 13) (L' := [some (.ref 0), some (.int (iz 3)), some (.int (iz 1)), some (.int (iz 0)), some (.int (iz 7)), some (.int (iz 3))]) (st' := [.int (iz 3), .int (iz 3)]) (h' := cmH z zl (uf f 22 od) fl tx) rfl ?_
  refine Rx.ge2 rfl rfl ⟨by omega, by omega⟩ ⟨by omega, by omega⟩ (fun b44 => ?_) (fun b44 => by omega)
  refine Rx.walk 1 (pc' := 77) (L' := [some (.ref 0), some (.int (iz 3)), some (.int (iz 1)), some (.int (iz 0)), some (.int (iz 7)), some (.int (iz 3))]) (st' := [.int (iz 1)]) (h' := cmH z zl (uf f 22 od) fl tx) rfl ?_
  refine Rx.ret rfl ?_
  exact ⟨rfl, rfl⟩
set_option maxRecDepth 100000 in
set_option maxHeartbeats 4000000 in
theorem n_has_0_2 (d : Nat) (h0 : AmH)   : Rx (d) m_X12_has 0 (am_ent [.int (iz 0), .int (iz 2)] 2) [] (h0) (fun rv h => rv = some (.int (iz 0)) ∧ h0 = h) := ⟨_, _, ⟨100, rfl⟩, rfl, rfl⟩
set_option maxRecDepth 100000 in
set_option maxHeartbeats 4000000 in
theorem n_has_4_2 (d : Nat) (h0 : AmH)   : Rx (d) m_X12_has 0 (am_ent [.int (iz 4), .int (iz 2)] 2) [] (h0) (fun rv h => rv = some (.int (iz 1)) ∧ h0 = h) := ⟨_, _, ⟨100, rfl⟩, rfl, rfl⟩
set_option maxRecDepth 100000 in
set_option maxHeartbeats 4000000 in
theorem n_has_4_0 (d : Nat) (h0 : AmH)   : Rx (d) m_X12_has 0 (am_ent [.int (iz 4), .int (iz 0)] 2) [] (h0) (fun rv h => rv = some (.int (iz 0)) ∧ h0 = h) := ⟨_, _, ⟨100, rfl⟩, rfl, rfl⟩
set_option maxRecDepth 100000 in
set_option maxHeartbeats 4000000 in
theorem m_stepsOf3_4 (d : Nat) (z : Nat → Int) (zl : Nat → Int) (f : Nat → Int → Int) (fl : Nat → Int → Int) (tx : Nat)  (od : Int → Int) (h0 : od 0 = 2) (h1 : od 1 = 0) (h2 : od 2 = 1) : Rx (d + 1) m_X12_stepsOf 0 (am_ent [.ref 0, .int (iz 3)] 6) [] (cmH z zl (uf f 22 od) fl tx) (fun rv h => rv = some (.int (iz 2)) ∧ h = cmH z zl (uf f 22 od) fl tx) := by
  refine Rx.walk 0 (pc' := 0) (L' := [some (.ref 0), some (.int (iz 3)), none, none, none, none]) (st' := []) (h' := cmH z zl (uf f 22 od) fl tx) rfl ?_
  refine Rx.walk 10 (pc' := 13) (L' := [some (.ref 0), some (.int (iz 3)), some (.int (iz 0)), some (.int (iz 0)), some (.int (iz 0)), some (.int (iz 0))]) (st' := [.int (iz 3), .int (iz 0)]) (h' := cmH z zl (uf f 22 od) fl tx) rfl ?_
  refine Rx.ge2 rfl rfl ⟨by omega, by omega⟩ ⟨by omega, by omega⟩ (fun b1 => by omega) (fun b1 => ?_)
  refine Rx.walk 2 (pc' := 19) (L' := [some (.ref 0), some (.int (iz 3)), some (.int (iz 0)), some (.int (iz 0)), some (.int (iz 0)), some (.int (iz 0))]) (st' := [.int (iz 0), .int (iz 0)]) (h' := cmH z zl (uf f 22 od) fl tx) rfl ?_
  refine Rx.callx (m' := m_X12_has) (as := [.int (iz 0), .int (iz 0)]) (rest := []) rfl (n_has_0_0 _ (cmH z zl (uf f 22 od) fl tx)   ) (fun v2 h3 q4 => ?_)
  obtain ⟨rfl, rfl⟩ := q4
  refine Rx.walk 0 (pc' := 22) (L' := [some (.ref 0), some (.int (iz 3)), some (.int (iz 0)), some (.int (iz 0)), some (.int (iz 0)), some (.int (iz 0))]) (st' := [.int (iz 0)]) (h' := cmH z zl (uf f 22 od) fl tx) rfl ?_
  refine Rx.ne1 rfl rfl ⟨by omega, by omega⟩ (fun b5 => by omega) (fun b5 => ?_)
  refine Rx.walk 4 (pc' := 32) (L' := [some (.ref 0), some (.int (iz 3)), some (.int (iz 0)), some (.int (iz 0)), some (.int (iz 0)), some (.int (iz 0))]) (st' := [.int (iz 0), .ref 22, .int (iz 0)]) (h' := cmH z zl (uf f 22 od) fl tx) rfl ?_
  refine Rx.ial (g := od) rfl rfl (by omega) (by omega) (by omega) ?_
  rw [show (od 0) = 2 from h0]
  refine Rx.eq2 rfl rfl ⟨by omega, by omega⟩ ⟨by omega, by omega⟩ (fun b6 => by omega) (fun b6 => ?_)
  refine Rx.walk 3 (pc' := 40) (L' := [some (.ref 0), some (.int (iz 3)), some (.int (iz 0)), some (.int (iz 0)), some (.int (iz 0)), some (.int (iz 0))]) (st' := [.int (iz 0), .int (iz 0), .int (iz 0)]) (h' := cmH z zl (uf f 22 od) fl tx) rfl ?_
  refine Rx.callx (m' := m_X12_has) (as := [.int (iz 0), .int (iz 0)]) (rest := [.int (iz 0)]) rfl (n_has_0_0 _ (cmH z zl (uf f 22 od) fl tx)   ) (fun v7 h8 q9 => ?_)
  obtain ⟨rfl, rfl⟩ := q9
  refine Rx.walk 0 (pc' := 43) (L' := [some (.ref 0), some (.int (iz 3)), some (.int (iz 0)), some (.int (iz 0)), some (.int (iz 0)), some (.int (iz 0))]) (st' := [.int (iz 0), .int (iz 0)]) (h' := cmH z zl (uf f 22 od) fl tx) rfl ?_
  refine Rx.eq1 rfl rfl ⟨by omega, by omega⟩ (fun b10 => ?_) (fun b10 => by omega)
  refine Rx.walk 1 (pc' := 51) (L' := [some (.ref 0), some (.int (iz 3)), some (.int (iz 0)), some (.int (iz 0)), some (.int (iz 0)), some (.int (iz 0))]) (st' := [.int (iz 1), .int (iz 0)]) (h' := cmH z zl (uf f 22 od) fl tx) rfl ?_
  refine Rx.iadd rfl ?_
  refine Rx.walk 0 (pc' := 52) (L' := [some (.ref 0), some (.int (iz 3)), some (.int (iz 0)), some (.int (iz 0)), some (.int (iz 0)), some (.int (iz 0))]) (st' := [.int (iz 1)]) (h' := cmH z zl (uf f 22 od) fl tx) rfl ?_
  refine Rx.walk 3 (pc' := 55) (L' := [some (.ref 0), some (.int (iz 3)), some (.int (iz 1)), some (.int (iz 0)), some (.int (iz 0)), some (.int (iz 0))]) (st' := [.int (iz 1), .int (iz 0)]) (h' := cmH z zl (uf f 22 od) fl tx) rfl ?_
  refine Rx.iadd rfl ?_
  refine Rx.walk 0 (pc' := 56) (L' := [some (.ref 0), some (.int (iz 3)), some (.int (iz 1)), some (.int (iz 0)), some (.int (iz 0)), some (.int (iz 0))]) (st' := [.int (iz 1)]) (h' := cmH z zl (uf f 22 od) fl tx) rfl ?_
  refine Rx.walk 1 (pc' := 57) (L' := [some (.ref 0), some (.int (iz 3)), some (.int (iz 1)), some (.int (iz 0)), some (.int (iz 0)), some (.int (iz 0))]) (st' := [.int (iz 3), .int (iz 1)]) (h' := cmH z zl (uf f 22 od) fl tx) rfl ?_
  refine Rx.irem rfl ⟨by omega, by omega⟩ ⟨by omega, by omega⟩ (by omega) (by omega) ?_
  refine Rx.walk 4 (pc' := 19) (L' := [some (.ref 0), some (.int (iz 3)), some (.int (iz 1)), some (.int (iz 1)), some (.int (iz 0)), some (.int (iz 0))]) (st' := [.int (iz 1), .int (iz 0)]) (h' := cmH z zl (uf f 22 od) fl tx) rfl ?_
  refine Rx.callx (m' := m_X12_has) (as := [.int (iz 0), .int (iz 1)]) (rest := []) rfl (n_has_0_1 _ (cmH z zl (uf f 22 od) fl tx)   ) (fun v11 h12 q13 => ?_)
  obtain ⟨rfl, rfl⟩ := q13
  refine Rx.walk 0 (pc' := 22) (L' := [some (.ref 0), some (.int (iz 3)), some (.int (iz 1)), some (.int (iz 1)), some (.int (iz 0)), some (.int (iz 0))]) (st' := [.int (iz 0)]) (h' := cmH z zl (uf f 22 od) fl tx) rfl ?_
  refine Rx.ne1 rfl rfl ⟨by omega, by omega⟩ (fun b14 => by omega) (fun b14 => ?_)
  refine Rx.walk 4 (pc' := 32) (L' := [some (.ref 0), some (.int (iz 3)), some (.int (iz 1)), some (.int (iz 1)), some (.int (iz 0)), some (.int (iz 0))]) (st' := [.int (iz 0), .ref 22, .int (iz 1)]) (h' := cmH z zl (uf f 22 od) fl tx) rfl ?_
  refine Rx.ial (g := od) rfl rfl (by omega) (by omega) (by omega) ?_
  rw [show (od 0) = 2 from h0]
  refine Rx.eq2 rfl rfl ⟨by omega, by omega⟩ ⟨by omega, by omega⟩ (fun b15 => by omega) (fun b15 => ?_)
  refine Rx.walk 3 (pc' := 40) (L' := [some (.ref 0), some (.int (iz 3)), some (.int (iz 1)), some (.int (iz 1)), some (.int (iz 0)), some (.int (iz 0))]) (st' := [.int (iz 1), .int (iz 0), .int (iz 1)]) (h' := cmH z zl (uf f 22 od) fl tx) rfl ?_
  refine Rx.callx (m' := m_X12_has) (as := [.int (iz 0), .int (iz 1)]) (rest := [.int (iz 1)]) rfl (n_has_0_1 _ (cmH z zl (uf f 22 od) fl tx)   ) (fun v16 h17 q18 => ?_)
  obtain ⟨rfl, rfl⟩ := q18
  refine Rx.walk 0 (pc' := 43) (L' := [some (.ref 0), some (.int (iz 3)), some (.int (iz 1)), some (.int (iz 1)), some (.int (iz 0)), some (.int (iz 0))]) (st' := [.int (iz 0), .int (iz 1)]) (h' := cmH z zl (uf f 22 od) fl tx) rfl ?_
  refine Rx.eq1 rfl rfl ⟨by omega, by omega⟩ (fun b19 => ?_) (fun b19 => by omega)
  refine Rx.walk 1 (pc' := 51) (L' := [some (.ref 0), some (.int (iz 3)), some (.int (iz 1)), some (.int (iz 1)), some (.int (iz 0)), some (.int (iz 0))]) (st' := [.int (iz 1), .int (iz 1)]) (h' := cmH z zl (uf f 22 od) fl tx) rfl ?_
  refine Rx.iadd rfl ?_
  refine Rx.walk 0 (pc' := 52) (L' := [some (.ref 0), some (.int (iz 3)), some (.int (iz 1)), some (.int (iz 1)), some (.int (iz 0)), some (.int (iz 0))]) (st' := [.int (iz 2)]) (h' := cmH z zl (uf f 22 od) fl tx) rfl ?_
  refine Rx.walk 3 (pc' := 55) (L' := [some (.ref 0), some (.int (iz 3)), some (.int (iz 2)), some (.int (iz 1)), some (.int (iz 0)), some (.int (iz 0))]) (st' := [.int (iz 1), .int (iz 1)]) (h' := cmH z zl (uf f 22 od) fl tx) rfl ?_
  refine Rx.iadd rfl ?_
  refine Rx.walk 0 (pc' := 56) (L' := [some (.ref 0), some (.int (iz 3)), some (.int (iz 2)), some (.int (iz 1)), some (.int (iz 0)), some (.int (iz 0))]) (st' := [.int (iz 2)]) (h' := cmH z zl (uf f 22 od) fl tx) rfl ?_
  refine Rx.walk 1 (pc' := 57) (L' := [some (.ref 0), some (.int (iz 3)), some (.int (iz 2)), some (.int (iz 1)), some (.int (iz 0)), some (.int (iz 0))]) (st' := [.int (iz 3), .int (iz 2)]) (h' := cmH z zl (uf f 22 od) fl tx) rfl ?_
  refine Rx.irem rfl ⟨by omega, by omega⟩ ⟨by omega, by omega⟩ (by omega) (by omega) ?_
  refine Rx.walk 4 (pc' := 19) (L' := [some (.ref 0), some (.int (iz 3)), some (.int (iz 2)), some (.int (iz 2)), some (.int (iz 0)), some (.int (iz 0))]) (st' := [.int (iz 2), .int (iz 0)]) (h' := cmH z zl (uf f 22 od) fl tx) rfl ?_
  refine Rx.callx (m' := m_X12_has) (as := [.int (iz 0), .int (iz 2)]) (rest := []) rfl (n_has_0_2 _ (cmH z zl (uf f 22 od) fl tx)   ) (fun v20 h21 q22 => ?_)
  obtain ⟨rfl, rfl⟩ := q22
  refine Rx.walk 0 (pc' := 22) (L' := [some (.ref 0), some (.int (iz 3)), some (.int (iz 2)), some (.int (iz 2)), some (.int (iz 0)), some (.int (iz 0))]) (st' := [.int (iz 0)]) (h' := cmH z zl (uf f 22 od) fl tx) rfl ?_
  refine Rx.ne1 rfl rfl ⟨by omega, by omega⟩ (fun b23 => by omega) (fun b23 => ?_)
  refine Rx.walk 4 (pc' := 32) (L' := [some (.ref 0), some (.int (iz 3)), some (.int (iz 2)), some (.int (iz 2)), some (.int (iz 0)), some (.int (iz 0))]) (st' := [.int (iz 0), .ref 22, .int (iz 2)]) (h' := cmH z zl (uf f 22 od) fl tx) rfl ?_
  refine Rx.ial (g := od) rfl rfl (by omega) (by omega) (by omega) ?_
  rw [show (od 0) = 2 from h0]
  refine Rx.eq2 rfl rfl ⟨by omega, by omega⟩ ⟨by omega, by omega⟩ (fun b24 => ?_) (fun b24 => by omega)
  refine Rx.walk 3 (pc' := 66) (L' := [some (.ref 0), some (.int (iz 3)), some (.int (iz 2)), some (.int (iz 2)), some (.int (iz 0)), some (.int (iz 0))]) (st' := [.int (iz 2), .int (iz 1), .int (iz 0)]) (h' := cmH z zl (uf f 22 od) fl tx) rfl ?_
  refine Rx.ishl (c := 4) rfl (by decide) ?_
  refine Rx.ior (c := 4) rfl (by decide) ?_
  refine Rx.walk 1 (pc' := 70) (L' := [some (.ref 0), some (.int (iz 3)), some (.int (iz 2)), some (.int (iz 2)), some (.int (iz 4)), some (.int (iz 0))]) (st' := []) (h' := cmH z zl (uf f 22 od) fl tx) rfl ?_
  refine Rx.iinc (b := 1) rfl rfl rfl ?_
  refine Rx.walk 0 (pc' := 73) (L' := [some (.ref 0), some (.int (iz 3)), some (.int (iz 2)), some (.int (iz 2)), some (.int (iz 4)), some (.int (iz 1))]) (st' := []) (h' := cmH z zl (uf f 22 od) fl tx) rfl ?_
  refine Rx.walk 3 (pc' := 13) (L' := [some (.ref 0), some (.int (iz 3)), some (.int (iz 2)), some (.int (iz 2)), some (.int (iz 4)), some (.int (iz 1))]) (st' := [.int (iz 3), .int (iz 1)]) (h' := cmH z zl (uf f 22 od) fl tx) rfl ?_
  refine Rx.ge2 rfl rfl ⟨by omega, by omega⟩ ⟨by omega, by omega⟩ (fun b25 => by omega) (fun b25 => ?_)
  refine Rx.walk 2 (pc' := 19) (L' := [some (.ref 0), some (.int (iz 3)), some (.int (iz 2)), some (.int (iz 2)), some (.int (iz 4)), some (.int (iz 1))]) (st' := [.int (iz 2), .int (iz 4)]) (h' := cmH z zl (uf f 22 od) fl tx) rfl ?_
  refine Rx.callx (m' := m_X12_has) (as := [.int (iz 4), .int (iz 2)]) (rest := []) rfl (n_has_4_2 _ (cmH z zl (uf f 22 od) fl tx)   ) (fun v26 h27 q28 => ?_)
  obtain ⟨rfl, rfl⟩ := q28
  refine Rx.walk 0 (pc' := 22) (L' := [some (.ref 0), some (.int (iz 3)), some (.int (iz 2)), some (.int (iz 2)), some (.int (iz 4)), some (.int (iz 1))]) (st' := [.int (iz 1)]) (h' := cmH z zl (uf f 22 od) fl tx) rfl ?_
  refine Rx.ne1 rfl rfl ⟨by omega, by omega⟩ (fun b29 => ?_) (fun b29 => by omega)
  refine Rx.walk 3 (pc' := 40) (L' := [some (.ref 0), some (.int (iz 3)), some (.int (iz 2)), some (.int (iz 2)), some (.int (iz 4)), some (.int (iz 1))]) (st' := [.int (iz 2), .int (iz 4), .int (iz 2)]) (h' := cmH z zl (uf f 22 od) fl tx) rfl ?_
  refine Rx.callx (m' := m_X12_has) (as := [.int (iz 4), .int (iz 2)]) (rest := [.int (iz 2)]) rfl (n_has_4_2 _ (cmH z zl (uf f 22 od) fl tx)   ) (fun v30 h31 q32 => ?_)
  obtain ⟨rfl, rfl⟩ := q32
  refine Rx.walk 0 (pc' := 43) (L' := [some (.ref 0), some (.int (iz 3)), some (.int (iz 2)), some (.int (iz 2)), some (.int (iz 4)), some (.int (iz 1))]) (st' := [.int (iz 1), .int (iz 2)]) (h' := cmH z zl (uf f 22 od) fl tx) rfl ?_
  refine Rx.eq1 rfl rfl ⟨by omega, by omega⟩ (fun b33 => by omega) (fun b33 => ?_)
  refine Rx.walk 2 (pc' := 51) (L' := [some (.ref 0), some (.int (iz 3)), some (.int (iz 2)), some (.int (iz 2)), some (.int (iz 4)), some (.int (iz 1))]) (st' := [.int (iz 0), .int (iz 2)]) (h' := cmH z zl (uf f 22 od) fl tx) rfl ?_
  refine Rx.iadd rfl ?_
  refine Rx.walk 0 (pc' := 52) (L' := [some (.ref 0), some (.int (iz 3)), some (.int (iz 2)), some (.int (iz 2)), some (.int (iz 4)), some (.int (iz 1))]) (st' := [.int (iz 2)]) (h' := cmH z zl (uf f 22 od) fl tx) rfl ?_
  refine Rx.walk 3 (pc' := 55) (L' := [some (.ref 0), some (.int (iz 3)), some (.int (iz 2)), some (.int (iz 2)), some (.int (iz 4)), some (.int (iz 1))]) (st' := [.int (iz 1), .int (iz 2)]) (h' := cmH z zl (uf f 22 od) fl tx) rfl ?_
  refine Rx.iadd rfl ?_
  refine Rx.walk 0 (pc' := 56) (L' := [some (.ref 0), some (.int (iz 3)), some (.int (iz 2)), some (.int (iz 2)), some (.int (iz 4)), some (.int (iz 1))]) (st' := [.int (iz 3)]) (h' := cmH z zl (uf f 22 od) fl tx) rfl ?_
  refine Rx.walk 1 (pc' := 57) (L' := [some (.ref 0), some (.int (iz 3)), some (.int (iz 2)), some (.int (iz 2)), some (.int (iz 4)), some (.int (iz 1))]) (st' := [.int (iz 3), .int (iz 3)]) (h' := cmH z zl (uf f 22 od) fl tx) rfl ?_
  refine Rx.irem rfl ⟨by omega, by omega⟩ ⟨by omega, by omega⟩ (by omega) (by omega) ?_
  refine Rx.walk 4 (pc' := 19) (L' := [some (.ref 0), some (.int (iz 3)), some (.int (iz 2)), some (.int (iz 0)), some (.int (iz 4)), some (.int (iz 1))]) (st' := [.int (iz 0), .int (iz 4)]) (h' := cmH z zl (uf f 22 od) fl tx) rfl ?_
  refine Rx.callx (m' := m_X12_has) (as := [.int (iz 4), .int (iz 0)]) (rest := []) rfl (n_has_4_0 _ (cmH z zl (uf f 22 od) fl tx)   ) (fun v34 h35 q36 => ?_)
  obtain ⟨rfl, rfl⟩ := q36
  refine Rx.walk 0 (pc' := 22) (L' := [some (.ref 0), some (.int (iz 3)), some (.int (iz 2)), some (.int (iz 0)), some (.int (iz 4)), some (.int (iz 1))]) (st' := [.int (iz 0)]) (h' := cmH z zl (uf f 22 od) fl tx) rfl ?_
  refine Rx.ne1 rfl rfl ⟨by omega, by omega⟩ (fun b37 => by omega) (fun b37 => ?_)
  refine Rx.walk 4 (pc' := 32) (L' := [some (.ref 0), some (.int (iz 3)), some (.int (iz 2)), some (.int (iz 0)), some (.int (iz 4)), some (.int (iz 1))]) (st' := [.int (iz 1), .ref 22, .int (iz 0)]) (h' := cmH z zl (uf f 22 od) fl tx) rfl ?_
  refine Rx.ial (g := od) rfl rfl (by omega) (by omega) (by omega) ?_
  rw [show (od 1) = 0 from h1]
  refine Rx.eq2 rfl rfl ⟨by omega, by omega⟩ ⟨by omega, by omega⟩ (fun b38 => ?_) (fun b38 => by omega)
  refine Rx.walk 3 (pc' := 66) (L' := [some (.ref 0), some (.int (iz 3)), some (.int (iz 2)), some (.int (iz 0)), some (.int (iz 4)), some (.int (iz 1))]) (st' := [.int (iz 0), .int (iz 1), .int (iz 4)]) (h' := cmH z zl (uf f 22 od) fl tx) rfl ?_
  refine Rx.ishl (c := 1) rfl (by decide) ?_
  refine Rx.ior (c := 5) rfl (by decide) ?_
  refine Rx.walk 1 (pc' := 70) (L' := [some (.ref 0), some (.int (iz 3)), some (.int (iz 2)), some (.int (iz 0)), some (.int (iz 5)), some (.int (iz 1))]) (st' := []) (h' := cmH z zl (uf f 22 od) fl tx) rfl ?_
  refine Rx.iinc (b := 1) rfl rfl rfl ?_
  refine Rx.walk 0 (pc' := 73) (L' := [some (.ref 0), some (.int (iz 3)), some (.int (iz 2)), some (.int (iz 0)), some (.int (iz 5)), some (.int (iz 2))]) (st' := []) (h' := cmH z zl (uf f 22 od) fl tx) rfl ?_
  refine Rx.walk 3 (pc' := 13) (L' := [some (.ref 0), some (.int (iz 3)), some (.int (iz 2)), some (.int (iz 0)), some (.int (iz 5)), some (.int (iz 2))]) (st' := [.int (iz 3), .int (iz 2)]) (h' := cmH z zl (uf f 22 od) fl tx) rfl ?_
  refine Rx.ge2 rfl rfl ⟨by omega, by omega⟩ ⟨by omega, by omega⟩ (fun b39 => by omega) (fun b39 => ?_)
  refine Rx.walk 2 (pc' := 19) (L' := [some (.ref 0), some (.int (iz 3)), some (.int (iz 2)), some (.int (iz 0)), some (.int (iz 5)), some (.int (iz 2))]) (st' := [.int (iz 0), .int (iz 5)]) (h' := cmH z zl (uf f 22 od) fl tx) rfl ?_
  refine Rx.callx (m' := m_X12_has) (as := [.int (iz 5), .int (iz 0)]) (rest := []) rfl (n_has_5_0 _ (cmH z zl (uf f 22 od) fl tx)   ) (fun v40 h41 q42 => ?_)
  obtain ⟨rfl, rfl⟩ := q42
  refine Rx.walk 0 (pc' := 22) (L' := [some (.ref 0), some (.int (iz 3)), some (.int (iz 2)), some (.int (iz 0)), some (.int (iz 5)), some (.int (iz 2))]) (st' := [.int (iz 1)]) (h' := cmH z zl (uf f 22 od) fl tx) rfl ?_
  refine Rx.ne1 rfl rfl ⟨by omega, by omega⟩ (fun b43 => ?_) (fun b43 => by omega)
  refine Rx.walk 3 (pc' := 40) (L' := [some (.ref 0), some (.int (iz 3)), some (.int (iz 2)), some (.int (iz 0)), some (.int (iz 5)), some (.int (iz 2))]) (st' := [.int (iz 0), .int (iz 5), .int (iz 2)]) (h' := cmH z zl (uf f 22 od) fl tx) rfl ?_
  refine Rx.callx (m' := m_X12_has) (as := [.int (iz 5), .int (iz 0)]) (rest := [.int (iz 2)]) rfl (n_has_5_0 _ (cmH z zl (uf f 22 od) fl tx)   ) (fun v44 h45 q46 => ?_)
  obtain ⟨rfl, rfl⟩ := q46
  refine Rx.walk 0 (pc' := 43) (L' := [some (.ref 0), some (.int (iz 3)), some (.int (iz 2)), some (.int (iz 0)), some (.int (iz 5)), some (.int (iz 2))]) (st' := [.int (iz 1), .int (iz 2)]) (h' := cmH z zl (uf f 22 od) fl tx) rfl ?_
  refine Rx.eq1 rfl rfl ⟨by omega, by omega⟩ (fun b47 => by omega) (fun b47 => ?_)
  refine Rx.walk 2 (pc' := 51) (L' := [some (.ref 0), some (.int (iz 3)), some (.int (iz 2)), some (.int (iz 0)), some (.int (iz 5)), some (.int (iz 2))]) (st' := [.int (iz 0), .int (iz 2)]) (h' := cmH z zl (uf f 22 od) fl tx) rfl ?_
  refine Rx.iadd rfl ?_
  refine Rx.walk 0 (pc' := 52) (L' := [some (.ref 0), some (.int (iz 3)), some (.int (iz 2)), some (.int (iz 0)), some (.int (iz 5)), some (.int (iz 2))]) (st' := [.int (iz 2)]) (h' := cmH z zl (uf f 22 od) fl tx) rfl ?_
  refine Rx.walk 3 (pc' := 55) (L' := [some (.ref 0), some (.int (iz 3)), some (.int (iz 2)), some (.int (iz 0)), some (.int (iz 5)), some (.int (iz 2))]) (st' := [.int (iz 1), .int (iz 0)]) (h' := cmH z zl (uf f 22 od) fl tx) rfl ?_
  refine Rx.iadd rfl ?_
  refine Rx.walk 0 (pc' := 56) (L' := [some (.ref 0), some (.int (iz 3)), some (.int (iz 2)), some (.int (iz 0)), some (.int (iz 5)), some (.int (iz 2))]) (st' := [.int (iz 1)]) (h' := cmH z zl (uf f 22 od) fl tx) rfl ?_
  refine Rx.walk 1 (pc' := 57) (L' := [some (.ref 0), some (.int (iz 3)), some (.int (iz 2)), some (.int (iz 0)), some (.int (iz 5)), some (.int (iz 2))]) (st' := [.int (iz 3), .int (iz 1)]) (h' := cmH z zl (uf f 22 od) fl tx) rfl ?_
  refine Rx.irem rfl ⟨by omega, by omega⟩ ⟨by omega, by omega⟩ (by omega) (by omega) ?_
  refine Rx.walk 4 (pc' := 19) (L' := [some (.ref 0), some (.int (iz 3)), some (.int (iz 2)), some (.int (iz 1)), some (.int (iz 5)), some (.int (iz 2))]) (st' := [.int (iz 1), .int (iz 5)]) (h' := cmH z zl (uf f 22 od) fl tx) rfl ?_
  refine Rx.callx (m' := m_X12_has) (as := [.int (iz 5), .int (iz 1)]) (rest := []) rfl (n_has_5_1 _ (cmH z zl (uf f 22 od) fl tx)   ) (fun v48 h49 q50 => ?_)
  obtain ⟨rfl, rfl⟩ := q50
  refine Rx.walk 0 (pc' := 22) (L' := [some (.ref 0), some (.int (iz 3)), some (.int (iz 2)), some (.int (iz 1)), some (.int (iz 5)), some (.int (iz 2))]) (st' := [.int (iz 0)]) (h' := cmH z zl (uf f 22 od) fl tx) rfl ?_
  refine Rx.ne1 rfl rfl ⟨by omega, by omega⟩ (fun b51 => by omega) (fun b51 => ?_)
  refine Rx.walk 4 (pc' := 32) (L' := [some (.ref 0), some (.int (iz 3)), some (.int (iz 2)), some (.int (iz 1)), some (.int (iz 5)), some (.int (iz 2))]) (st' := [.int (iz 2), .ref 22, .int (iz 1)]) (h' := cmH z zl (uf f 22 od) fl tx) rfl ?_
  refine Rx.ial (g := od) rfl rfl (by omega) (by omega) (by omega) ?_
  rw [show (od 2) = 1 from h2]
  refine Rx.eq2 rfl rfl ⟨by omega, by omega⟩ ⟨by omega, by omega⟩ (fun b52 => ?_) (fun b52 => by omega)
  refine Rx.walk 3 (pc' := 66) (L' := [some (.ref 0), some (.int (iz 3)), some (.int (iz 2)), some (.int (iz 1)), some (.int (iz 5)), some (.int (iz 2))]) (st' := [.int (iz 1), .int (iz 1), .int (iz 5)]) (h' := cmH z zl (uf f 22 od) fl tx) rfl ?_
  refine Rx.ishl (c := 2) rfl (by decide) ?_
  refine Rx.ior (c := 7) rfl (by decide) ?_
  refine Rx.walk 1 (pc' := 70) (L' := [some (.ref 0), some (.int (iz 3)), some (.int (iz 2)), some (.int (iz 1)), some (.int (iz 7)), some (.int (iz 2))]) (st' := []) (h' := cmH z zl (uf f 22 od) fl tx) rfl ?_
  refine Rx.iinc (b := 1) rfl rfl rfl ?_
  refine Rx.walk 0 (pc' := 73) (L' := [some (.ref 0), some (.int (iz 3)), some (.int (iz 2)), some (.int (iz 1)), some (.int (iz 7)), some (.int (iz 3))]) (st' := []) (h' := cmH z zl (uf f 22 od) fl tx) rfl ?_
  refine Rx.walk 3 (pc' := 13) (L' := [some (.ref 0), some (.int (iz 3)), some (.int (iz 2)), some (.int (iz 1)), some (.int (iz 7)), some (.int (iz 3))]) (st' := [.int (iz 3), .int (iz 3)]) (h' := cmH z zl (uf f 22 od) fl tx) rfl ?_
  refine Rx.ge2 rfl rfl ⟨by omega, by omega⟩ ⟨by omega, by omega⟩ (fun b53 => ?_) (fun b53 => by omega)
  refine Rx.walk 1 (pc' := 77) (L' := [some (.ref 0), some (.int (iz 3)), some (.int (iz 2)), some (.int (iz 1)), some (.int (iz 7)), some (.int (iz 3))]) (st' := [.int (iz 2)]) (h' := cmH z zl (uf f 22 od) fl tx) rfl ?_
  refine Rx.ret rfl ?_
  exact ⟨rfl, rfl⟩
set_option maxRecDepth 100000 in
set_option maxHeartbeats 4000000 in
theorem n_has_4_1 (d : Nat) (h0 : AmH)   : Rx (d) m_X12_has 0 (am_ent [.int (iz 4), .int (iz 1)] 2) [] (h0) (fun rv h => rv = some (.int (iz 0)) ∧ h0 = h) := ⟨_, _, ⟨100, rfl⟩, rfl, rfl⟩
set_option maxRecDepth 100000 in
set_option maxHeartbeats 4000000 in
theorem n_has_6_1 (d : Nat) (h0 : AmH)   : Rx (d) m_X12_has 0 (am_ent [.int (iz 6), .int (iz 1)] 2) [] (h0) (fun rv h => rv = some (.int (iz 1)) ∧ h0 = h) := ⟨_, _, ⟨100, rfl⟩, rfl, rfl⟩
set_option maxRecDepth 100000 in
set_option maxHeartbeats 4000000 in
theorem m_stepsOf3_5 (d : Nat) (z : Nat → Int) (zl : Nat → Int) (f : Nat → Int → Int) (fl : Nat → Int → Int) (tx : Nat)  (od : Int → Int) (h0 : od 0 = 2) (h1 : od 1 = 1) (h2 : od 2 = 0) : Rx (d + 1) m_X12_stepsOf 0 (am_ent [.ref 0, .int (iz 3)] 6) [] (cmH z zl (uf f 22 od) fl tx) (fun rv h => rv = some (.int (iz 3)) ∧ h = cmH z zl (uf f 22 od) fl tx) := by
  refine Rx.walk 0 (pc' := 0) (L' := [some (.ref 0), some (.int (iz 3)), none, none, none, none]) (st' := []) (h' := cmH z zl (uf f 22 od) fl tx) rfl ?_
  refine Rx.walk 10 (pc' := 13) (L' := [some (.ref 0), some (.int (iz 3)), some (.int (iz 0)), some (.int (iz 0)), some (.int (iz 0)), some (.int (iz 0))]) (st' := [.int (iz 3), .int (iz 0)]) (h' := cmH z zl (uf f 22 od) fl tx) rfl ?_
  refine Rx.ge2 rfl rfl ⟨by omega, by omega⟩ ⟨by omega, by omega⟩ (fun b1 => by omega) (fun b1 => ?_)
  refine Rx.walk 2 (pc' := 19) (L' := [some (.ref 0), some (.int (iz 3)), some (.int (iz 0)), some (.int (iz 0)), some (.int (iz 0)), some (.int (iz 0))]) (st' := [.int (iz 0), .int (iz 0)]) (h' := cmH z zl (uf f 22 od) fl tx) rfl ?_
  refine Rx.callx (m' := m_X12_has) (as := [.int (iz 0), .int (iz 0)]) (rest := []) rfl (n_has_0_0 _ (cmH z zl (uf f 22 od) fl tx)   ) (fun v2 h3 q4 => ?_)
  obtain ⟨rfl, rfl⟩ := q4
  refine Rx.walk 0 (pc' := 22) (L' := [some (.ref 0), some (.int (iz 3)), some (.int (iz 0)), some (.int (iz 0)), some (.int (iz 0)), some (.int (iz 0))]) (st' := [.int (iz 0)]) (h' := cmH z zl (uf f 22 od) fl tx) rfl ?_
  refine Rx.ne1 rfl rfl ⟨by omega, by omega⟩ (fun b5 => by omega) (fun b5 => ?_)
  refine Rx.walk 4 (pc' := 32) (L' := [some (.ref 0), some (.int (iz 3)), some (.int (iz 0)), some (.int (iz 0)), some (.int (iz 0)), some (.int (iz 0))]) (st' := [.int (iz 0), .ref 22, .int (iz 0)]) (h' := cmH z zl (uf f 22 od) fl tx) rfl ?_
  refine Rx.ial (g := od) rfl rfl (by omega) (by omega) (by omega) ?_
  rw [show (od 0) = 2 from h0]
  refine Rx.eq2 rfl rfl ⟨by omega, by omega⟩ ⟨by omega, by omega⟩ (fun b6 => by omega) (fun b6 => ?_)
  refine Rx.walk 3 (pc' := 40) (L' := [some (.ref 0), some (.int (iz 3)), some (.int (iz 0)), some (.int (iz 0)), some (.int (iz 0)), some (.int (iz 0))]) (st' := [.int (iz 0), .int (iz 0), .int (iz 0)]) (h' := cmH z zl (uf f 22 od) fl tx) rfl ?_
  refine Rx.callx (m' := m_X12_has) (as := [.int (iz 0), .int (iz 0)]) (rest := [.int (iz 0)]) rfl (n_has_0_0 _ (cmH z zl (uf f 22 od) fl tx)   ) (fun v7 h8 q9 => ?_)
  obtain ⟨rfl, rfl⟩ := q9
  refine Rx.walk 0 (pc' := 43) (L' := [some (.ref 0), some (.int (iz 3)), some (.int (iz 0)), some (.int (iz 0)), some (.int (iz 0)), some (.int (iz 0))]) (st' := [.int (iz 0), .int (iz 0)]) (h' := cmH z zl (uf f 22 od) fl tx) rfl ?_
  refine Rx.eq1 rfl rfl ⟨by omega, by omega⟩ (fun b10 => ?_) (fun b10 => by omega)
  refine Rx.walk 1 (pc' := 51) (L' := [some (.ref 0), some (.int (iz 3)), some (.int (iz 0)), some (.int (iz 0)), some (.int (iz 0)), some (.int (iz 0))]) (st' := [.int (iz 1), .int (iz 0)]) (h' := cmH z zl (uf f 22 od) fl tx) rfl ?_
  refine Rx.iadd rfl ?_
  refine Rx.walk 0 (pc' := 52) (L' := [some (.ref 0), some (.int (iz 3)), some (.int (iz 0)), some (.int (iz 0)), some (.int (iz 0)), some (.int (iz 0))]) (st' := [.int (iz 1)]) (h' := cmH z zl (uf f 22 od) fl tx) rfl ?_
  refine Rx.walk 3 (pc' := 55) (L' := [some (.ref 0), some (.int (iz 3)), some (.int (iz 1)), some (.int (iz 0)), some (.int (iz 0)), some (.int (iz 0))]) (st' := [.int (iz 1), .int (iz 0)]) (h' := cmH z zl (uf f 22 od) fl tx) rfl ?_
  refine Rx.iadd rfl ?_
  refine Rx.walk 0 (pc' := 56) (L' := [some (.ref 0), some (.int (iz 3)), some (.int (iz 1)), some (.int (iz 0)), some (.int (iz 0)), some (.int (iz 0))]) (st' := [.int (iz 1)]) (h' := cmH z zl (uf f 22 od) fl tx) rfl ?_
  refine Rx.walk 1 (pc' := 57) (L' := [some (.ref 0), some (.int (iz 3)), some (.int (iz 1)), some (.int (iz 0)), some (.int (iz 0)), some (.int (iz 0))]) (st' := [.int (iz 3), .int (iz 1)]) (h' := cmH z zl (uf f 22 od) fl tx) rfl ?_
  refine Rx.irem rfl ⟨by omega, by omega⟩ ⟨by omega, by omega⟩ (by omega) (by omega) ?_
  refine Rx.walk 4 (pc' := 19) (L' := [some (.ref 0), some (.int (iz 3)), some (.int (iz 1)), some (.int (iz 1)), some (.int (iz 0)), some (.int (iz 0))]) (st' := [.int (iz 1), .int (iz 0)]) (h' := cmH z zl (uf f 22 od) fl tx) rfl ?_
  refine Rx.callx (m' := m_X12_has) (as := [.int (iz 0), .int (iz 1)]) (rest := []) rfl (n_has_0_1 _ (cmH z zl (uf f 22 od) fl tx)   ) (fun v11 h12 q13 => ?_)
  obtain ⟨rfl, rfl⟩ := q13
  refine Rx.walk 0 (pc' := 22) (L' := [some (.ref 0), some (.int (iz 3)), some (.int (iz 1)), some (.int (iz 1)), some (.int (iz 0)), some (.int (iz 0))]) (st' := [.int (iz 0)]) (h' := cmH z zl (uf f 22 od) fl tx) rfl ?_
  refine Rx.ne1 rfl rfl ⟨by omega, by omega⟩ (fun b14 => by omega) (fun b14 => ?_)
  refine Rx.walk 4 (pc' := 32) (L' := [some (.ref 0), some (.int (iz 3)), some (.int (iz 1)), some (.int (iz 1)), some (.int (iz 0)), some (.int (iz 0))]) (st' := [.int (iz 0), .ref 22, .int (iz 1)]) (h' := cmH z zl (uf f 22 od) fl tx) rfl ?_
  refine Rx.ial (g := od) rfl rfl (by omega) (by omega) (by omega) ?_
  rw [show (od 0) = 2 from h0]
  refine Rx.eq2 rfl rfl ⟨by omega, by omega⟩ ⟨by omega, by omega⟩ (fun b15 => by omega) (fun b15 => ?_)
  refine Rx.walk 3 (pc' := 40) (L' := [some (.ref 0), some (.int (iz 3)), some (.int (iz 1)), some (.int (iz 1)), some (.int (iz 0)), some (.int (iz 0))]) (st' := [.int (iz 1), .int (iz 0), .int (iz 1)]) (h' := cmH z zl (uf f 22 od) fl tx) rfl ?_
  refine Rx.callx (m' := m_X12_has) (as := [.int (iz 0), .int (iz 1)]) (rest := [.int (iz 1)]) rfl (n_has_0_1 _ (cmH z zl (uf f 22 od) fl tx)   ) (fun v16 h17 q18 => ?_)
  obtain ⟨rfl, rfl⟩ := q18
  refine Rx.walk 0 (pc' := 43) (L' := [some (.ref 0), some (.int (iz 3)), some (.int (iz 1)), some (.int (iz 1)), some (.int (iz 0)), some (.int (iz 0))]) (st' := [.int (iz 0), .int (iz 1)]) (h' := cmH z zl (uf f 22 od) fl tx) rfl ?_
  refine Rx.eq1 rfl rfl ⟨by omega, by omega⟩ (fun b19 => ?_) (fun b19 => by omega)
  refine Rx.walk 1 (pc' := 51) (L' := [some (.ref 0), some (.int (iz 3)), some (.int (iz 1)), some (.int (iz 1)), some (.int (iz 0)), some (.int (iz 0))]) (st' := [.int (iz 1), .int (iz 1)]) (h' := cmH z zl (uf f 22 od) fl tx) rfl ?_
  refine Rx.iadd rfl ?_
  refine Rx.walk 0 (pc' := 52) (L' := [some (.ref 0), some (.int (iz 3)), some (.int (iz 1)), some (.int (iz 1)), some (.int (iz 0)), some (.int (iz 0))]) (st' := [.int (iz 2)]) (h' := cmH z zl (uf f 22 od) fl tx) rfl ?_
  refine Rx.walk 3 (pc' := 55) (L' := [some (.ref 0), some (.int (iz 3)), some (.int (iz 2)), some (.int (iz 1)), some (.int (iz 0)), some (.int (iz 0))]) (st' := [.int (iz 1), .int (iz 1)]) (h' := cmH z zl (uf f 22 od) fl tx) rfl ?_
  refine Rx.iadd rfl ?_
  refine Rx.walk 0 (pc' := 56) (L' := [some (.ref 0), some (.int (iz 3)), some (.int (iz 2)), some (.int (iz 1)), some (.int (iz 0)), some (.int (iz 0))]) (st' := [.int (iz 2)]) (h' := cmH z zl (uf f 22 od) fl tx) rfl ?_
  refine Rx.walk 1 (pc' := 57) (L' := [some (.ref 0), some (.int (iz 3)), some (.int (iz 2)), some (.int (iz 1)), some (.int (iz 0)), some (.int (iz 0))]) (st' := [.int (iz 3), .int (iz 2)]) (h' := cmH z zl (uf f 22 od) fl tx) rfl ?_
  refine Rx.irem rfl ⟨by omega, by omega⟩ ⟨by omega, by omega⟩ (by omega) (by omega) ?_
  refine Rx.walk 4 (pc' := 19) (L' := [some (.ref 0), some (.int (iz 3)), some (.int (iz 2)), some (.int (iz 2)), some (.int (iz 0)), some (.int (iz 0))]) (st' := [.int (iz 2), .int (iz 0)]) (h' := cmH z zl (uf f 22 od) fl tx) rfl ?_
  refine Rx.callx (m' := m_X12_has) (as := [.int (iz 0), .int (iz 2)]) (rest := []) rfl (n_has_0_2 _ (cmH z zl (uf f 22 od) fl tx)   ) (fun v20 h21 q22 => ?_)
  obtain ⟨rfl, rfl⟩ := q22
  refine Rx.walk 0 (pc' := 22) (L' := [some (.ref 0), some (.int (iz 3)), some (.int (iz 2)), some (.int (iz 2)), some (.int (iz 0)), some (.int (iz 0))]) (st' := [.int (iz 0)]) (h' := cmH z zl (uf f 22 od) fl tx) rfl ?_
  refine Rx.ne1 rfl rfl ⟨by omega, by omega⟩ (fun b23 => by omega) (fun b23 => ?_)
  refine Rx.walk 4 (pc' := 32) (L' := [some (.ref 0), some (.int (iz 3)), some (.int (iz 2)), some (.int (iz 2)), some (.int (iz 0)), some (.int (iz 0))]) (st' := [.int (iz 0), .ref 22, .int (iz 2)]) (h' := cmH z zl (uf f 22 od) fl tx) rfl ?_
  refine Rx.ial (g := od) rfl rfl (by omega) (by omega) (by omega) ?_
  rw [show (od 0) = 2 from h0]
  refine Rx.eq2 rfl rfl ⟨by omega, by omega⟩ ⟨by omega, by omega⟩ (fun b24 => ?_) (fun b24 => by omega)
  refine Rx.walk 3 (pc' := 66) (L' := [some (.ref 0), some (.int (iz 3)), some (.int (iz 2)), some (.int (iz 2)), some (.int (iz 0)), some (.int (iz 0))]) (st' := [.int (iz 2), .int (iz 1), .int (iz 0)]) (h' := cmH z zl (uf f 22 od) fl tx) rfl ?_
  refine Rx.ishl (c := 4) rfl (by decide) ?_
  refine Rx.ior (c := 4) rfl (by decide) ?_
  refine Rx.walk 1 (pc' := 70) (L' := [some (.ref 0), some (.int (iz 3)), some (.int (iz 2)), some (.int (iz 2)), some (.int (iz 4)), some (.int (iz 0))]) (st' := []) (h' := cmH z zl (uf f 22 od) fl tx) rfl ?_
  refine Rx.iinc (b := 1) rfl rfl rfl ?_
  refine Rx.walk 0 (pc' := 73) (L' := [some (.ref 0), some (.int (iz 3)), some (.int (iz 2)), some (.int (iz 2)), some (.int (iz 4)), some (.int (iz 1))]) (st' := []) (h' := cmH z zl (uf f 22 od) fl tx) rfl ?_
  refine Rx.walk 3 (pc' := 13) (L' := [some (.ref 0), some (.int (iz 3)), some (.int (iz 2)), some (.int (iz 2)), some (.int (iz 4)), some (.int (iz 1))]) (st' := [.int (iz 3), .int (iz 1)]) (h' := cmH z zl (uf f 22 od) fl tx) rfl ?_
  refine Rx.ge2 rfl rfl ⟨by omega, by omega⟩ ⟨by omega, by omega⟩ (fun b25 => by omega) (fun b25 => ?_)
  refine Rx.walk 2 (pc' := 19) (L' := [some (.ref 0), some (.int (iz 3)), some (.int (iz 2)), some (.int (iz 2)), some (.int (iz 4)), some (.int (iz 1))]) (st' := [.int (iz 2), .int (iz 4)]) (h' := cmH z zl (uf f 22 od) fl tx) rfl ?_
  refine Rx.callx (m' := m_X12_has) (as := [.int (iz 4), .int (iz 2)]) (rest := []) rfl (n_has_4_2 _ (cmH z zl (uf f 22 od) fl tx)   ) (fun v26 h27 q28 => ?_)
  obtain ⟨rfl, rfl⟩ := q28
  refine Rx.walk 0 (pc' := 22) (L' := [some (.ref 0), some (.int (iz 3)), some (.int (iz 2)), some (.int (iz 2)), some (.int (iz 4)), some (.int (iz 1))]) (st' := [.int (iz 1)]) (h' := cmH z zl (uf f 22 od) fl tx) rfl ?_
  refine Rx.ne1 rfl rfl ⟨by omega, by omega⟩ (fun b29 => ?_) (fun b29 => by omega)
  refine Rx.walk 3 (pc' := 40) (L' := [some (.ref 0), some (.int (iz 3)), some (.int (iz 2)), some (.int (iz 2)), some (.int (iz 4)), some (.int (iz 1))]) (st' := [.int (iz 2), .int (iz 4), .int (iz 2)]) (h' := cmH z zl (uf f 22 od) fl tx) rfl ?_
  refine Rx.callx (m' := m_X12_has) (as := [.int (iz 4), .int (iz 2)]) (rest := [.int (iz 2)]) rfl (n_has_4_2 _ (cmH z zl (uf f 22 od) fl tx)   ) (fun v30 h31 q32 => ?_)
  obtain ⟨rfl, rfl⟩ := q32
  refine Rx.walk 0 (pc' := 43) (L' := [some (.ref 0), some (.int (iz 3)), some (.int (iz 2)), some (.int (iz 2)), some (.int (iz 4)), some (.int (iz 1))]) (st' := [.int (iz 1), .int (iz 2)]) (h' := cmH z zl (uf f 22 od) fl tx) rfl ?_
  refine Rx.eq1 rfl rfl ⟨by omega, by omega⟩ (fun b33 => by omega) (fun b33 => ?_)
  refine Rx.walk 2 (pc' := 51) (L' := [some (.ref 0), some (.int (iz 3)), some (.int (iz 2)), some (.int (iz 2)), some (.int (iz 4)), some (.int (iz 1))]) (st' := [.int (iz 0), .int (iz 2)]) (h' := cmH z zl (uf f 22 od) fl tx) rfl ?_
  refine Rx.iadd rfl ?_
  refine Rx.walk 0 (pc' := 52) (L' := [some (.ref 0), some (.int (iz 3)), some (.int (iz 2)), some (.int (iz 2)), some (.int (iz 4)), some (.int (iz 1))]) (st' := [.int (iz 2)]) (h' := cmH z zl (uf f 22 od) fl tx) rfl ?_
  refine Rx.walk 3 (pc' := 55) (L' := [some (.ref 0), some (.int (iz 3)), some (.int (iz 2)), some (.int (iz 2)), some (.int (iz 4)), some (.int (iz 1))]) (st' := [.int (iz 1), .int (iz 2)]) (h' := cmH z zl (uf f 22 od) fl tx) rfl ?_
  refine Rx.iadd rfl ?_
  refine Rx.walk 0 (pc' := 56) (L' := [some (.ref 0), some (.int (iz 3)), some (.int (iz 2)), some (.int (iz 2)), some (.int (iz 4)), some (.int (iz 1))]) (st' := [.int (iz 3)]) (h' := cmH z zl (uf f 22 od) fl tx) rfl ?_
  refine Rx.walk 1 (pc' := 57) (L' := [some (.ref 0), some (.int (iz 3)), some (.int (iz 2)), some (.int (iz 2)), some (.int (iz 4)), some (.int (iz 1))]) (st' := [.int (iz 3), .int (iz 3)]) (h' := cmH z zl (uf f 22 od) fl tx) rfl ?_
  refine Rx.irem rfl ⟨by omega, by omega⟩ ⟨by omega, by omega⟩ (by omega) (by omega) ?_
  refine Rx.walk 4 (pc' := 19) (L' := [some (.ref 0), some (.int (iz 3)), some (.int (iz 2)), some (.int (iz 0)), some (.int (iz 4)), some (.int (iz 1))]) (st' := [.int (iz 0), .int (iz 4)]) (h' := cmH z zl (uf f 22 od) fl tx) rfl ?_
  refine Rx.callx (m' := m_X12_has) (as := [.int (iz 4), .int (iz 0)]) (rest := []) rfl (n_has_4_0 _ (cmH z zl (uf f 22 od) fl tx)   ) (fun v34 h35 q36 => ?_)
  obtain ⟨rfl, rfl⟩ := q36
  refine Rx.walk 0 (pc' := 22) (L' := [some (.ref 0), some (.int (iz 3)), some (.int (iz 2)), some (.int (iz 0)), some (.int (iz 4)), some (.int (iz 1))]) (st' := [.int (iz 0)]) (h' := cmH z zl (uf f 22 od) fl tx) rfl ?_
  refine Rx.ne1 rfl rfl ⟨by omega, by omega⟩ (fun b37 => by omega) (fun b37 => ?_)
  refine Rx.walk 4 (pc' := 32) (L' := [some (.ref 0), some (.int (iz 3)), some (.int (iz 2)), some (.int (iz 0)), some (.int (iz 4)), some (.int (iz 1))]) (st' := [.int (iz 1), .ref 22, .int (iz 0)]) (h' := cmH z zl (uf f 22 od) fl tx) rfl ?_
  refine Rx.ial (g := od) rfl rfl (by omega) (by omega) (by omega) ?_
  rw [show (od 1) = 1 from h1]
  refine Rx.eq2 rfl rfl ⟨by omega, by omega⟩ ⟨by omega, by omega⟩ (fun b38 => by omega) (fun b38 => ?_)
  refine Rx.walk 3 (pc' := 40) (L' := [some (.ref 0), some (.int (iz 3)), some (.int (iz 2)), some (.int (iz 0)), some (.int (iz 4)), some (.int (iz 1))]) (st' := [.int (iz 0), .int (iz 4), .int (iz 2)]) (h' := cmH z zl (uf f 22 od) fl tx) rfl ?_
  refine Rx.callx (m' := m_X12_has) (as := [.int (iz 4), .int (iz 0)]) (rest := [.int (iz 2)]) rfl (n_has_4_0 _ (cmH z zl (uf f 22 od) fl tx)   ) (fun v39 h40 q41 => ?_)
  obtain ⟨rfl, rfl⟩ := q41
  refine Rx.walk 0 (pc' := 43) (L' := [some (.ref 0), some (.int (iz 3)), some (.int (iz 2)), some (.int (iz 0)), some (.int (iz 4)), some (.int (iz 1))]) (st' := [.int (iz 0), .int (iz 2)]) (h' := cmH z zl (uf f 22 od) fl tx) rfl ?_
  refine Rx.eq1 rfl rfl ⟨by omega, by omega⟩ (fun b42 => ?_) (fun b42 => by omega)
  refine Rx.walk 1 (pc' := 51) (L' := [some (.ref 0), some (.int (iz 3)), some (.int (iz 2)), some (.int (iz 0)), some (.int (iz 4)), some (.int (iz 1))]) (st' := [.int (iz 1), .int (iz 2)]) (h' := cmH z zl (uf f 22 od) fl tx) rfl ?_
  refine Rx.iadd rfl ?_
  refine Rx.walk 0 (pc' := 52) (L' := [some (.ref 0), some (.int (iz 3)), some (.int (iz 2)), some (.int (iz 0)), some (.int (iz 4)), some (.int (iz 1))]) (st' := [.int (iz 3)]) (h' := cmH z zl (uf f 22 od) fl tx) rfl ?_
  refine Rx.walk 3 (pc' := 55) (L' := [some (.ref 0), some (.int (iz 3)), some (.int (iz 3)), some (.int (iz 0)), some (.int (iz 4)), some (.int (iz 1))]) (st' := [.int (iz 1), .int (iz 0)]) (h' := cmH z zl (uf f 22 od) fl tx) rfl ?_
  refine Rx.iadd rfl ?_
  refine Rx.walk 0 (pc' := 56) (L' := [some (.ref 0), some (.int (iz 3)), some (.int (iz 3)), some (.int (iz 0)), some (.int (iz 4)), some (.int (iz 1))]) (st' := [.int (iz 1)]) (h' := cmH z zl (uf f 22 od) fl tx) rfl ?_
  refine Rx.walk 1 (pc' := 57) (L' := [some (.ref 0), some (.int (iz 3)), some (.int (iz 3)), some (.int (iz 0)), some (.int (iz 4)), some (.int (iz 1))]) (st' := [.int (iz 3), .int (iz 1)]) (h' := cmH z zl (uf f 22 od) fl tx) rfl ?_
  refine Rx.irem rfl ⟨by omega, by omega⟩ ⟨by omega, by omega⟩ (by omega) (by omega) ?_
  refine Rx.walk 4 (pc' := 19) (L' := [some (.ref 0), some (.int (iz 3)), some (.int (iz 3)), some (.int (iz 1)), some (.int (iz 4)), some (.int (iz 1))]) (st' := [.int (iz 1), .int (iz 4)]) (h' := cmH z zl (uf f 22 od) fl tx) rfl ?_
  refine Rx.callx (m' := m_X12_has) (as := [.int (iz 4), .int (iz 1)]) (rest := []) rfl (n_has_4_1 _ (cmH z zl (uf f 22 od) fl tx)   ) (fun v43 h44 q45 => ?_)
  obtain ⟨rfl, rfl⟩ := q45
  refine Rx.walk 0 (pc' := 22) (L' := [some (.ref 0), some (.int (iz 3)), some (.int (iz 3)), some (.int (iz 1)), some (.int (iz 4)), some (.int (iz 1))]) (st' := [.int (iz 0)]) (h' := cmH z zl (uf f 22 od) fl tx) rfl ?_
  refine Rx.ne1 rfl rfl ⟨by omega, by omega⟩ (fun b46 => by omega) (fun b46 => ?_)
  refine Rx.walk 4 (pc' := 32) (L' := [some (.ref 0), some (.int (iz 3)), some (.int (iz 3)), some (.int (iz 1)), some (.int (iz 4)), some (.int (iz 1))]) (st' := [.int (iz 1), .ref 22, .int (iz 1)]) (h' := cmH z zl (uf f 22 od) fl tx) rfl ?_
  refine Rx.ial (g := od) rfl rfl (by omega) (by omega) (by omega) ?_
  rw [show (od 1) = 1 from h1]
  refine Rx.eq2 rfl rfl ⟨by omega, by omega⟩ ⟨by omega, by omega⟩ (fun b47 => ?_) (fun b47 => by omega)
  refine Rx.walk 3 (pc' := 66) (L' := [some (.ref 0), some (.int (iz 3)), some (.int (iz 3)), some (.int (iz 1)), some (.int (iz 4)), some (.int (iz 1))]) (st' := [.int (iz 1), .int (iz 1), .int (iz 4)]) (h' := cmH z zl (uf f 22 od) fl tx) rfl ?_
  refine Rx.ishl (c := 2) rfl (by decide) ?_
  refine Rx.ior (c := 6) rfl (by decide) ?_
  refine Rx.walk 1 (pc' := 70) (L' := [some (.ref 0), some (.int (iz 3)), some (.int (iz 3)), some (.int (iz 1)), some (.int (iz 6)), some (.int (iz 1))]) (st' := []) (h' := cmH z zl (uf f 22 od) fl tx) rfl ?_
  refine Rx.iinc (b := 1) rfl rfl rfl ?_
  refine Rx.walk 0 (pc' := 73) (L' := [some (.ref 0), some (.int (iz 3)), some (.int (iz 3)), some (.int (iz 1)), some (.int (iz 6)), some (.int (iz 2))]) (st' := []) (h' := cmH z zl (uf f 22 od) fl tx) rfl ?_
  refine Rx.walk 3 (pc' := 13) (L' := [some (.ref 0), some (.int (iz 3)), some (.int (iz 3)), some (.int (iz 1)), some (.int (iz 6)), some (.int (iz 2))]) (st' := [.int (iz 3), .int (iz 2)]) (h' := cmH z zl (uf f 22 od) fl tx) rfl ?_
  refine Rx.ge2 rfl rfl ⟨by omega, by omega⟩ ⟨by omega, by omega⟩ (fun b48 => by omega) (fun b48 => ?_)
  refine Rx.walk 2 (pc' := 19) (L' := [some (.ref 0), some (.int (iz 3)), some (.int (iz 3)), some (.int (iz 1)), some (.int (iz 6)), some (.int (iz 2))]) (st' := [.int (iz 1), .int (iz 6)]) (h' := cmH z zl (uf f 22 od) fl tx) rfl ?_
  refine Rx.callx (m' := m_X12_has) (as := [.int (iz 6), .int (iz 1)]) (rest := []) rfl (n_has_6_1 _ (cmH z zl (uf f 22 od) fl tx)   ) (fun v49 h50 q51 => ?_)
  obtain ⟨rfl, rfl⟩ := q51
  refine Rx.walk 0 (pc' := 22) (L' := [some (.ref 0), some (.int (iz 3)), some (.int (iz 3)), some (.int (iz 1)), some (.int (iz 6)), some (.int (iz 2))]) (st' := [.int (iz 1)]) (h' := cmH z zl (uf f 22 od) fl tx) rfl ?_
  refine Rx.ne1 rfl rfl ⟨by omega, by omega⟩ (fun b52 => ?_) (fun b52 => by omega)
  refine Rx.walk 3 (pc' := 40) (L' := [some (.ref 0), some (.int (iz 3)), some (.int (iz 3)), some (.int (iz 1)), some (.int (iz 6)), some (.int (iz 2))]) (st' := [.int (iz 1), .int (iz 6), .int (iz 3)]) (h' := cmH z zl (uf f 22 od) fl tx) rfl ?_
  refine Rx.callx (m' := m_X12_has) (as := [.int (iz 6), .int (iz 1)]) (rest := [.int (iz 3)]) rfl (n_has_6_1 _ (cmH z zl (uf f 22 od) fl tx)   ) (fun v53 h54 q55 => ?_)
  obtain ⟨rfl, rfl⟩ := q55
  refine Rx.walk 0 (pc' := 43) (L' := [some (.ref 0), some (.int (iz 3)), some (.int (iz 3)), some (.int (iz 1)), some (.int (iz 6)), some (.int (iz 2))]) (st' := [.int (iz 1), .int (iz 3)]) (h' := cmH z zl (uf f 22 od) fl tx) rfl ?_
  refine Rx.eq1 rfl rfl ⟨by omega, by omega⟩ (fun b56 => by omega) (fun b56 => ?_)
  refine Rx.walk 2 (pc' := 51) (L' := [some (.ref 0), some (.int (iz 3)), some (.int (iz 3)), some (.int (iz 1)), some (.int (iz 6)), some (.int (iz 2))]) (st' := [.int (iz 0), .int (iz 3)]) (h' := cmH z zl (uf f 22 od) fl tx) rfl ?_
  refine Rx.iadd rfl ?_
  refine Rx.walk 0 (pc' := 52) (L' := [some (.ref 0), some (.int (iz 3)), some (.int (iz 3)), some (.int (iz 1)), some (.int (iz 6)), some (.int (iz 2))]) (st' := [.int (iz 3)]) (h' := cmH z zl (uf f 22 od) fl tx) rfl ?_
  refine Rx.walk 3 (pc' := 55) (L' := [some (.ref 0), some (.int (iz 3)), some (.int (iz 3)), some (.int (iz 1)), some (.int (iz 6)), some (.int (iz 2))]) (st' := [.int (iz 1), .int (iz 1)]) (h' := cmH z zl (uf f 22 od) fl tx) rfl ?_
  refine Rx.iadd rfl ?_
  refine Rx.walk 0 (pc' := 56) (L' := [some (.ref 0), some (.int (iz 3)), some (.int (iz 3)), some (.int (iz 1)), some (.int (iz 6)), some (.int (iz 2))]) (st' := [.int (iz 2)]) (h' := cmH z zl (uf f 22 od) fl tx) rfl ?_
  refine Rx.walk 1 (pc' := 57) (L' := [some (.ref 0), some (.int (iz 3)), some (.int (iz 3)), some (.int (iz 1)), some (.int (iz 6)), some (.int (iz 2))]) (st' := [.int (iz 3), .int (iz 2)]) (h' := cmH z zl (uf f 22 od) fl tx) rfl ?_
  refine Rx.irem rfl ⟨by omega, by omega⟩ ⟨by omega, by omega⟩ (by omega) (by omega) ?_
  refine Rx.walk 4 (pc' := 19) (L' := [some (.ref 0), some (.int (iz 3)), some (.int (iz 3)), some (.int (iz 2)), some (.int (iz 6)), some (.int (iz 2))]) (st' := [.int (iz 2), .int (iz 6)]) (h' := cmH z zl (uf f 22 od) fl tx) rfl ?_
  refine Rx.callx (m' := m_X12_has) (as := [.int (iz 6), .int (iz 2)]) (rest := []) rfl (n_has_6_2 _ (cmH z zl (uf f 22 od) fl tx)   ) (fun v57 h58 q59 => ?_)
  obtain ⟨rfl, rfl⟩ := q59
  refine Rx.walk 0 (pc' := 22) (L' := [some (.ref 0), some (.int (iz 3)), some (.int (iz 3)), some (.int (iz 2)), some (.int (iz 6)), some (.int (iz 2))]) (st' := [.int (iz 1)]) (h' := cmH z zl (uf f 22 od) fl tx) rfl ?_
  refine Rx.ne1 rfl rfl ⟨by omega, by omega⟩ (fun b60 => ?_) (fun b60 => by omega)
  refine Rx.walk 3 (pc' := 40) (L' := [some (.ref 0), some (.int (iz 3)), some (.int (iz 3)), some (.int (iz 2)), some (.int (iz 6)), some (.int (iz 2))]) (st' := [.int (iz 2), .int (iz 6), .int (iz 3)]) (h' := cmH z zl (uf f 22 od) fl tx) rfl ?_
  refine Rx.callx (m' := m_X12_has) (as := [.int (iz 6), .int (iz 2)]) (rest := [.int (iz 3)]) rfl (n_has_6_2 _ (cmH z zl (uf f 22 od) fl tx)   ) (fun v61 h62 q63 => ?_)
  obtain ⟨rfl, rfl⟩ := q63
  refine Rx.walk 0 (pc' := 43) (L' := [some (.ref 0), some (.int (iz 3)), some (.int (iz 3)), some (.int (iz 2)), some (.int (iz 6)), some (.int (iz 2))]) (st' := [.int (iz 1), .int (iz 3)]) (h' := cmH z zl (uf f 22 od) fl tx) rfl ?_
  refine Rx.eq1 rfl rfl ⟨by omega, by omega⟩ (fun b64 => by omega) (fun b64 => ?_)
  refine Rx.walk 2 (pc' := 51) (L' := [some (.ref 0), some (.int (iz 3)), some (.int (iz 3)), some (.int (iz 2)), some (.int (iz 6)), some (.int (iz 2))]) (st' := [.int (iz 0), .int (iz 3)]) (h' := cmH z zl (uf f 22 od) fl tx) rfl ?_
  refine Rx.iadd rfl ?_
  refine Rx.walk 0 (pc' := 52) (L' := [some (.ref 0), some (.int (iz 3)), some (.int (iz 3)), some (.int (iz 2)), some (.int (iz 6)), some (.int (iz 2))]) (st' := [.int (iz 3)]) (h' := cmH z zl (uf f 22 od) fl tx) rfl ?_
  refine Rx.walk 3 (pc' := 55) (L' := [some (.ref 0), some (.int (iz 3)), some (.int (iz 3)), some (.int (iz 2)), some (.int (iz 6)), some (.int (iz 2))]) (st' := [.int (iz 1), .int (iz 2)]) (h' := cmH z zl (uf f 22 od) fl tx) rfl ?_
  refine Rx.iadd rfl ?_
  refine Rx.walk 0 (pc' := 56) (L' := [some (.ref 0), some (.int (iz 3)), some (.int (iz 3)), some (.int (iz 2)), some (.int (iz 6)), some (.int (iz 2))]) (st' := [.int (iz 3)]) (h' := cmH z zl (uf f 22 od) fl tx) rfl ?_
  refine Rx.walk 1 (pc' := 57) (L' := [some (.ref 0), some (.int (iz 3)), some (.int (iz 3)), some (.int (iz 2)), some (.int (iz 6)), some (.int (iz 2))]) (st' := [.int (iz 3), .int (iz 3)]) (h' := cmH z zl (uf f 22 od) fl tx) rfl ?_
  refine Rx.irem rfl ⟨by omega, by omega⟩ ⟨by omega, by omega⟩ (by omega) (by omega) ?_
  refine Rx.walk 4 (pc' := 19) (L' := [some (.ref 0), some (.int (iz 3)), some (.int (iz 3)), some (.int (iz 0)), some (.int (iz 6)), some (.int (iz 2))]) (st' := [.int (iz 0), .int (iz 6)]) (h' := cmH z zl (uf f 22 od) fl tx) rfl ?_
  refine Rx.callx (m' := m_X12_has) (as := [.int (iz 6), .int (iz 0)]) (rest := []) rfl (n_has_6_0 _ (cmH z zl (uf f 22 od) fl tx)   ) (fun v65 h66 q67 => ?_)
  obtain ⟨rfl, rfl⟩ := q67
  refine Rx.walk 0 (pc' := 22) (L' := [some (.ref 0), some (.int (iz 3)), some (.int (iz 3)), some (.int (iz 0)), some (.int (iz 6)), some (.int (iz 2))]) (st' := [.int (iz 0)]) (h' := cmH z zl (uf f 22 od) fl tx) rfl ?_
  refine Rx.ne1 rfl rfl ⟨by omega, by omega⟩ (fun b68 => by omega) (fun b68 => ?_)
  refine Rx.walk 4 (pc' := 32) (L' := [some (.ref 0), some (.int (iz 3)), some (.int (iz 3)), some (.int (iz 0)), some (.int (iz 6)), some (.int (iz 2))]) (st' := [.int (iz 2), .ref 22, .int (iz 0)]) (h' := cmH z zl (uf f 22 od) fl tx) rfl ?_
  refine Rx.ial (g := od) rfl rfl (by omega) (by omega) (by omega) ?_
  rw [show (od 2) = 0 from h2]
  refine Rx.eq2 rfl rfl ⟨by omega, by omega⟩ ⟨by omega, by omega⟩ (fun b69 => ?_) (fun b69 => by omega)
  refine Rx.walk 3 (pc' := 66) (L' := [some (.ref 0), some (.int (iz 3)), some (.int (iz 3)), some (.int (iz 0)), some (.int (iz 6)), some (.int (iz 2))]) (st' := [.int (iz 0), .int (iz 1), .int (iz 6)]) (h' := cmH z zl (uf f 22 od) fl tx) rfl ?_
  refine Rx.ishl (c := 1) rfl (by decide) ?_
  refine Rx.ior (c := 7) rfl (by decide) ?_
  refine Rx.walk 1 (pc' := 70) (L' := [some (.ref 0), some (.int (iz 3)), some (.int (iz 3)), some (.int (iz 0)), some (.int (iz 7)), some (.int (iz 2))]) (st' := []) (h' := cmH z zl (uf f 22 od) fl tx) rfl ?_
  refine Rx.iinc (b := 1) rfl rfl rfl ?_
  refine Rx.walk 0 (pc' := 73) (L' := [some (.ref 0), some (.int (iz 3)), some (.int (iz 3)), some (.int (iz 0)), some (.int (iz 7)), some (.int (iz 3))]) (st' := []) (h' := cmH z zl (uf f 22 od) fl tx) rfl ?_
  refine Rx.walk 3 (pc' := 13) (L' := [some (.ref 0), some (.int (iz 3)), some (.int (iz 3)), some (.int (iz 0)), some (.int (iz 7)), some (.int (iz 3))]) (st' := [.int (iz 3), .int (iz 3)]) (h' := cmH z zl (uf f 22 od) fl tx) rfl ?_
  refine Rx.ge2 rfl rfl ⟨by omega, by omega⟩ ⟨by omega, by omega⟩ (fun b70 => ?_) (fun b70 => by omega)
  refine Rx.walk 1 (pc' := 77) (L' := [some (.ref 0), some (.int (iz 3)), some (.int (iz 3)), some (.int (iz 0)), some (.int (iz 7)), some (.int (iz 3))]) (st' := [.int (iz 3)]) (h' := cmH z zl (uf f 22 od) fl tx) rfl ?_
  refine Rx.ret rfl ?_
  exact ⟨rfl, rfl⟩
set_option maxRecDepth 100000 in
set_option maxHeartbeats 4000000 in
theorem n_has_7_2 (d : Nat) (h0 : AmH)   : Rx (d) m_X12_has 0 (am_ent [.int (iz 7), .int (iz 2)] 2) [] (h0) (fun rv h => rv = some (.int (iz 1)) ∧ h0 = h) := ⟨_, _, ⟨100, rfl⟩, rfl, rfl⟩
set_option maxRecDepth 100000 in
set_option maxHeartbeats 4000000 in
theorem n_has_7_3 (d : Nat) (h0 : AmH)   : Rx (d) m_X12_has 0 (am_ent [.int (iz 7), .int (iz 3)] 2) [] (h0) (fun rv h => rv = some (.int (iz 0)) ∧ h0 = h) := ⟨_, _, ⟨100, rfl⟩, rfl, rfl⟩
set_option maxRecDepth 100000 in
set_option maxHeartbeats 4000000 in
theorem m_stepsOf4_0 (d : Nat) (z : Nat → Int) (zl : Nat → Int) (f : Nat → Int → Int) (fl : Nat → Int → Int) (tx : Nat)  (od : Int → Int) (h0 : od 0 = 0) (h1 : od 1 = 1) (h2 : od 2 = 2) (h3 : od 3 = 3) : Rx (d + 1) m_X12_stepsOf 0 (am_ent [.ref 0, .int (iz 4)] 6) [] (cmH z zl (uf f 22 od) fl tx) (fun rv h => rv = some (.int (iz 0)) ∧ h = cmH z zl (uf f 22 od) fl tx) := by
  refine Rx.walk 0 (pc' := 0) (L' := [some (.ref 0), some (.int (iz 4)), none, none, none, none]) (st' := []) (h' := cmH z zl (uf f 22 od) fl tx) rfl ?_
  refine Rx.walk 10 (pc' := 13) (L' := [some (.ref 0), some (.int (iz 4)), some (.int (iz 0)), some (.int (iz 0)), some (.int (iz 0)), some (.int (iz 0))]) (st' := [.int (iz 4), .int (iz 0)]) (h' := cmH z zl (uf f 22 od) fl tx) rfl ?_
  refine Rx.ge2 rfl rfl ⟨by omega, by omega⟩ ⟨by omega, by omega⟩ (fun b1 => by omega) (fun b1 => ?_)
  refine Rx.walk 2 (pc' := 19) (L' := [some (.ref 0), some (.int (iz 4)), some (.int (iz 0)), some (.int (iz 0)), some (.int (iz 0)), some (.int (iz 0))]) (st' := [.int (iz 0), .int (iz 0)]) (h' := cmH z zl (uf f 22 od) fl tx) rfl ?_
  refine Rx.callx (m' := m_X12_has) (as := [.int (iz 0), .int (iz 0)]) (rest := []) rfl (n_has_0_0 _ (cmH z zl (uf f 22 od) fl tx)   ) (fun v2 h3 q4 => ?_)
  obtain ⟨rfl, rfl⟩ := q4
  refine Rx.walk 0 (pc' := 22) (L' := [some (.ref 0), some (.int (iz 4)), some (.int (iz 0)), some (.int (iz 0)), some (.int (iz 0)), some (.int (iz 0))]) (st' := [.int (iz 0)]) (h' := cmH z zl (uf f 22 od) fl tx) rfl ?_
  refine Rx.ne1 rfl rfl ⟨by omega, by omega⟩ (fun b5 => by omega) (fun b5 => ?_)
  refine Rx.walk 4 (pc' := 32) (L' := [some (.ref 0), some (.int (iz 4)), some (.int (iz 0)), some (.int (iz 0)), some (.int (iz 0)), some (.int (iz 0))]) (st' := [.int (iz 0), .ref 22, .int (iz 0)]) (h' := cmH z zl (uf f 22 od) fl tx) rfl ?_
  refine Rx.ial (g := od) rfl rfl (by omega) (by omega) (by omega) ?_
  rw [show (od 0) = 0 from h0]
  refine Rx.eq2 rfl rfl ⟨by omega, by omega⟩ ⟨by omega, by omega⟩ (fun b6 => ?_) (fun b6 => by omega)
  refine Rx.walk 3 (pc' := 66) (L' := [some (.ref 0), some (.int (iz 4)), some (.int (iz 0)), some (.int (iz 0)), some (.int (iz 0)), some (.int (iz 0))]) (st' := [.int (iz 0), .int (iz 1), .int (iz 0)]) (h' := cmH z zl (uf f 22 od) fl tx) rfl ?_
  refine Rx.ishl (c := 1) rfl (by decide) ?_
  refine Rx.ior (c := 1) rfl (by decide) ?_
  refine Rx.walk 1 (pc' := 70) (L' := [some (.ref 0), some (.int (iz 4)), some (.int (iz 0)), some (.int (iz 0)), some (.int (iz 1)), some (.int (iz 0))]) (st' := []) (h' := cmH z zl (uf f 22 od) fl tx) rfl ?_
  refine Rx.iinc (b := 1) rfl rfl rfl ?_
  refine Rx.walk 0 (pc' := 73) (L' := [some (.ref 0), some (.int (iz 4)), some (.int (iz 0)), some (.int (iz 0)), some (.int (iz 1)), some (.int (iz 1))]) (st' := []) (h' := cmH z zl (uf f 22 od) fl tx) rfl ?_
  refine Rx.walk 3 (pc' := 13) (L' := [some (.ref 0), some (.int (iz 4)), some (.int (iz 0)), some (.int (iz 0)), some (.int (iz 1)), some (.int (iz 1))]) (st' := [.int (iz 4), .int (iz 1)]) (h' := cmH z zl (uf f 22 od) fl tx) rfl ?_
  refine Rx.ge2 rfl rfl ⟨by omega, by omega⟩ ⟨by omega, by omega⟩ (fun b7 => by omega) (fun b7 => ?_)
  refine Rx.walk 2 (pc' := 19) (L' := [some (.ref 0), some (.int (iz 4)), some (.int (iz 0)), some (.int (iz 0)), some (.int (iz 1)), some (.int (iz 1))]) (st' := [.int (iz 0), .int (iz 1)]) (h' := cmH z zl (uf f 22 od) fl tx) rfl ?_
  refine Rx.callx (m' := m_X12_has) (as := [.int (iz 1), .int (iz 0)]) (rest := []) rfl (n_has_1_0 _ (cmH z zl (uf f 22 od) fl tx)   ) (fun v8 h9 q10 => ?_)
  obtain ⟨rfl, rfl⟩ := q10
  refine Rx.walk 0 (pc' := 22) (L' := [some (.ref 0), some (.int (iz 4)), some (.int (iz 0)), some (.int (iz 0)), some (.int (iz 1)), some (.int (iz 1))]) (st' := [.int (iz 1)]) (h' := cmH z zl (uf f 22 od) fl tx) rfl ?_
  refine Rx.ne1 rfl rfl ⟨by omega, by omega⟩ (fun b11 => ?_) (fun b11 => by omega)
  refine Rx.walk 3 (pc' := 40) (L' := [some (.ref 0), some (.int (iz 4)), some (.int (iz 0)), some (.int (iz 0)), some (.int (iz 1)), some (.int (iz 1))]) (st' := [.int (iz 0), .int (iz 1), .int (iz 0)]) (h' := cmH z zl (uf f 22 od) fl tx) rfl ?_
  refine Rx.callx (m' := m_X12_has) (as := [.int (iz 1), .int (iz 0)]) (rest := [.int (iz 0)]) rfl (n_has_1_0 _ (cmH z zl (uf f 22 od) fl tx)   ) (fun v12 h13 q14 => ?_)
  obtain ⟨rfl, rfl⟩ := q14
  refine Rx.walk 0 (pc' := 43) (L' := [some (.ref 0), some (.int (iz 4)), some (.int (iz 0)), some (.int (iz 0)), some (.int (iz 1)), some (.int (iz 1))]) (st' := [.int (iz 1), .int (iz 0)]) (h' := cmH z zl (uf f 22 od) fl tx) rfl ?_
  refine Rx.eq1 rfl rfl ⟨by omega, by omega⟩ (fun b15 => by omega) (fun b15 => ?_)
  refine Rx.walk 2 (pc' := 51) (L' := [some (.ref 0), some (.int (iz 4)), some (.int (iz 0)), some (.int (iz 0)), some (.int (iz 1)), some (.int (iz 1))]) (st' := [.int (iz 0), .int (iz 0)]) (h' := cmH z zl (uf f 22 od) fl tx) rfl ?_
  refine Rx.iadd rfl ?_
  refine Rx.walk 0 (pc' := 52) (L' := [some (.ref 0), some (.int (iz 4)), some (.int (iz 0)), some (.int (iz 0)), some (.int (iz 1)), some (.int (iz 1))]) (st' := [.int (iz 0)]) (h' := cmH z zl (uf f 22 od) fl tx) rfl ?_
  refine Rx.walk 3 (pc' := 55) (L' := [some (.ref 0), some (.int (iz 4)), some (.int (iz 0)), some (.int (iz 0)), some (.int (iz 1)), some (.int (iz 1))]) (st' := [.int (iz 1), .int (iz 0)]) (h' := cmH z zl (uf f 22 od) fl tx) rfl ?_
  refine Rx.iadd rfl ?_
  refine Rx.walk 0 (pc' := 56) (L' := [some (.ref 0), some (.int (iz 4)), some (.int (iz 0)), some (.int (iz 0)), some (.int (iz 1)), some (.int (iz 1))]) (st' := [.int (iz 1)]) (h' := cmH z zl (uf f 22 od) fl tx) rfl ?_
  refine Rx.walk 1 (pc' := 57) (L' := [some (.ref 0), some (.int (iz 4)), some (.int (iz 0)), some (.int (iz 0)), some (.int (iz 1)), some (.int (iz 1))]) (st' := [.int (iz 4), .int (iz 1)]) (h' := cmH z zl (uf f 22 od) fl tx) rfl ?_
  refine Rx.irem rfl ⟨by omega, by omega⟩ ⟨by omega, by omega⟩ (by omega) (by omega) ?_
  refine Rx.walk 4 (pc' := 19) (L' := [some (.ref 0), some (.int (iz 4)), some (.int (iz 0)), some (.int (iz 1)), some (.int (iz 1)), some (.int (iz 1))]) (st' := [.int (iz 1), .int (iz 1)]) (h' := cmH z zl (uf f 22 od) fl tx) rfl ?_
  refine Rx.callx (m' := m_X12_has) (as := [.int (iz 1), .int (iz 1)]) (rest := []) rfl (n_has_1_1 _ (cmH z zl (uf f 22 od) fl tx)   ) (fun v16 h17 q18 => ?_)
  obtain ⟨rfl, rfl⟩ := q18
  refine Rx.walk 0 (pc' := 22) (L' := [some (.ref 0), some (.int (iz 4)), some (.int (iz 0)), some (.int (iz 1)), some (.int (iz 1)), some (.int (iz 1))]) (st' := [.int (iz 0)]) (h' := cmH z zl (uf f 22 od) fl tx) rfl ?_
  refine Rx.ne1 rfl rfl ⟨by omega, by omega⟩ (fun b19 => by omega) (fun b19 => ?_)
  refine Rx.walk 4 (pc' := 32) (L' := [some (.ref 0), some (.int (iz 4)), some (.int (iz 0)), some (.int (iz 1)), some (.int (iz 1)), some (.int (iz 1))]) (st' := [.int (iz 1), .ref 22, .int (iz 1)]) (h' := cmH z zl (uf f 22 od) fl tx) rfl ?_
  refine Rx.ial (g := od) rfl rfl (by omega) (by omega) (by omega) ?_
  rw [show (od 1) = 1 from h1]
  refine Rx.eq2 rfl rfl ⟨by omega, by omega⟩ ⟨by omega, by omega⟩ (fun b20 => ?_) (fun b20 => by omega)
  refine Rx.walk 3 (pc' := 66) (L' := [some (.ref 0), some (.int (iz 4)), some (.int (iz 0)), some (.int (iz 1)), some (.int (iz 1)), some (.int (iz 1))]) (st' := [.int (iz 1), .int (iz 1), .int (iz 1)]) (h' := cmH z zl (uf f 22 od) fl tx) rfl ?_
  refine Rx.ishl (c := 2) rfl (by decide) ?_
  refine Rx.ior (c := 3) rfl (by decide) ?_
  refine Rx.walk 1 (pc' := 70) (L' := [some (.ref 0), some (.int (iz 4)), some (.int (iz 0)), some (.int (iz 1)), some (.int (iz 3)), some (.int (iz 1))]) (st' := []) (h' := cmH z zl (uf f 22 od) fl tx) rfl ?_
  refine Rx.iinc (b := 1) rfl rfl rfl ?_
  refine Rx.walk 0 (pc' := 73) (L' := [some (.ref 0), some (.int (iz 4)), some (.int (iz 0)), some (.int (iz 1)), some (.int (iz 3)), some (.int (iz 2))]) (st' := []) (h' := cmH z zl (uf f 22 od) fl tx) rfl ?_
  refine Rx.walk 3 (pc' := 13) (L' := [some (.ref 0), some (.int (iz 4)), some (.int (iz 0)), some (.int (iz 1)), some (.int (iz 3)), some (.int (iz 2))]) (st' := [.int (iz 4), .int (iz 2)]) (h' := cmH z zl (uf f 22 od) fl tx) rfl ?_
  refine Rx.ge2 rfl rfl ⟨by omega, by omega⟩ ⟨by omega, by omega⟩ (fun b21 => by omega) (fun b21 => ?_)
  refine Rx.walk 2 (pc' := 19) (L' := [some (.ref 0), some (.int (iz 4)), some (.int (iz 0)), some (.int (iz 1)), some (.int (iz 3)), some (.int (iz 2))]) (st' := [.int (iz 1), .int (iz 3)]) (h' := cmH z zl (uf f 22 od) fl tx) rfl ?_
  refine Rx.callx (m' := m_X12_has) (as := [.int (iz 3), .int (iz 1)]) (rest := []) rfl (n_has_3_1 _ (cmH z zl (uf f 22 od) fl tx)   ) (fun v22 h23 q24 => ?_)
  obtain ⟨rfl, rfl⟩ := q24
  refine Rx.walk 0 (pc' := 22) (L' := [some (.ref 0), some (.int (iz 4)), some (.int (iz 0)), some (.int (iz 1)), some (.int (iz 3)), some (.int (iz 2))]) (st' := [.int (iz 1)]) (h' := cmH z zl (uf f 22 od) fl tx) rfl ?_
  refine Rx.ne1 rfl rfl ⟨by omega, by omega⟩ (fun b25 => ?_) (fun b25 => by omega)
  refine Rx.walk 3 (pc' := 40) (L' := [some (.ref 0), some (.int (iz 4)), some (.int (iz 0)), some (.int (iz 1)), some (.int (iz 3)), some (.int (iz 2))]) (st' := [.int (iz 1), .int (iz 3), .int (iz 0)]) (h' := cmH z zl (uf f 22 od) fl tx) rfl ?_
  refine Rx.callx (m' := m_X12_has) (as := [.int (iz 3), .int (iz 1)]) (rest := [.int (iz 0)]) rfl (n_has_3_1 _ (cmH z zl (uf f 22 od) fl tx)   ) (fun v26 h27 q28 => ?_)
  obtain ⟨rfl, rfl⟩ := q28
  refine Rx.walk 0 (pc' := 43) (L' := [some (.ref 0), some (.int (iz 4)), some (.int (iz 0)), some (.int (iz 1)), some (.int (iz 3)), some (.int (iz 2))]) (st' := [.int (iz 1), .int (iz 0)]) (h' := cmH z zl (uf f 22 od) fl tx) rfl ?_
  refine Rx.eq1 rfl rfl ⟨by omega, by omega⟩ (fun b29 => by omega) (fun b29 => ?_)
  refine Rx.walk 2 (pc' := 51) (L' := [some (.ref 0), some (.int (iz 4)), some (.int (iz 0)), some (.int (iz 1)), some (.int (iz 3)), some (.int (iz 2))]) (st' := [.int (iz 0), .int (iz 0)]) (h' := cmH z zl (uf f 22 od) fl tx) rfl ?_
  refine Rx.iadd rfl ?_
  refine Rx.walk 0 (pc' := 52) (L' := [some (.ref 0), some (.int (iz 4)), some (.int (iz 0)), some (.int (iz 1)), some (.int (iz 3)), some (.int (iz 2))]) (st' := [.int (iz 0)]) (h' := cmH z zl (uf f 22 od) fl tx) rfl ?_
  refine Rx.walk 3 (pc' := 55) (L' := [some (.ref 0), some (.int (iz 4)), some (.int (iz 0)), some (.int (iz 1)), some (.int (iz 3)), some (.int (iz 2))]) (st' := [.int (iz 1), .int (iz 1)]) (h' := cmH z zl (uf f 22 od) fl tx) rfl ?_
  refine Rx.iadd rfl ?_
  refine Rx.walk 0 (pc' := 56) (L' := [some (.ref 0), some (.int (iz 4)), some (.int (iz 0)), some (.int (iz 1)), some (.int (iz 3)), some (.int (iz 2))]) (st' := [.int (iz 2)]) (h' := cmH z zl (uf f 22 od) fl tx) rfl ?_
  refine Rx.walk 1 (pc' := 57) (L' := [some (.ref 0), some (.int (iz 4)), some (.int (iz 0)), some (.int (iz 1)), some (.int (iz 3)), some (.int (iz 2))]) (st' := [.int (iz 4), .int (iz 2)]) (h' := cmH z zl (uf f 22 od) fl tx) rfl ?_
  refine Rx.irem rfl ⟨by omega, by omega⟩ ⟨by omega, by omega⟩ (by omega) (by omega) ?_
  refine Rx.walk 4 (pc' := 19) (L' := [some (.ref 0), some (.int (iz 4)), some (.int (iz 0)), some (.int (iz 2)), some (.int (iz 3)), some (.int (iz 2))]) (st' := [.int (iz 2), .int (iz 3)]) (h' := cmH z zl (uf f 22 od) fl tx) rfl ?_
  refine Rx.callx (m' := m_X12_has) (as := [.int (iz 3), .int (iz 2)]) (rest := []) rfl (n_has_3_2 _ (cmH z zl (uf f 22 od) fl tx)   ) (fun v30 h31 q32 => ?_)
  obtain ⟨rfl, rfl⟩ := q32
  refine Rx.walk 0 (pc' := 22) (L' := [some (.ref 0), some (.int (iz 4)), some (.int (iz 0)), some (.int (iz 2)), some (.int (iz 3)), some (.int (iz 2))]) (st' := [.int (iz 0)]) (h' := cmH z zl (uf f 22 od) fl tx) rfl ?_
  refine Rx.ne1 rfl rfl ⟨by omega, by omega⟩ (fun b33 => by omega) (fun b33 => ?_)
  refine Rx.walk 4 (pc' := 32) (L' := [some (.ref 0), some (.int (iz 4)), some (.int (iz 0)), some (.int (iz 2)), some (.int (iz 3)), some (.int (iz 2))]) (st' := [.int (iz 2), .ref 22, .int (iz 2)]) (h' := cmH z zl (uf f 22 od) fl tx) rfl ?_
  refine Rx.ial (g := od) rfl rfl (by omega) (by omega) (by omega) ?_
  rw [show (od 2) = 2 from h2]
  refine Rx.eq2 rfl rfl ⟨by omega, by omega⟩ ⟨by omega, by omega⟩ (fun b34 => ?_) (fun b34 => by omega)
  refine Rx.walk 3 (pc' := 66) (L' := [some (.ref 0), some (.int (iz 4)), some (.int (iz 0)), some (.int (iz 2)), some (.int (iz 3)), some (.int (iz 2))]) (st' := [.int (iz 2), .int (iz 1), .int (iz 3)]) (h' := cmH z zl (uf f 22 od) fl tx) rfl ?_
  refine Rx.ishl (c := 4) rfl (by decide) ?_
  refine Rx.ior (c := 7) rfl (by decide) ?_
  refine Rx.walk 1 (pc' := 70) (L' := [some (.ref 0), some (.int (iz 4)), some (.int (iz 0)), some (.int (iz 2)), some (.int (iz 7)), some (.int (iz 2))]) (st' := []) (h' := cmH z zl (uf f 22 od) fl tx) rfl ?_
  refine Rx.iinc (b := 1) rfl rfl rfl ?_
  refine Rx.walk 0 (pc' := 73) (L' := [some (.ref 0), some (.int (iz 4)), some (.int (iz 0)), some (.int (iz 2)), some (.int (iz 7)), some (.int (iz 3))]) (st' := []) (h' := cmH z zl (uf f 22 od) fl tx) rfl ?_
  refine Rx.walk 3 (pc' := 13) (L' := [some (.ref 0), some (.int (iz 4)), some (.int (iz 0)), some (.int (iz 2)), some (.int (iz 7)), some (.int (iz 3))]) (st' := [.int (iz 4), .int (iz 3)]) (h' := cmH z zl (uf f 22 od) fl tx) rfl ?_
  refine Rx.ge2 rfl rfl ⟨by omega, by omega⟩ ⟨by omega, by omega⟩ (fun b35 => by omega) (fun b35 => ?_)
  refine Rx.walk 2 (pc' := 19) (L' := [some (.ref 0), some (.int (iz 4)), some (.int (iz 0)), some (.int (iz 2)), some (.int (iz 7)), some (.int (iz 3))]) (st' := [.int (iz 2), .int (iz 7)]) (h' := cmH z zl (uf f 22 od) fl tx) rfl ?_
  refine Rx.callx (m' := m_X12_has) (as := [.int (iz 7), .int (iz 2)]) (rest := []) rfl (n_has_7_2 _ (cmH z zl (uf f 22 od) fl tx)   ) (fun v36 h37 q38 => ?_)
  obtain ⟨rfl, rfl⟩ := q38
  refine Rx.walk 0 (pc' := 22) (L' := [some (.ref 0), some (.int (iz 4)), some (.int (iz 0)), some (.int (iz 2)), some (.int (iz 7)), some (.int (iz 3))]) (st' := [.int (iz 1)]) (h' := cmH z zl (uf f 22 od) fl tx) rfl ?_
  refine Rx.ne1 rfl rfl ⟨by omega, by omega⟩ (fun b39 => ?_) (fun b39 => by omega)
  refine Rx.walk 3 (pc' := 40) (L' := [some (.ref 0), some (.int (iz 4)), some (.int (iz 0)), some (.int (iz 2)), some (.int (iz 7)), some (.int (iz 3))]) (st' := [.int (iz 2), .int (iz 7), .int (iz 0)]) (h' := cmH z zl (uf f 22 od) fl tx) rfl ?_
  refine Rx.callx (m' := m_X12_has) (as := [.int (iz 7), .int (iz 2)]) (rest := [.int (iz 0)]) rfl (n_has_7_2 _ (cmH z zl (uf f 22 od) fl tx)   ) (fun v40 h41 q42 => ?_)
  obtain ⟨rfl, rfl⟩ := q42
  refine Rx.walk 0 (pc' := 43) (L' := [some (.ref 0), some (.int (iz 4)), some (.int (iz 0)), some (.int (iz 2)), some (.int (iz 7)), some (.int (iz 3))]) (st' := [.int (iz 1), .int (iz 0)]) (h' := cmH z zl (uf f 22 od) fl tx) rfl ?_
  refine Rx.eq1 rfl rfl ⟨by omega, by omega⟩ (fun b43 => by omega) (fun b43 => ?_)
  refine Rx.walk 2 (pc' := 51) (L' := [some (.ref 0), some (.int (iz 4)), some (.int (iz 0)), some (.int (iz 2)), some (.int (iz 7)), some (.int (iz 3))]) (st' := [.int (iz 0), .int (iz 0)]) (h' := cmH z zl (uf f 22 od) fl tx) rfl ?_
  refine Rx.iadd rfl ?_
  refine Rx.walk 0 (pc' := 52) (L' := [some (.ref 0), some (.int (iz 4)), some (.int (iz 0)), some (.int (iz 2)), some (.int (iz 7)), some (.int (iz 3))]) (st' := [.int (iz 0)]) (h' := cmH z zl (uf f 22 od) fl tx) rfl ?_
  refine Rx.walk 3 (pc' := 55) (L' := [some (.ref 0), some (.int (iz 4)), some (.int (iz 0)), some (.int (iz 2)), some (.int (iz 7)), some (.int (iz 3))]) (st' := [.int (iz 1), .int (iz 2)]) (h' := cmH z zl (uf f 22 od) fl tx) rfl ?_
  refine Rx.iadd rfl ?_
  refine Rx.walk 0 (pc' := 56) (L' := [some (.ref 0), some (.int (iz 4)), some (.int (iz 0)), some (.int (iz 2)), some (.int (iz 7)), some (.int (iz 3))]) (st' := [.int (iz 3)]) (h' := cmH z zl (uf f 22 od) fl tx) rfl ?_
  refine Rx.walk 1 (pc' := 57) (L' := [some (.ref 0), some (.int (iz 4)), some (.int (iz 0)), some (.int (iz 2)), some (.int (iz 7)), some (.int (iz 3))]) (st' := [.int (iz 4), .int (iz 3)]) (h' := cmH z zl (uf f 22 od) fl tx) rfl ?_
  refine Rx.irem rfl ⟨by omega, by omega⟩ ⟨by omega, by omega⟩ (by omega) (by omega) ?_
  refine Rx.walk 4 (pc' := 19) (L' := [some (.ref 0), some (.int (iz 4)), some (.int (iz 0)), some (.int (iz 3)), some (.int (iz 7)), some (.int (iz 3))]) (st' := [.int (iz 3), .int (iz 7)]) (h' := cmH z zl (uf f 22 od) fl tx) rfl ?_
  refine Rx.callx (m' := m_X12_has) (as := [.int (iz 7), .int (iz 3)]) (rest := []) rfl (n_has_7_3 _ (cmH z zl (uf f 22 od) fl tx)   ) (fun v44 h45 q46 => ?_)
  obtain ⟨rfl, rfl⟩ := q46
  refine Rx.walk 0 (pc' := 22) (L' := [some (.ref 0), some (.int (iz 4)), some (.int (iz 0)), some (.int (iz 3)), some (.int (iz 7)), some (.int (iz 3))]) (st' := [.int (iz 0)]) (h' := cmH z zl (uf f 22 od) fl tx) rfl ?_
  refine Rx.ne1 rfl rfl ⟨by omega, by omega⟩ (fun b47 => by omega) (fun b47 => ?_)
  refine Rx.walk 4 (pc' := 32) (L' := [some (.ref 0), some (.int (iz 4)), some (.int (iz 0)), some (.int (iz 3)), some (.int (iz 7)), some (.int (iz 3))]) (st' := [.int (iz 3), .ref 22, .int (iz 3)]) (h' := cmH z zl (uf f 22 od) fl tx) rfl ?_
  refine Rx.ial (g := od) rfl rfl (by omega) (by omega) (by omega) ?_
  rw [show (od 3) = 3 from h3]
  refine Rx.eq2 rfl rfl ⟨by omega, by omega⟩ ⟨by omega, by omega⟩ (fun b48 => ?_) (fun b48 => by omega)
  refine Rx.walk 3 (pc' := 66) (L' := [some (.ref 0), some (.int (iz 4)), some (.int (iz 0)), some (.int (iz 3)), some (.int (iz 7)), some (.int (iz 3))]) (st' := [.int (iz 3), .int (iz 1), .int (iz 7)]) (h' := cmH z zl (uf f 22 od) fl tx) rfl ?_
  refine Rx.ishl (c := 8) rfl (by decide) ?_
  refine Rx.ior (c := 15) rfl (by decide) ?_
  refine Rx.walk 1 (pc' := 70) (L' := [some (.ref 0), some (.int (iz 4)), some (.int (iz 0)), some (.int (iz 3)), some (.int (iz 15)), some (.int (iz 3))]) (st' := []) (h' := cmH z zl (uf f 22 od) fl tx) rfl ?_
  refine Rx.iinc (b := 1) rfl rfl rfl ?_
  refine Rx.walk 0 (pc' := 73) (L' := [some (.ref 0), some (.int (iz 4)), some (.int (iz 0)), some (.int (iz 3)), some (.int (iz 15)), some (.int (iz 4))]) (st' := []) (h' := cmH z zl (uf f 22 od) fl tx) rfl ?_
  refine Rx.walk 3 (pc' := 13) (L' := [some (.ref 0), some (.int (iz 4)), some (.int (iz 0)), some (.int (iz 3)), some (.int (iz 15)), some (.int (iz 4))]) (st' := [.int (iz 4), .int (iz 4)]) (h' := cmH z zl (uf f 22 od) fl tx) rfl ?_
  refine Rx.ge2 rfl rfl ⟨by omega, by omega⟩ ⟨by omega, by omega⟩ (fun b49 => ?_) (fun b49 => by omega)
  refine Rx.walk 1 (pc' := 77) (L' := [some (.ref 0), some (.int (iz 4)), some (.int (iz 0)), some (.int (iz 3)), some (.int (iz 15)), some (.int (iz 4))]) (st' := [.int (iz 0)]) (h' := cmH z zl (uf f 22 od) fl tx) rfl ?_
  refine Rx.ret rfl ?_
  exact ⟨rfl, rfl⟩
set_option maxRecDepth 100000 in
set_option maxHeartbeats 4000000 in
theorem n_has_3_3 (d : Nat) (h0 : AmH)   : Rx (d) m_X12_has 0 (am_ent [.int (iz 3), .int (iz 3)] 2) [] (h0) (fun rv h => rv = some (.int (iz 0)) ∧ h0 = h) := ⟨_, _, ⟨100, rfl⟩, rfl, rfl⟩
set_option maxRecDepth 100000 in
set_option maxHeartbeats 4000000 in
theorem n_has_11_3 (d : Nat) (h0 : AmH)   : Rx (d) m_X12_has 0 (am_ent [.int (iz 11), .int (iz 3)] 2) [] (h0) (fun rv h => rv = some (.int (iz 1)) ∧ h0 = h) := ⟨_, _, ⟨100, rfl⟩, rfl, rfl⟩
set_option maxRecDepth 100000 in
set_option maxHeartbeats 4000000 in
theorem n_has_11_0 (d : Nat) (h0 : AmH)   : Rx (d) m_X12_has 0 (am_ent [.int (iz 11), .int (iz 0)] 2) [] (h0) (fun rv h => rv = some (.int (iz 1)) ∧ h0 = h) := ⟨_, _, ⟨100, rfl⟩, rfl, rfl⟩
set_option maxRecDepth 100000 in
set_option maxHeartbeats 4000000 in
theorem n_has_11_1 (d : Nat) (h0 : AmH)   : Rx (d) m_X12_has 0 (am_ent [.int (iz 11), .int (iz 1)] 2) [] (h0) (fun rv h => rv = some (.int (iz 1)) ∧ h0 = h) := ⟨_, _, ⟨100, rfl⟩, rfl, rfl⟩
set_option maxRecDepth 100000 in
set_option maxHeartbeats 4000000 in
theorem n_has_11_2 (d : Nat) (h0 : AmH)   : Rx (d) m_X12_has 0 (am_ent [.int (iz 11), .int (iz 2)] 2) [] (h0) (fun rv h => rv = some (.int (iz 0)) ∧ h0 = h) := ⟨_, _, ⟨100, rfl⟩, rfl, rfl⟩
set_option maxRecDepth 100000 in
set_option maxHeartbeats 4000000 in
theorem m_stepsOf4_1 (d : Nat) (z : Nat → Int) (zl : Nat → Int) (f : Nat → Int → Int) (fl : Nat → Int → Int) (tx : Nat)  (od : Int → Int) (h0 : od 0 = 0) (h1 : od 1 = 1) (h2 : od 2 = 3) (h3 : od 3 = 2) : Rx (d + 1) m_X12_stepsOf 0 (am_ent [.ref 0, .int (iz 4)] 6) [] (cmH z zl (uf f 22 od) fl tx) (fun rv h => rv = some (.int (iz 1)) ∧ h = cmH z zl (uf f 22 od) fl tx) := by
  refine Rx.walk 0 (pc' := 0) (L' := [some (.ref 0), some (.int (iz 4)), none, none, none, none]) (st' := []) (h' := cmH z zl (uf f 22 od) fl tx) rfl ?_
  refine Rx.walk 10 (pc' := 13) (L' := [some (.ref 0), some (.int (iz 4)), some (.int (iz 0)), some (.int (iz 0)), some (.int (iz 0)), some (.int (iz 0))]) (st' := [.int (iz 4), .int (iz 0)]) (h' := cmH z zl (uf f 22 od) fl tx) rfl ?_
  refine Rx.ge2 rfl rfl ⟨by omega, by omega⟩ ⟨by omega, by omega⟩ (fun b1 => by omega) (fun b1 => ?_)
  refine Rx.walk 2 (pc' := 19) (L' := [some (.ref 0), some (.int (iz 4)), some (.int (iz 0)), some (.int (iz 0)), some (.int (iz 0)), some (.int (iz 0))]) (st' := [.int (iz 0), .int (iz 0)]) (h' := cmH z zl (uf f 22 od) fl tx) rfl ?_
  refine Rx.callx (m' := m_X12_has) (as := [.int (iz 0), .int (iz 0)]) (rest := []) rfl (n_has_0_0 _ (cmH z zl (uf f 22 od) fl tx)   ) (fun v2 h3 q4 => ?_)
  obtain ⟨rfl, rfl⟩ := q4
  refine Rx.walk 0 (pc' := 22) (L' := [some (.ref 0), some (.int (iz 4)), some (.int (iz 0)), some (.int (iz 0)), some (.int (iz 0)), some (.int (iz 0))]) (st' := [.int (iz 0)]) (h' := cmH z zl (uf f 22 od) fl tx) rfl ?_
  refine Rx.ne1 rfl rfl ⟨by omega, by omega⟩ (fun b5 => by omega) (fun b5 => ?_)
  refine Rx.walk 4 (pc' := 32) (L' := [some (.ref 0), some (.int (iz 4)), some (.int (iz 0)), some (.int (iz 0)), some (.int (iz 0)), some (.int (iz 0))]) (st' := [.int (iz 0), .ref 22, .int (iz 0)]) (h' := cmH z zl (uf f 22 od) fl tx) rfl ?_
  refine Rx.ial (g := od) rfl rfl (by omega) (by omega) (by omega) ?_
  rw [show (od 0) = 0 from h0]
  refine Rx.eq2 rfl rfl ⟨by omega, by omega⟩ ⟨by omega, by omega⟩ (fun b6 => ?_) (fun b6 => by omega)
  refine Rx.walk 3 (pc' := 66) (L' := [some (.ref 0), some (.int (iz 4)), some (.int (iz 0)), some (.int (iz 0)), some (.int (iz 0)), some (.int (iz 0))]) (st' := [.int (iz 0), .int (iz 1), .int (iz 0)]) (h' := cmH z zl (uf f 22 od) fl tx) rfl ?_
  refine Rx.ishl (c := 1) rfl (by decide) ?_
  refine Rx.ior (c := 1) rfl (by decide) ?_
  refine Rx.walk 1 (pc' := 70) (L' := [some (.ref 0), some (.int (iz 4)), some (.int (iz 0)), some (.int (iz 0)), some (.int (iz 1)), some (.int (iz 0))]) (st' := []) (h' := cmH z zl (uf f 22 od) fl tx) rfl ?_
  refine Rx.iinc (b := 1) rfl rfl rfl ?_
  refine Rx.walk 0 (pc' := 73) (L' := [some (.ref 0), some (.int (iz 4)), some (.int (iz 0)), some (.int (iz 0)), some (.int (iz 1)), some (.int (iz 1))]) (st' := []) (h' := cmH z zl (uf f 22 od) fl tx) rfl ?_
  refine Rx.walk 3 (pc' := 13) (L' := [some (.ref 0), some (.int (iz 4)), some (.int (iz 0)), some (.int (iz 0)), some (.int (iz 1)), some (.int (iz 1))]) (st' := [.int (iz 4), .int (iz 1)]) (h' := cmH z zl (uf f 22 od) fl tx) rfl ?_
  refine Rx.ge2 rfl rfl ⟨by omega, by omega⟩ ⟨by omega, by omega⟩ (fun b7 => by omega) (fun b7 => ?_)
  refine Rx.walk 2 (pc' := 19) (L' := [some (.ref 0), some (.int (iz 4)), some (.int (iz 0)), some (.int (iz 0)), some (.int (iz 1)), some (.int (iz 1))]) (st' := [.int (iz 0), .int (iz 1)]) (h' := cmH z zl (uf f 22 od) fl tx) rfl ?_
  refine Rx.callx (m' := m_X12_has) (as := [.int (iz 1), .int (iz 0)]) (rest := []) rfl (n_has_1_0 _ (cmH z zl (uf f 22 od) fl tx)   ) (fun v8 h9 q10 => ?_)
  obtain ⟨rfl, rfl⟩ := q10
  refine Rx.walk 0 (pc' := 22) (L' := [some (.ref 0), some (.int (iz 4)), some (.int (iz 0)), some (.int (iz 0)), some (.int (iz 1)), some (.int (iz 1))]) (st' := [.int (iz 1)]) (h' := cmH z zl (uf f 22 od) fl tx) rfl ?_
  refine Rx.ne1 rfl rfl ⟨by omega, by omega⟩ (fun b11 => ?_) (fun b11 => by omega)
  refine Rx.walk 3 (pc' := 40) (L' := [some (.ref 0), some (.int (iz 4)), some (.int (iz 0)), some (.int (iz 0)), some (.int (iz 1)), some (.int (iz 1))]) (st' := [.int (iz 0), .int (iz 1), .int (iz 0)]) (h' := cmH z zl (uf f 22 od) fl tx) rfl ?_
  refine Rx.callx (m' := m_X12_has) (as := [.int (iz 1), .int (iz 0)]) (rest := [.int (iz 0)]) rfl (n_has_1_0 _ (cmH z zl (uf f 22 od) fl tx)   ) (fun v12 h13 q14 => ?_)
  obtain ⟨rfl, rfl⟩ := q14
  refine Rx.walk 0 (pc' := 43) (L' := [some (.ref 0), some (.int (iz 4)), some (.int (iz 0)), some (.int (iz 0)), some (.int (iz 1)), some (.int (iz 1))]) (st' := [.int (iz 1), .int (iz 0)]) (h' := cmH z zl (uf f 22 od) fl tx) rfl ?_
  refine Rx.eq1 rfl rfl ⟨by omega, by omega⟩ (fun b15 => by omega) (fun b15 => ?_)
  refine Rx.walk 2 (pc' := 51) (L' := [some (.ref 0), some (.int (iz 4)), some (.int (iz 0)), some (.int (iz 0)), some (.int (iz 1)), some (.int (iz 1))]) (st' := [.int (iz 0), .int (iz 0)]) (h' := cmH z zl (uf f 22 od) fl tx) rfl ?_
  refine Rx.iadd rfl ?_
  refine Rx.walk 0 (pc' := 52) (L' := [some (.ref 0), some (.int (iz 4)), some (.int (iz 0)), some (.int (iz 0)), some (.int (iz 1)), some (.int (iz 1))]) (st' := [.int (iz 0)]) (h' := cmH z zl (uf f 22 od) fl tx) rfl ?_
  refine Rx.walk 3 (pc' := 55) (L' := [some (.ref 0), some (.int (iz 4)), some (.int (iz 0)), some (.int (iz 0)), some (.int (iz 1)), some (.int (iz 1))]) (st' := [.int (iz 1), .int (iz 0)]) (h' := cmH z zl (uf f 22 od) fl tx) rfl ?_
  refine Rx.iadd rfl ?_
  refine Rx.walk 0 (pc' := 56) (L' := [some (.ref 0), some (.int (iz 4)), some (.int (iz 0)), some (.int (iz 0)), some (.int (iz 1)), some (.int (iz 1))]) (st' := [.int (iz 1)]) (h' := cmH z zl (uf f 22 od) fl tx) rfl ?_
  refine Rx.walk 1 (pc' := 57) (L' := [some (.ref 0), some (.int (iz 4)), some (.int (iz 0)), some (.int (iz 0)), some (.int (iz 1)), some (.int (iz 1))]) (st' := [.int (iz 4), .int (iz 1)]) (h' := cmH z zl (uf f 22 od) fl tx) rfl ?_
  refine Rx.irem rfl ⟨by omega, by omega⟩ ⟨by omega, by omega⟩ (by omega) (by omega) ?_
  refine Rx.walk 4 (pc' := 19) (L' := [some (.ref 0), some (.int (iz 4)), some (.int (iz 0)), some (.int (iz 1)), some (.int (iz 1)), some (.int (iz 1))]) (st' := [.int (iz 1), .int (iz 1)]) (h' := cmH z zl (uf f 22 od) fl tx) rfl ?_
  refine Rx.callx (m' := m_X12_has) (as := [.int (iz 1), .int (iz 1)]) (rest := []) rfl (n_has_1_1 _ (cmH z zl (uf f 22 od) fl tx)   ) (fun v16 h17 q18 => ?_)
  obtain ⟨rfl, rfl⟩ := q18
  refine Rx.walk 0 (pc' := 22) (L' := [some (.ref 0), some (.int (iz 4)), some (.int (iz 0)), some (.int (iz 1)), some (.int (iz 1)), some (.int (iz 1))]) (st' := [.int (iz 0)]) (h' := cmH z zl (uf f 22 od) fl tx) rfl ?_
  refine Rx.ne1 rfl rfl ⟨by omega, by omega⟩ (fun b19 => by omega) (fun b19 => ?_)
  refine Rx.walk 4 (pc' := 32) (L' := [some (.ref 0), some (.int (iz 4)), some (.int (iz 0)), some (.int (iz 1)), some (.int (iz 1)), some (.int (iz 1))]) (st' := [.int (iz 1), .ref 22, .int (iz 1)]) (h' := cmH z zl (uf f 22 od) fl tx) rfl ?_
  refine Rx.ial (g := od) rfl rfl (by omega) (by omega) (by omega) ?_
  rw [show (od 1) = 1 from h1]
  refine Rx.eq2 rfl rfl ⟨by omega, by omega⟩ ⟨by omega, by omega⟩ (fun b20 => ?_) (fun b20 => by omega)
  refine Rx.walk 3 (pc' := 66) (L' := [some (.ref 0), some (.int (iz 4)), some (.int (iz 0)), some (.int (iz 1)), some (.int (iz 1)), some (.int (iz 1))]) (st' := [.int (iz 1), .int (iz 1), .int (iz 1)]) (h' := cmH z zl (uf f 22 od) fl tx) rfl ?_
  refine Rx.ishl (c := 2) rfl (by decide) ?_
  refine Rx.ior (c := 3) rfl (by decide) ?_
  refine Rx.walk 1 (pc' := 70) (L' := [some (.ref 0), some (.int (iz 4)), some (.int (iz 0)), some (.int (iz 1)), some (.int (iz 3)), some (.int (iz 1))]) (st' := []) (h' := cmH z zl (uf f 22 od) fl tx) rfl ?_
  refine Rx.iinc (b := 1) rfl rfl rfl ?_
  refine Rx.walk 0 (pc' := 73) (L' := [some (.ref 0), some (.int (iz 4)), some (.int (iz 0)), some (.int (iz 1)), some (.int (iz 3)), some (.int (iz 2))]) (st' := []) (h' := cmH z zl (uf f 22 od) fl tx) rfl ?_
  refine Rx.walk 3 (pc' := 13) (L' := [some (.ref 0), some (.int (iz 4)), some (.int (iz 0)), some (.int (iz 1)), some (.int (iz 3)), some (.int (iz 2))]) (st' := [.int (iz 4), .int (iz 2)]) (h' := cmH z zl (uf f 22 od) fl tx) rfl ?_
  refine Rx.ge2 rfl rfl ⟨by omega, by omega⟩ ⟨by omega, by omega⟩ (fun b21 => by omega) (fun b21 => ?_)
  refine Rx.walk 2 (pc' := 19) (L' := [some (.ref 0), some (.int (iz 4)), some (.int (iz 0)), some (.int (iz 1)), some (.int (iz 3)), some (.int (iz 2))]) (st' := [.int (iz 1), .int (iz 3)]) (h' := cmH z zl (uf f 22 od) fl tx) rfl ?_
  refine Rx.callx (m' := m_X12_has) (as := [.int (iz 3), .int (iz 1)]) (rest := []) rfl (n_has_3_1 _ (cmH z zl (uf f 22 od) fl tx)   ) (fun v22 h23 q24 => ?_)
  obtain ⟨rfl, rfl⟩ := q24
  refine Rx.walk 0 (pc' := 22) (L' := [some (.ref 0), some (.int (iz 4)), some (.int (iz 0)), some (.int (iz 1)), some (.int (iz 3)), some (.int (iz 2))]) (st' := [.int (iz 1)]) (h' := cmH z zl (uf f 22 od) fl tx) rfl ?_
  refine Rx.ne1 rfl rfl ⟨by omega, by omega⟩ (fun b25 => ?_) (fun b25 => by omega)
  refine Rx.walk 3 (pc' := 40) (L' := [some (.ref 0), some (.int (iz 4)), some (.int (iz 0)), some (.int (iz 1)), some (.int (iz 3)), some (.int (iz 2))]) (st' := [.int (iz 1), .int (iz 3), .int (iz 0)]) (h' := cmH z zl (uf f 22 od) fl tx) rfl ?_
  refine Rx.callx (m' := m_X12_has) (as := [.int (iz 3), .int (iz 1)]) (rest := [.int (iz 0)]) rfl (n_has_3_1 _ (cmH z zl (uf f 22 od) fl tx)   ) (fun v26 h27 q28 => ?_)
  obtain ⟨rfl, rfl⟩ := q28
  refine Rx.walk 0 (pc' := 43) (L' := [some (.ref 0), some (.int (iz 4)), some (.int (iz 0)), some (.int (iz 1)), some (.int (iz 3)), some (.int (iz 2))]) (st' := [.int (iz 1), .int (iz 0)]) (h' := cmH z zl (uf f 22 od) fl tx) rfl ?_
  refine Rx.eq1 rfl rfl ⟨by omega, by omega⟩ (fun b29 => by omega) (fun b29 => ?_)
  refine Rx.walk 2 (pc' := 51) (L' := [some (.ref 0), some (.int (iz 4)), some (.int (iz 0)), some (.int (iz 1)), some (.int (iz 3)), some (.int (iz 2))]) (st' := [.int (iz 0), .int (iz 0)]) (h' := cmH z zl (uf f 22 od) fl tx) rfl ?_
  refine Rx.iadd rfl ?_
  refine Rx.walk 0 (pc' := 52) (L' := [some (.ref 0), some (.int (iz 4)), some (.int (iz 0)), some (.int (iz 1)), some (.int (iz 3)), some (.int (iz 2))]) (st' := [.int (iz 0)]) (h' := cmH z zl (uf f 22 od) fl tx) rfl ?_
  refine Rx.walk 3 (pc' := 55) (L' := [some (.ref 0), some (.int (iz 4)), some (.int (iz 0)), some (.int (iz 1)), some (.int (iz 3)), some (.int (iz 2))]) (st' := [.int (iz 1), .int (iz 1)]) (h' := cmH z zl (uf f 22 od) fl tx) rfl ?_
  refine Rx.iadd rfl ?_
  refine Rx.walk 0 (pc' := 56) (L' := [some (.ref 0), some (.int (iz 4)), some (.int (iz 0)), some (.int (iz 1)), some (.int (iz 3)), some (.int (iz 2))]) (st' := [.int (iz 2)]) (h' := cmH z zl (uf f 22 od) fl tx) rfl ?_
  refine Rx.walk 1 (pc' := 57) (L' := [some (.ref 0), some (.int (iz 4)), some (.int (iz 0)), some (.int (iz 1)), some (.int (iz 3)), some (.int (iz 2))]) (st' := [.int (iz 4), .int (iz 2)]) (h' := cmH z zl (uf f 22 od) fl tx) rfl ?_
  refine Rx.irem rfl ⟨by omega, by omega⟩ ⟨by omega, by omega⟩ (by omega) (by omega) ?_
  refine Rx.walk 4 (pc' := 19) (L' := [some (.ref 0), some (.int (iz 4)), some (.int (iz 0)), some (.int (iz 2)), some (.int (iz 3)), some (.int (iz 2))]) (st' := [.int (iz 2), .int (iz 3)]) (h' := cmH z zl (uf f 22 od) fl tx) rfl ?_
  refine Rx.callx (m' := m_X12_has) (as := [.int (iz 3), .int (iz 2)]) (rest := []) rfl (n_has_3_2 _ (cmH z zl (uf f 22 od) fl tx)   ) (fun v30 h31 q32 => ?_)
  obtain ⟨rfl, rfl⟩ := q32
  refine Rx.walk 0 (pc' := 22) (L' := [some (.ref 0), some (.int (iz 4)), some (.int (iz 0)), some (.int (iz 2)), some (.int (iz 3)), some (.int (iz 2))]) (st' := [.int (iz 0)]) (h' := cmH z zl (uf f 22 od) fl tx) rfl ?_
  refine Rx.ne1 rfl rfl ⟨by omega, by omega⟩ (fun b33 => by omega) (fun b33 => ?_)
  refine Rx.walk 4 (pc' := 32) (L' := [some (.ref 0), some (.int (iz 4)), some (.int (iz 0)), some (.int (iz 2)), some (.int (iz 3)), some (.int (iz 2))]) (st' := [.int (iz 2), .ref 22, .int (iz 2)]) (h' := cmH z zl (uf f 22 od) fl tx) rfl ?_
  refine Rx.ial (g := od) rfl rfl (by omega) (by omega) (by omega) ?_
  rw [show (od 2) = 3 from h2]
  refine Rx.eq2 rfl rfl ⟨by omega, by omega⟩ ⟨by omega, by omega⟩ (fun b34 => by omega) (fun b34 => ?_)
  refine Rx.walk 3 (pc' := 40) (L' := [some (.ref 0), some (.int (iz 4)), some (.int (iz 0)), some (.int (iz 2)), some (.int (iz 3)), some (.int (iz 2))]) (st' := [.int (iz 2), .int (iz 3), .int (iz 0)]) (h' := cmH z zl (uf f 22 od) fl tx) rfl ?_
  refine Rx.callx (m' := m_X12_has) (as := [.int (iz 3), .int (iz 2)]) (rest := [.int (iz 0)]) rfl (n_has_3_2 _ (cmH z zl (uf f 22 od) fl tx)   ) (fun v35 h36 q37 => ?_)
  obtain ⟨rfl, rfl⟩ := q37
  refine Rx.walk 0 (pc' := 43) (L' := [some (.ref 0), some (.int (iz 4)), some (.int (iz 0)), some (.int (iz 2)), some (.int (iz 3)), some (.int (iz 2))]) (st' := [.int (iz 0), .int (iz 0)]) (h' := cmH z zl (uf f 22 od) fl tx) rfl ?_
  refine Rx.eq1 rfl rfl ⟨by omega, by omega⟩ (fun b38 => ?_) (fun b38 => by omega)
  refine Rx.walk 1 (pc' := 51) (L' := [some (.ref 0), some (.int (iz 4)), some (.int (iz 0)), some (.int (iz 2)), some (.int (iz 3)), some (.int (iz 2))]) (st' := [.int (iz 1), .int (iz 0)]) (h' := cmH z zl (uf f 22 od) fl tx) rfl ?_
  refine Rx.iadd rfl ?_
  refine Rx.walk 0 (pc' := 52) (L' := [some (.ref 0), some (.int (iz 4)), some (.int (iz 0)), some (.int (iz 2)), some (.int (iz 3)), some (.int (iz 2))]) (st' := [.int (iz 1)]) (h' := cmH z zl (uf f 22 od) fl tx) rfl ?_
  refine Rx.walk 3 (pc' := 55) (L' := [some (.ref 0), some (.int (iz 4)), some (.int (iz 1)), some (.int (iz 2)), some (.int (iz 3)), some (.int (iz 2))]) (st' := [.int (iz 1), .int (iz 2)]) (h' := cmH z zl (uf f 22 od) fl tx) rfl ?_
  refine Rx.iadd rfl ?_
  refine Rx.walk 0 (pc' := 56) (L' := [some (.ref 0), some (.int (iz 4)), some (.int (iz 1)), some (.int (iz 2)), some (.int (iz 3)), some (.int (iz 2))]) (st' := [.int (iz 3)]) (h' := cmH z zl (uf f 22 od) fl tx) rfl ?_
  refine Rx.walk 1 (pc' := 57) (L' := [some (.ref 0), some (.int (iz 4)), some (.int (iz 1)), some (.int (iz 2)), some (.int (iz 3)), some (.int (iz 2))]) (st' := [.int (iz 4), .int (iz 3)]) (h' := cmH z zl (uf f 22 od) fl tx) rfl ?_
  refine Rx.irem rfl ⟨by omega, by omega⟩ ⟨by omega, by omega⟩ (by omega) (by omega) ?_
  refine Rx.walk 4 (pc' := 19) (L' := [some (.ref 0), some (.int (iz 4)), some (.int (iz 1)), some (.int (iz 3)), some (.int (iz 3)), some (.int (iz 2))]) (st' := [.int (iz 3), .int (iz 3)]) (h' := cmH z zl (uf f 22 od) fl tx) rfl ?_
  refine Rx.callx (m' := m_X12_has) (as := [.int (iz 3), .int (iz 3)]) (rest := []) rfl (n_has_3_3 _ (cmH z zl (uf f 22 od) fl tx)   ) (fun v39 h40 q41 => ?_)
  obtain ⟨rfl, rfl⟩ := q41
  refine Rx.walk 0 (pc' := 22) (L' := [some (.ref 0), some (.int (iz 4)), some (.int (iz 1)), some (.int (iz 3)), some (.int (iz 3)), some (.int (iz 2))]) (st' := [.int (iz 0)]) (h' := cmH z zl (uf f 22 od) fl tx) rfl ?_
  refine Rx.ne1 rfl rfl ⟨by omega, by omega⟩ (fun b42 => by omega) (fun b42 => ?_)
  refine Rx.walk 4 (pc' := 32) (L' := [some (.ref 0), some (.int (iz 4)), some (.int (iz 1)), some (.int (iz 3)), some (.int (iz 3)), some (.int (iz 2))]) (st' := [.int (iz 2), .ref 22, .int (iz 3)]) (h' := cmH z zl (uf f 22 od) fl tx) rfl ?_
  refine Rx.ial (g := od) rfl rfl (by omega) (by omega) (by omega) ?_
  rw [show (od 2) = 3 from h2]
  refine Rx.eq2 rfl rfl ⟨by omega, by omega⟩ ⟨by omega, by omega⟩ (fun b43 => ?_) (fun b43 => by omega)
  refine Rx.walk 3 (pc' := 66) (L' := [some (.ref 0), some (.int (iz 4)), some (.int (iz 1)), some (.int (iz 3)), some (.int (iz 3)), some (.int (iz 2))]) (st' := [.int (iz 3), .int (iz 1), .int (iz 3)]) (h' := cmH z zl (uf f 22 od) fl tx) rfl ?_
  refine Rx.ishl (c := 8) rfl (by decide) ?_
  refine Rx.ior (c := 11) rfl (by decide) ?_
  refine Rx.walk 1 (pc' := 70) (L' := [some (.ref 0), some (.int (iz 4)), some (.int (iz 1)), some (.int (iz 3)), some (.int (iz 11)), some (.int (iz 2))]) (st' := []) (h' := cmH z zl (uf f 22 od) fl tx) rfl ?_
  refine Rx.iinc (b := 1) rfl rfl rfl ?_
  refine Rx.walk 0 (pc' := 73) (L' := [some (.ref 0), some (.int (iz 4)), some (.int (iz 1)), some (.int (iz 3)), some (.int (iz 11)), some (.int (iz 3))]) (st' := []) (h' := cmH z zl (uf f 22 od) fl tx) rfl ?_
  refine Rx.walk 3 (pc' := 13) (L' := [some (.ref 0), some (.int (iz 4)), some (.int (iz 1)), some (.int (iz 3)), some (.int (iz 11)), some (.int (iz 3))]) (st' := [.int (iz 4), .int (iz 3)]) (h' := cmH z zl (uf f 22 od) fl tx) rfl ?_
  refine Rx.ge2 rfl rfl ⟨by omega, by omega⟩ ⟨by omega, by omega⟩ (fun b44 => by omega) (fun b44 => ?_)
  refine Rx.walk 2 (pc' := 19) (L' := [some (.ref 0), some (.int (iz 4)), some (.int (iz 1)), some (.int (iz 3)), some (.int (iz 11)), some (.int (iz 3))]) (st' := [.int (iz 3), .int (iz 11)]) (h' := cmH z zl (uf f 22 od) fl tx) rfl ?_
  refine Rx.callx (m' := m_X12_has) (as := [.int (iz 11), .int (iz 3)]) (rest := []) rfl (n_has_11_3 _ (cmH z zl (uf f 22 od) fl tx)   ) (fun v45 h46 q47 => ?_)
  obtain ⟨rfl, rfl⟩ := q47
  refine Rx.walk 0 (pc' := 22) (L' := [some (.ref 0), some (.int (iz 4)), some (.int (iz 1)), some (.int (iz 3)), some (.int (iz 11)), some (.int (iz 3))]) (st' := [.int (iz 1)]) (h' := cmH z zl (uf f 22 od) fl tx) rfl ?_
  refine Rx.ne1 rfl rfl ⟨by omega, by omega⟩ (fun b48 => ?_) (fun b48 => by omega)
  refine Rx.walk 3 (pc' := 40) (L' := [some (.ref 0), some (.int (iz 4)), some (.int (iz 1)), some (.int (iz 3)), some (.int (iz 11)), some (.int (iz 3))]) (st' := [.int (iz 3), .int (iz 11), .int (iz 1)]) (h' := cmH z zl (uf f 22 od) fl tx) rfl ?_
  refine Rx.callx (m' := m_X12_has) (as := [.int (iz 11), .int (iz 3)]) (rest := [.int (iz 1)]) rfl (n_has_11_3 _ (cmH z zl (uf f 22 od) fl tx)   ) (fun v49 h50 q51 => ?_)
  obtain ⟨rfl, rfl⟩ := q51
  refine Rx.walk 0 (pc' := 43) (L' := [some (.ref 0), some (.int (iz 4)), some (.int (iz 1)), some (.int (iz 3)), some (.int (iz 11)), some (.int (iz 3))]) (st' := [.int (iz 1), .int (iz 1)]) (h' := cmH z zl (uf f 22 od) fl tx) rfl ?_
  refine Rx.eq1 rfl rfl ⟨by omega, by omega⟩ (fun b52 => by omega) (fun b52 => ?_)
  refine Rx.walk 2 (pc' := 51) (L' := [some (.ref 0), some (.int (iz 4)), some (.int (iz 1)), some (.int (iz 3)), some (.int (iz 11)), some (.int (iz 3))]) (st' := [.int (iz 0), .int (iz 1)]) (h' := cmH z zl (uf f 22 od) fl tx) rfl ?_
  refine Rx.iadd rfl ?_
  refine Rx.walk 0 (pc' := 52) (L' := [some (.ref 0), some (.int (iz 4)), some (.int (iz 1)), some (.int (iz 3)), some (.int (iz 11)), some (.int (iz 3))]) (st' := [.int (iz 1)]) (h' := cmH z zl (uf f 22 od) fl tx) rfl ?_
  refine Rx.walk 3 (pc' := 55) (L' := [some (.ref 0), some (.int (iz 4)), some (.int (iz 1)), some (.int (iz 3)), some (.int (iz 11)), some (.int (iz 3))]) (st' := [.int (iz 1), .int (iz 3)]) (h' := cmH z zl (uf f 22 od) fl tx) rfl ?_
  refine Rx.iadd rfl ?_
  refine Rx.walk 0 (pc' := 56) (L' := [some (.ref 0), some (.int (iz 4)), some (.int (iz 1)), some (.int (iz 3)), some (.int (iz 11)), some (.int (iz 3))]) (st' := [.int (iz 4)]) (h' := cmH z zl (uf f 22 od) fl tx) rfl ?_
  refine Rx.walk 1 (pc' := 57) (L' := [some (.ref 0), some (.int (iz 4)), some (.int (iz 1)), some (.int (iz 3)), some (.int (iz 11)), some (.int (iz 3))]) (st' := [.int (iz 4), .int (iz 4)]) (h' := cmH z zl (uf f 22 od) fl tx) rfl ?_
  refine Rx.irem rfl ⟨by omega, by omega⟩ ⟨by omega, by omega⟩ (by omega) (by omega) ?_
  refine Rx.walk 4 (pc' := 19) (L' := [some (.ref 0), some (.int (iz 4)), some (.int (iz 1)), some (.int (iz 0)), some (.int (iz 11)), some (.int (iz 3))]) (st' := [.int (iz 0), .int (iz 11)]) (h' := cmH z zl (uf f 22 od) fl tx) rfl ?_
  refine Rx.callx (m' := m_X12_has) (as := [.int (iz 11), .int (iz 0)]) (rest := []) rfl (n_has_11_0 _ (cmH z zl (uf f 22 od) fl tx)   ) (fun v53 h54 q55 => ?_)
  obtain ⟨rfl, rfl⟩ := q55
  refine Rx.walk 0 (pc' := 22) (L' := [some (.ref 0), some (.int (iz 4)), some (.int (iz 1)), some (.int (iz 0)), some (.int (iz 11)), some (.int (iz 3))]) (st' := [.int (iz 1)]) (h' := cmH z zl (uf f 22 od) fl tx) rfl ?_
  refine Rx.ne1 rfl rfl ⟨by omega, by omega⟩ (fun b56 => ?_) (fun b56 => by omega)
  refine Rx.walk 3 (pc' := 40) (L' := [some (.ref 0), some (.int (iz 4)), some (.int (iz 1)), some (.int (iz 0)), some (.int (iz 11)), some (.int (iz 3))]) (st' := [.int (iz 0), .int (iz 11), .int (iz 1)]) (h' := cmH z zl (uf f 22 od) fl tx) rfl ?_
  refine Rx.callx (m' := m_X12_has) (as := [.int (iz 11), .int (iz 0)]) (rest := [.int (iz 1)]) rfl (n_has_11_0 _ (cmH z zl (uf f 22 od) fl tx)   ) (fun v57 h58 q59 => ?_)
  obtain ⟨rfl, rfl⟩ := q59
  refine Rx.walk 0 (pc' := 43) (L' := [some (.ref 0), some (.int (iz 4)), some (.int (iz 1)), some (.int (iz 0)), some (.int (iz 11)), some (.int (iz 3))]) (st' := [.int (iz 1), .int (iz 1)]) (h' := cmH z zl (uf f 22 od) fl tx) rfl ?_
  refine Rx.eq1 rfl rfl ⟨by omega, by omega⟩ (fun b60 => by omega) (fun b60 => ?_)
  refine Rx.walk 2 (pc' := 51) (L' := [some (.ref 0), some (.int (iz 4)), some (.int (iz 1)), some (.int (iz 0)), some (.int (iz 11)), some (.int (iz 3))]) (st' := [.int (iz 0), .int (iz 1)]) (h' := cmH z zl (uf f 22 od) fl tx) rfl ?_
  refine Rx.iadd rfl ?_
  refine Rx.walk 0 (pc' := 52) (L' := [some (.ref 0), some (.int (iz 4)), some (.int (iz 1)), some (.int (iz 0)), some (.int (iz 11)), some (.int (iz 3))]) (st' := [.int (iz 1)]) (h' := cmH z zl (uf f 22 od) fl tx) rfl ?_
  refine Rx.walk 3 (pc' := 55) (L' := [some (.ref 0), some (.int (iz 4)), some (.int (iz 1)), some (.int (iz 0)), some (.int (iz 11)), some (.int (iz 3))]) (st' := [.int (iz 1), .int (iz 0)]) (h' := cmH z zl (uf f 22 od) fl tx) rfl ?_
  refine Rx.iadd rfl ?_
  refine Rx.walk 0 (pc' := 56) (L' := [some (.ref 0), some (.int (iz 4)), some (.int (iz 1)), some (.int (iz 0)), some (.int (iz 11)), some (.int (iz 3))]) (st' := [.int (iz 1)]) (h' := cmH z zl (uf f 22 od) fl tx) rfl ?_
  refine Rx.walk 1 (pc' := 57) (L' := [some (.ref 0), some (.int (iz 4)), some (.int (iz 1)), some (.int (iz 0)), some (.int (iz 11)), some (.int (iz 3))]) (st' := [.int (iz 4), .int (iz 1)]) (h' := cmH z zl (uf f 22 od) fl tx) rfl ?_
  refine Rx.irem rfl ⟨by omega, by omega⟩ ⟨by omega, by omega⟩ (by omega) (by omega) ?_
  refine Rx.walk 4 (pc' := 19) (L' := [some (.ref 0), some (.int (iz 4)), some (.int (iz 1)), some (.int (iz 1)), some (.int (iz 11)), some (.int (iz 3))]) (st' := [.int (iz 1), .int (iz 11)]) (h' := cmH z zl (uf f 22 od) fl tx) rfl ?_
  refine Rx.callx (m' := m_X12_has) (as := [.int (iz 11), .int (iz 1)]) (rest := []) rfl (n_has_11_1 _ (cmH z zl (uf f 22 od) fl tx)   ) (fun v61 h62 q63 => ?_)
  obtain ⟨rfl, rfl⟩ := q63
  refine Rx.walk 0 (pc' := 22) (L' := [some (.ref 0), some (.int (iz 4)), some (.int (iz 1)), some (.int (iz 1)), some (.int (iz 11)), some (.int (iz 3))]) (st' := [.int (iz 1)]) (h' := cmH z zl (uf f 22 od) fl tx) rfl ?_
  refine Rx.ne1 rfl rfl ⟨by omega, by omega⟩ (fun b64 => ?_) (fun b64 => by omega)
  refine Rx.walk 3 (pc' := 40) (L' := [some (.ref 0), some (.int (iz 4)), some (.int (iz 1)), some (.int (iz 1)), some (.int (iz 11)), some (.int (iz 3))]) (st' := [.int (iz 1), .int (iz 11), .int (iz 1)]) (h' := cmH z zl (uf f 22 od) fl tx) rfl ?_
  refine Rx.callx (m' := m_X12_has) (as := [.int (iz 11), .int (iz 1)]) (rest := [.int (iz 1)]) rfl (n_has_11_1 _ (cmH z zl (uf f 22 od) fl tx)   ) (fun v65 h66 q67 => ?_)
  obtain ⟨rfl, rfl⟩ := q67
  refine Rx.walk 0 (pc' := 43) (L' := [some (.ref 0), some (.int (iz 4)), some (.int (iz 1)), some (.int (iz 1)), some (.int (iz 11)), some (.int (iz 3))]) (st' := [.int (iz 1), .int (iz 1)]) (h' := cmH z zl (uf f 22 od) fl tx) rfl ?_
  refine Rx.eq1 rfl rfl ⟨by omega, by omega⟩ (fun b68 => by omega) (fun b68 => ?_)
  refine Rx.walk 2 (pc' := 51) (L' := [some (.ref 0), some (.int (iz 4)), some (.int (iz 1)), some (.int (iz 1)), some (.int (iz 11)), some (.int (iz 3))]) (st' := [.int (iz 0), .int (iz 1)]) (h' := cmH z zl (uf f 22 od) fl tx) rfl ?_
  refine Rx.iadd rfl ?_
  refine Rx.walk 0 (pc' := 52) (L' := [some (.ref 0), some (.int (iz 4)), some (.int (iz 1)), some (.int (iz 1)), some (.int (iz 11)), some (.int (iz 3))]) (st' := [.int (iz 1)]) (h' := cmH z zl (uf f 22 od) fl tx) rfl ?_
  refine Rx.walk 3 (pc' := 55) (L' := [some (.ref 0), some (.int (iz 4)), some (.int (iz 1)), some (.int (iz 1)), some (.int (iz 11)), some (.int (iz 3))]) (st' := [.int (iz 1), .int (iz 1)]) (h' := cmH z zl (uf f 22 od) fl tx) rfl ?_
  refine Rx.iadd rfl ?_
  refine Rx.walk 0 (pc' := 56) (L' := [some (.ref 0), some (.int (iz 4)), some (.int (iz 1)), some (.int (iz 1)), some (.int (iz 11)), some (.int (iz 3))]) (st' := [.int (iz 2)]) (h' := cmH z zl (uf f 22 od) fl tx) rfl ?_
  refine Rx.walk 1 (pc' := 57) (L' := [some (.ref 0), some (.int (iz 4)), some (.int (iz 1)), some (.int (iz 1)), some (.int (iz 11)), some (.int (iz 3))]) (st' := [.int (iz 4), .int (iz 2)]) (h' := cmH z zl (uf f 22 od) fl tx) rfl ?_
  refine Rx.irem rfl ⟨by omega, by omega⟩ ⟨by omega, by omega⟩ (by omega) (by omega) ?_
  refine Rx.walk 4 (pc' := 19) (L' := [some (.ref 0), some (.int (iz 4)), some (.int (iz 1)), some (.int (iz 2)), some (.int (iz 11)), some (.int (iz 3))]) (st' := [.int (iz 2), .int (iz 11)]) (h' := cmH z zl (uf f 22 od) fl tx) rfl ?_
  refine Rx.callx (m' := m_X12_has) (as := [.int (iz 11), .int (iz 2)]) (rest := []) rfl (n_has_11_2 _ (cmH z zl (uf f 22 od) fl tx)   ) (fun v69 h70 q71 => ?_)
  obtain ⟨rfl, rfl⟩ := q71
  refine Rx.walk 0 (pc' := 22) (L' := [some (.ref 0), some (.int (iz 4)), some (.int (iz 1)), some (.int (iz 2)), some (.int (iz 11)), some (.int (iz 3))]) (st' := [.int (iz 0)]) (h' := cmH z zl (uf f 22 od) fl tx) rfl ?_
  refine Rx.ne1 rfl rfl ⟨by omega, by omega⟩ (fun b72 => by omega) (fun b72 => ?_)
  refine Rx.walk 4 (pc' := 32) (L' := [some (.ref 0), some (.int (iz 4)), some (.int (iz 1)), some (.int (iz 2)), some (.int (iz 11)), some (.int (iz 3))]) (st' := [.int (iz 3), .ref 22, .int (iz 2)]) (h' := cmH z zl (uf f 22 od) fl tx) rfl ?_
  refine Rx.ial (g := od) rfl rfl (by omega) (by omega) (by omega) ?_
  rw [show (od 3) = 2 from h3]
  refine Rx.eq2 rfl rfl ⟨by omega, by omega⟩ ⟨by omega, by omega⟩ (fun b73 => ?_) (fun b73 => by omega)
  refine Rx.walk 3 (pc' := 66) (L' := [some (.ref 0), some (.int (iz 4)), some (.int (iz 1)), some (.int (iz 2)), some (.int (iz 11)), some (.int (iz 3))]) (st' := [.int (iz 2), .int (iz 1), .int (iz 11)]) (h' := cmH z zl (uf f 22 od) fl tx) rfl ?_
  refine Rx.ishl (c := 4) rfl (by decide) ?_
  refine Rx.ior (c := 15) rfl (by decide) ?_
  refine Rx.walk 1 (pc' := 70) (L' := [some (.ref 0), some (.int (iz 4)), some (.int (iz 1)), some (.int (iz 2)), some (.int (iz 15)), some (.int (iz 3))]) (st' := []) (h' := cmH z zl (uf f 22 od) fl tx) rfl ?_
  refine Rx.iinc (b := 1) rfl rfl rfl ?_
  refine Rx.walk 0 (pc' := 73) (L' := [some (.ref 0), some (.int (iz 4)), some (.int (iz 1)), some (.int (iz 2)), some (.int (iz 15)), some (.int (iz 4))]) (st' := []) (h' := cmH z zl (uf f 22 od) fl tx) rfl ?_
  refine Rx.walk 3 (pc' := 13) (L' := [some (.ref 0), some (.int (iz 4)), some (.int (iz 1)), some (.int (iz 2)), some (.int (iz 15)), some (.int (iz 4))]) (st' := [.int (iz 4), .int (iz 4)]) (h' := cmH z zl (uf f 22 od) fl tx) rfl ?_
  refine Rx.ge2 rfl rfl ⟨by omega, by omega⟩ ⟨by omega, by omega⟩ (fun b74 => ?_) (fun b74 => by omega)
  refine Rx.walk 1 (pc' := 77) (L' := [some (.ref 0), some (.int (iz 4)), some (.int (iz 1)), some (.int (iz 2)), some (.int (iz 15)), some (.int (iz 4))]) (st' := [.int (iz 1)]) (h' := cmH z zl (uf f 22 od) fl tx) rfl ?_
  refine Rx.ret rfl ?_
  exact ⟨rfl, rfl⟩
set_option maxRecDepth 100000 in
set_option maxHeartbeats 4000000 in
theorem n_has_5_3 (d : Nat) (h0 : AmH)   : Rx (d) m_X12_has 0 (am_ent [.int (iz 5), .int (iz 3)] 2) [] (h0) (fun rv h => rv = some (.int (iz 0)) ∧ h0 = h) := ⟨_, _, ⟨100, rfl⟩, rfl, rfl⟩
set_option maxRecDepth 100000 in
set_option maxHeartbeats 4000000 in
theorem n_has_7_1 (d : Nat) (h0 : AmH)   : Rx (d) m_X12_has 0 (am_ent [.int (iz 7), .int (iz 1)] 2) [] (h0) (fun rv h => rv = some (.int (iz 1)) ∧ h0 = h) := ⟨_, _, ⟨100, rfl⟩, rfl, rfl⟩
set_option maxRecDepth 100000 in
set_option maxHeartbeats 4000000 in
theorem m_stepsOf4_2 (d : Nat) (z : Nat → Int) (zl : Nat → Int) (f : Nat → Int → Int) (fl : Nat → Int → Int) (tx : Nat)  (od : Int → Int) (h0 : od 0 = 0) (h1 : od 1 = 2) (h2 : od 2 = 1) (h3 : od 3 = 3) : Rx (d + 1) m_X12_stepsOf 0 (am_ent [.ref 0, .int (iz 4)] 6) [] (cmH z zl (uf f 22 od) fl tx) (fun rv h => rv = some (.int (iz 2)) ∧ h = cmH z zl (uf f 22 od) fl tx) := by
  refine Rx.walk 0 (pc' := 0) (L' := [some (.ref 0), some (.int (iz 4)), none, none, none, none]) (st' := []) (h' := cmH z zl (uf f 22 od) fl tx) rfl ?_
  refine Rx.walk 10 (pc' := 13) (L' := [some (.ref 0), some (.int (iz 4)), some (.int (iz 0)), some (.int (iz 0)), some (.int (iz 0)), some (.int (iz 0))]) (st' := [.int (iz 4), .int (iz 0)]) (h' := cmH z zl (uf f 22 od) fl tx) rfl ?_
  refine Rx.ge2 rfl rfl ⟨by omega, by omega⟩ ⟨by omega, by omega⟩ (fun b1 => by omega) (fun b1 => ?_)
  refine Rx.walk 2 (pc' := 19) (L' := [some (.ref 0), some (.int (iz 4)), some (.int (iz 0)), some (.int (iz 0)), some (.int (iz 0)), some (.int (iz 0))]) (st' := [.int (iz 0), .int (iz 0)]) (h' := cmH z zl (uf f 22 od) fl tx) rfl ?_
  refine Rx.callx (m' := m_X12_has) (as := [.int (iz 0), .int (iz 0)]) (rest := []) rfl (n_has_0_0 _ (cmH z zl (uf f 22 od) fl tx)   ) (fun v2 h3 q4 => ?_)
  obtain ⟨rfl, rfl⟩ := q4
  refine Rx.walk 0 (pc' := 22) (L' := [some (.ref 0), some (.int (iz 4)), some (.int (iz 0)), some (.int (iz 0)), some (.int (iz 0)), some (.int (iz 0))]) (st' := [.int (iz 0)]) (h' := cmH z zl (uf f 22 od) fl tx) rfl ?_
  refine Rx.ne1 rfl rfl ⟨by omega, by omega⟩ (fun b5 => by omega) (fun b5 => ?_)
  refine Rx.walk 4 (pc' := 32) (L' := [some (.ref 0), some (.int (iz 4)), some (.int (iz 0)), some (.int (iz 0)), some (.int (iz 0)), some (.int (iz 0))]) (st' := [.int (iz 0), .ref 22, .int (iz 0)]) (h' := cmH z zl (uf f 22 od) fl tx) rfl ?_
  refine Rx.ial (g := od) rfl rfl (by omega) (by omega) (by omega) ?_
  rw [show (od 0) = 0 from h0]
  refine Rx.eq2 rfl rfl ⟨by omega, by omega⟩ ⟨by omega, by omega⟩ (fun b6 => ?_) (fun b6 => by omega)
  refine Rx.walk 3 (pc' := 66) (L' := [some (.ref 0), some (.int (iz 4)), some (.int (iz 0)), some (.int (iz 0)), some (.int (iz 0)), some (.int (iz 0))]) (st' := [.int (iz 0), .int (iz 1), .int (iz 0)]) (h' := cmH z zl (uf f 22 od) fl tx) rfl ?_
  refine Rx.ishl (c := 1) rfl (by decide) ?_
  refine Rx.ior (c := 1) rfl (by decide) ?_
  refine Rx.walk 1 (pc' := 70) (L' := [some (.ref 0), some (.int (iz 4)), some (.int (iz 0)), some (.int (iz 0)), some (.int (iz 1)), some (.int (iz 0))]) (st' := []) (h' := cmH z zl (uf f 22 od) fl tx) rfl ?_
  refine Rx.iinc (b := 1) rfl rfl rfl ?_
  refine Rx.walk 0 (pc' := 73) (L' := [some (.ref 0), some (.int (iz 4)), some (.int (iz 0)), some (.int (iz 0)), some (.int (iz 1)), some (.int (iz 1))]) (st' := []) (h' := cmH z zl (uf f 22 od) fl tx) rfl ?_
  refine Rx.walk 3 (pc' := 13) (L' := [some (.ref 0), some (.int (iz 4)), some (.int (iz 0)), some (.int (iz 0)), some (.int (iz 1)), some (.int (iz 1))]) (st' := [.int (iz 4), .int (iz 1)]) (h' := cmH z zl (uf f 22 od) fl tx) rfl ?_
  refine Rx.ge2 rfl rfl ⟨by omega, by omega⟩ ⟨by omega, by omega⟩ (fun b7 => by omega) (fun b7 => ?_)
  refine Rx.walk 2 (pc' := 19) (L' := [some (.ref 0), some (.int (iz 4)), some (.int (iz 0)), some (.int (iz 0)), some (.int (iz 1)), some (.int (iz 1))]) (st' := [.int (iz 0), .int (iz 1)]) (h' := cmH z zl (uf f 22 od) fl tx) rfl ?_
  refine Rx.callx (m' := m_X12_has) (as := [.int (iz 1), .int (iz 0)]) (rest := []) rfl (n_has_1_0 _ (cmH z zl (uf f 22 od) fl tx)   ) (fun v8 h9 q10 => ?_)
  obtain ⟨rfl, rfl⟩ := q10
  refine Rx.walk 0 (pc' := 22) (L' := [some (.ref 0), some (.int (iz 4)), some (.int (iz 0)), some (.int (iz 0)), some (.int (iz 1)), some (.int (iz 1))]) (st' := [.int (iz 1)]) (h' := cmH z zl (uf f 22 od) fl tx) rfl ?_
  refine Rx.ne1 rfl rfl ⟨by omega, by omega⟩ (fun b11 => ?_) (fun b11 => by omega)
  refine Rx.walk 3 (pc' := 40) (L' := [some (.ref 0), some (.int (iz 4)), some (.int (iz 0)), some (.int (iz 0)), some (.int (iz 1)), some (.int (iz 1))]) (st' := [.int (iz 0), .int (iz 1), .int (iz 0)]) (h' := cmH z zl (uf f 22 od) fl tx) rfl ?_
  refine Rx.callx (m' := m_X12_has) (as := [.int (iz 1), .int (iz 0)]) (rest := [.int (iz 0)]) rfl (n_has_1_0 _ (cmH z zl (uf f 22 od) fl tx)   ) (fun v12 h13 q14 => ?_)
  obtain ⟨rfl, rfl⟩ := q14
  refine Rx.walk 0 (pc' := 43) (L' := [some (.ref 0), some (.int (iz 4)), some (.int (iz 0)), some (.int (iz 0)), some (.int (iz 1)), some (.int (iz 1))]) (st' := [.int (iz 1), .int (iz 0)]) (h' := cmH z zl (uf f 22 od) fl tx) rfl ?_
  refine Rx.eq1 rfl rfl ⟨by omega, by omega⟩ (fun b15 => by omega) (fun b15 => ?_)
  refine Rx.walk 2 (pc' := 51) (L' := [some (.ref 0), some (.int (iz 4)), some (.int (iz 0)), some (.int (iz 0)), some (.int (iz 1)), some (.int (iz 1))]) (st' := [.int (iz 0), .int (iz 0)]) (h' := cmH z zl (uf f 22 od) fl tx) rfl ?_
  refine Rx.iadd rfl ?_
  refine Rx.walk 0 (pc' := 52) (L' := [some (.ref 0), some (.int (iz 4)), some (.int (iz 0)), some (.int (iz 0)), some (.int (iz 1)), some (.int (iz 1))]) (st' := [.int (iz 0)]) (h' := cmH z zl (uf f 22 od) fl tx) rfl ?_
  refine Rx.walk 3 (pc' := 55) (L' := [some (.ref 0), some (.int (iz 4)), some (.int (iz 0)), some (.int (iz 0)), some (.int (iz 1)), some (.int (iz 1))]) (st' := [.int (iz 1), .int (iz 0)]) (h' := cmH z zl (uf f 22 od) fl tx) rfl ?_
  refine Rx.iadd rfl ?_
  refine Rx.walk 0 (pc' := 56) (L' := [some (.ref 0), some (.int (iz 4)), some (.int (iz 0)), some (.int (iz 0)), some (.int (iz 1)), some (.int (iz 1))]) (st' := [.int (iz 1)]) (h' := cmH z zl (uf f 22 od) fl tx) rfl ?_
  refine Rx.walk 1 (pc' := 57) (L' := [some (.ref 0), some (.int (iz 4)), some (.int (iz 0)), some (.int (iz 0)), some (.int (iz 1)), some (.int (iz 1))]) (st' := [.int (iz 4), .int (iz 1)]) (h' := cmH z zl (uf f 22 od) fl tx) rfl ?_
  refine Rx.irem rfl ⟨by omega, by omega⟩ ⟨by omega, by omega⟩ (by omega) (by omega) ?_
  refine Rx.walk 4 (pc' := 19) (L' := [some (.ref 0), some (.int (iz 4)), some (.int (iz 0)), some (.int (iz 1)), some (.int (iz 1)), some (.int (iz 1))]) (st' := [.int (iz 1), .int (iz 1)]) (h' := cmH z zl (uf f 22 od) fl tx) rfl ?_
  refine Rx.callx (m' := m_X12_has) (as := [.int (iz 1), .int (iz 1)]) (rest := []) rfl (n_has_1_1 _ (cmH z zl (uf f 22 od) fl tx)   ) (fun v16 h17 q18 => ?_)
  obtain ⟨rfl, rfl⟩ := q18
  refine Rx.walk 0 (pc' := 22) (L' := [some (.ref 0), some (.int (iz 4)), some (.int (iz 0)), some (.int (iz 1)), some (.int (iz 1)), some (.int (iz 1))]) (st' := [.int (iz 0)]) (h' := cmH z zl (uf f 22 od) fl tx) rfl ?_
  refine Rx.ne1 rfl rfl ⟨by omega, by omega⟩ (fun b19 => by omega) (fun b19 => ?_)
  refine Rx.walk 4 (pc' := 32) (L' := [some (.ref 0), some (.int (iz 4)), some (.int (iz 0)), some (.int (iz 1)), some (.int (iz 1)), some (.int (iz 1))]) (st' := [.int (iz 1), .ref 22, .int (iz 1)]) (h' := cmH z zl (uf f 22 od) fl tx) rfl ?_
  refine Rx.ial (g := od) rfl rfl (by omega) (by omega) (by omega) ?_
  rw [show (od 1) = 2 from h1]
  refine Rx.eq2 rfl rfl ⟨by omega, by omega⟩ ⟨by omega, by omega⟩ (fun b20 => by omega) (fun b20 => ?_)
  refine Rx.walk 3 (pc' := 40) (L' := [some (.ref 0), some (.int (iz 4)), some (.int (iz 0)), some (.int (iz 1)), some (.int (iz 1)), some (.int (iz 1))]) (st' := [.int (iz 1), .int (iz 1), .int (iz 0)]) (h' := cmH z zl (uf f 22 od) fl tx) rfl ?_
  refine Rx.callx (m' := m_X12_has) (as := [.int (iz 1), .int (iz 1)]) (rest := [.int (iz 0)]) rfl (n_has_1_1 _ (cmH z zl (uf f 22 od) fl tx)   ) (fun v21 h22 q23 => ?_)
  obtain ⟨rfl, rfl⟩ := q23
  refine Rx.walk 0 (pc' := 43) (L' := [some (.ref 0), some (.int (iz 4)), some (.int (iz 0)), some (.int (iz 1)), some (.int (iz 1)), some (.int (iz 1))]) (st' := [.int (iz 0), .int (iz 0)]) (h' := cmH z zl (uf f 22 od) fl tx) rfl ?_
  refine Rx.eq1 rfl rfl ⟨by omega, by omega⟩ (fun b24 => ?_) (fun b24 => by omega)
  refine Rx.walk 1 (pc' := 51) (L' := [some (.ref 0), some (.int (iz 4)), some (.int (iz 0)), some (.int (iz 1)), some (.int (iz 1)), some (.int (iz 1))]) (st' := [.int (iz 1), .int (iz 0)]) (h' := cmH z zl (uf f 22 od) fl tx) rfl ?_
  refine Rx.iadd rfl ?_
  refine Rx.walk 0 (pc' := 52) (L' := [some (.ref 0), some (.int (iz 4)), some (.int (iz 0)), some (.int (iz 1)), some (.int (iz 1)), some (.int (iz 1))]) (st' := [.int (iz 1)]) (h' := cmH z zl (uf f 22 od) fl tx) rfl ?_
  refine Rx.walk 3 (pc' := 55) (L' := [some (.ref 0), some (.int (iz 4)), some (.int (iz 1)), some (.int (iz 1)), some (.int (iz 1)), some (.int (iz 1))]) (st' := [.int (iz 1), .int (iz 1)]) (h' := cmH z zl (uf f 22 od) fl tx) rfl ?_
  refine Rx.iadd rfl ?_
  refine Rx.walk 0 (pc' := 56) (L' := [some (.ref 0), some (.int (iz 4)), some (.int (iz 1)), some (.int (iz 1)), some (.int (iz 1)), some (.int (iz 1))]) (st' := [.int (iz 2)]) (h' := cmH z zl (uf f 22 od) fl tx) rfl ?_
  refine Rx.walk 1 (pc' := 57) (L' := [some (.ref 0), some (.int (iz 4)), some (.int (iz 1)), some (.int (iz 1)), some (.int (iz 1)), some (.int (iz 1))]) (st' := [.int (iz 4), .int (iz 2)]) (h' := cmH z zl (uf f 22 od) fl tx) rfl ?_
  refine Rx.irem rfl ⟨by omega, by omega⟩ ⟨by omega, by omega⟩ (by omega) (by omega) ?_
  refine Rx.walk 4 (pc' := 19) (L' := [some (.ref 0), some (.int (iz 4)), some (.int (iz 1)), some (.int (iz 2)), some (.int (iz 1)), some (.int (iz 1))]) (st' := [.int (iz 2), .int (iz 1)]) (h' := cmH z zl (uf f 22 od) fl tx) rfl ?_
  refine Rx.callx (m' := m_X12_has) (as := [.int (iz 1), .int (iz 2)]) (rest := []) rfl (n_has_1_2 _ (cmH z zl (uf f 22 od) fl tx)   ) (fun v25 h26 q27 => ?_)
  obtain ⟨rfl, rfl⟩ := q27
  refine Rx.walk 0 (pc' := 22) (L' := [some (.ref 0), some (.int (iz 4)), some (.int (iz 1)), some (.int (iz 2)), some (.int (iz 1)), some (.int (iz 1))]) (st' := [.int (iz 0)]) (h' := cmH z zl (uf f 22 od) fl tx) rfl ?_
  refine Rx.ne1 rfl rfl ⟨by omega, by omega⟩ (fun b28 => by omega) (fun b28 => ?_)
  refine Rx.walk 4 (pc' := 32) (L' := [some (.ref 0), some (.int (iz 4)), some (.int (iz 1)), some (.int (iz 2)), some (.int (iz 1)), some (.int (iz 1))]) (st' := [.int (iz 1), .ref 22, .int (iz 2)]) (h' := cmH z zl (uf f 22 od) fl tx) rfl ?_
  refine Rx.ial (g := od) rfl rfl (by omega) (by omega) (by omega) ?_
  rw [show (od 1) = 2 from h1]
  refine Rx.eq2 rfl rfl ⟨by omega, by omega⟩ ⟨by omega, by omega⟩ (fun b29 => ?_) (fun b29 => by omega)
  refine Rx.walk 3 (pc' := 66) (L' := [some (.ref 0), some (.int (iz 4)), some (.int (iz 1)), some (.int (iz 2)), some (.int (iz 1)), some (.int (iz 1))]) (st' := [.int (iz 2), .int (iz 1), .int (iz 1)]) (h' := cmH z zl (uf f 22 od) fl tx) rfl ?_
  refine Rx.ishl (c := 4) rfl (by decide) ?_
  refine Rx.ior (c := 5) rfl (by decide) ?_
  refine Rx.walk 1 (pc' := 70) (L' := [some (.ref 0), some (.int (iz 4)), some (.int (iz 1)), some (.int (iz 2)), some (.int (iz 5)), some (.int (iz 1))]) (st' := []) (h' := cmH z zl (uf f 22 od) fl tx) rfl ?_
  refine Rx.iinc (b := 1) rfl rfl rfl ?_
  refine Rx.walk 0 (pc' := 73) (L' := [some (.ref 0), some (.int (iz 4)), some (.int (iz 1)), some (.int (iz 2)), some (.int (iz 5)), some (.int (iz 2))]) (st' := []) (h' := cmH z zl (uf f 22 od) fl tx) rfl ?_
  refine Rx.walk 3 (pc' := 13) (L' := [some (.ref 0), some (.int (iz 4)), some (.int (iz 1)), some (.int (iz 2)), some (.int (iz 5)), some (.int (iz 2))]) (st' := [.int (iz 4), .int (iz 2)]) (h' := cmH z zl (uf f 22 od) fl tx) rfl ?_
  refine Rx.ge2 rfl rfl ⟨by omega, by omega⟩ ⟨by omega, by omega⟩ (fun b30 => by omega) (fun b30 => ?_)
  refine Rx.walk 2 (pc' := 19) (L' := [some (.ref 0), some (.int (iz 4)), some (.int (iz 1)), some (.int (iz 2)), some (.int (iz 5)), some (.int (iz 2))]) (st' := [.int (iz 2), .int (iz 5)]) (h' := cmH z zl (uf f 22 od) fl tx) rfl ?_
  refine Rx.callx (m' := m_X12_has) (as := [.int (iz 5), .int (iz 2)]) (rest := []) rfl (n_has_5_2 _ (cmH z zl (uf f 22 od) fl tx)   ) (fun v31 h32 q33 => ?_)
  obtain ⟨rfl, rfl⟩ := q33
  refine Rx.walk 0 (pc' := 22) (L' := [some (.ref 0), some (.int (iz 4)), some (.int (iz 1)), some (.int (iz 2)), some (.int (iz 5)), some (.int (iz 2))]) (st' := [.int (iz 1)]) (h' := cmH z zl (uf f 22 od) fl tx) rfl ?_
  refine Rx.ne1 rfl rfl ⟨by omega, by omega⟩ (fun b34 => ?_) (fun b34 => by omega)
  refine Rx.walk 3 (pc' := 40) (L' := [some (.ref 0), some (.int (iz 4)), some (.int (iz 1)), some (.int (iz 2)), some (.int (iz 5)), some (.int (iz 2))]) (st' := [.int (iz 2), .int (iz 5), .int (iz 1)]) (h' := cmH z zl (uf f 22 od) fl tx) rfl ?_
  refine Rx.callx (m' := m_X12_has) (as := [.int (iz 5), .int (iz 2)]) (rest := [.int (iz 1)]) rfl (n_has_5_2 _ (cmH z zl (uf f 22 od) fl tx)   ) (fun v35 h36 q37 => ?_)
  obtain ⟨rfl, rfl⟩ := q37
  refine Rx.walk 0 (pc' := 43) (L' := [some (.ref 0), some (.int (iz 4)), some (.int (iz 1)), some (.int (iz 2)), some (.int (iz 5)), some (.int (iz 2))]) (st' := [.int (iz 1), .int (iz 1)]) (h' := cmH z zl (uf f 22 od) fl tx) rfl ?_
  refine Rx.eq1 rfl rfl ⟨by omega, by omega⟩ (fun b38 => by omega) (fun b38 => ?_)
  refine Rx.walk 2 (pc' := 51) (L' := [some (.ref 0), some (.int (iz 4)), some (.int (iz 1)), some (.int (iz 2)), some (.int (iz 5)), some (.int (iz 2))]) (st' := [.int (iz 0), .int (iz 1)]) (h' := cmH z zl (uf f 22 od) fl tx) rfl ?_
  refine Rx.iadd rfl ?_
  refine Rx.walk 0 (pc' := 52) (L' := [some (.ref 0), some (.int (iz 4)), some (.int (iz 1)), some (.int (iz 2)), some (.int (iz 5)), some (.int (iz 2))]) (st' := [.int (iz 1)]) (h' := cmH z zl (uf f 22 od) fl tx) rfl ?_
  refine Rx.walk 3 (pc' := 55) (L' := [some (.ref 0), some (.int (iz 4)), some (.int (iz 1)), some (.int (iz 2)), some (.int (iz 5)), some (.int (iz 2))]) (st' := [.int (iz 1), .int (iz 2)]) (h' := cmH z zl (uf f 22 od) fl tx) rfl ?_
  refine Rx.iadd rfl ?_
  refine Rx.walk 0 (pc' := 56) (L' := [some (.ref 0), some (.int (iz 4)), some (.int (iz 1)), some (.int (iz 2)), some (.int (iz 5)), some (.int (iz 2))]) (st' := [.int (iz 3)]) (h' := cmH z zl (uf f 22 od) fl tx) rfl ?_
  refine Rx.walk 1 (pc' := 57) (L' := [some (.ref 0), some (.int (iz 4)), some (.int (iz 1)), some (.int (iz 2)), some (.int (iz 5)), some (.int (iz 2))]) (st' := [.int (iz 4), .int (iz 3)]) (h' := cmH z zl (uf f 22 od) fl tx) rfl ?_
  refine Rx.irem rfl ⟨by omega, by omega⟩ ⟨by omega, by omega⟩ (by omega) (by omega) ?_
  refine Rx.walk 4 (pc' := 19) (L' := [some (.ref 0), some (.int (iz 4)), some (.int (iz 1)), some (.int (iz 3)), some (.int (iz 5)), some (.int (iz 2))]) (st' := [.int (iz 3), .int (iz 5)]) (h' := cmH z zl (uf f 22 od) fl tx) rfl ?_
  refine Rx.callx (m' := m_X12_has) (as := [.int (iz 5), .int (iz 3)]) (rest := []) rfl (n_has_5_3 _ (cmH z zl (uf f 22 od) fl tx)   ) (fun v39 h40 q41 => ?_)
  obtain ⟨rfl, rfl⟩ := q41
  refine Rx.walk 0 (pc' := 22) (L' := [some (.ref 0), some (.int (iz 4)), some (.int (iz 1)), some (.int (iz 3)), some (.int (iz 5)), some (.int (iz 2))]) (st' := [.int (iz 0)]) (h' := cmH z zl (uf f 22 od) fl tx) rfl ?_
  refine Rx.ne1 rfl rfl ⟨by omega, by omega⟩ (fun b42 => by omega) (fun b42 => ?_)
  refine Rx.walk 4 (pc' := 32) (L' := [some (.ref 0), some (.int (iz 4)), some (.int (iz 1)), some (.int (iz 3)), some (.int (iz 5)), some (.int (iz 2))]) (st' := [.int (iz 2), .ref 22, .int (iz 3)]) (h' := cmH z zl (uf f 22 od) fl tx) rfl ?_
  refine Rx.ial (g := od) rfl rfl (by omega) (by omega) (by omega) ?_
  rw [show (od 2) = 1 from h2]
  refine Rx.eq2 rfl rfl ⟨by omega, by omega⟩ ⟨by omega, by omega⟩ (fun b43 => by omega) (fun b43 => ?_)
  refine Rx.walk 3 (pc' := 40) (L' := [some (.ref 0), some (.int (iz 4)), some (.int (iz 1)), some (.int (iz 3)), some (.int (iz 5)), some (.int (iz 2))]) (st' := [.int (iz 3), .int (iz 5), .int (iz 1)]) (h' := cmH z zl (uf f 22 od) fl tx) rfl ?_
  refine Rx.callx (m' := m_X12_has) (as := [.int (iz 5), .int (iz 3)]) (rest := [.int (iz 1)]) rfl (n_has_5_3 _ (cmH z zl (uf f 22 od) fl tx)   ) (fun v44 h45 q46 => ?_)
  obtain ⟨rfl, rfl⟩ := q46
  refine Rx.walk 0 (pc' := 43) (L' := [some (.ref 0), some (.int (iz 4)), some (.int (iz 1)), some (.int (iz 3)), some (.int (iz 5)), some (.int (iz 2))]) (st' := [.int (iz 0), .int (iz 1)]) (h' := cmH z zl (uf f 22 od) fl tx) rfl ?_
  refine Rx.eq1 rfl rfl ⟨by omega, by omega⟩ (fun b47 => ?_) (fun b47 => by omega)
  refine Rx.walk 1 (pc' := 51) (L' := [some (.ref 0), some (.int (iz 4)), some (.int (iz 1)), some (.int (iz 3)), some (.int (iz 5)), some (.int (iz 2))]) (st' := [.int (iz 1), .int (iz 1)]) (h' := cmH z zl (uf f 22 od) fl tx) rfl ?_
  refine Rx.iadd rfl ?_
  refine Rx.walk 0 (pc' := 52) (L' := [some (.ref 0), some (.int (iz 4)), some (.int (iz 1)), some (.int (iz 3)), some (.int (iz 5)), some (.int (iz 2))]) (st' := [.int (iz 2)]) (h' := cmH z zl (uf f 22 od) fl tx) rfl ?_
  refine Rx.walk 3 (pc' := 55) (L' := [some (.ref 0), some (.int (iz 4)), some (.int (iz 2)), some (.int (iz 3)), some (.int (iz 5)), some (.int (iz 2))]) (st' := [.int (iz 1), .int (iz 3)]) (h' := cmH z zl (uf f 22 od) fl tx) rfl ?_
  refine Rx.iadd rfl ?_
  refine Rx.walk 0 (pc' := 56) (L' := [some (.ref 0), some (.int (iz 4)), some (.int (iz 2)), some (.int (iz 3)), some (.int (iz 5)), some (.int (iz 2))]) (st' := [.int (iz 4)]) (h' := cmH z zl (uf f 22 od) fl tx) rfl ?_
  refine Rx.walk 1 (pc' := 57) (L' := [some (.ref 0), some (.int (iz 4)), some (.int (iz 2)), some (.int (iz 3)), some (.int (iz 5)), some (.int (iz 2))]) (st' := [.int (iz 4), .int (iz 4)]) (h' := cmH z zl (uf f 22 od) fl tx) rfl ?_
  refine Rx.irem rfl ⟨by omega, by omega⟩ ⟨by omega, by omega⟩ (by omega) (by omega) ?_
  refine Rx.walk 4 (pc' := 19) (L' := [some (.ref 0), some (.int (iz 4)), some (.int (iz 2)), some (.int (iz 0)), some (.int (iz 5)), some (.int (iz 2))]) (st' := [.int (iz 0), .int (iz 5)]) (h' := cmH z zl (uf f 22 od) fl tx) rfl ?_
  refine Rx.callx (m' := m_X12_has) (as := [.int (iz 5), .int (iz 0)]) (rest := []) rfl (n_has_5_0 _ (cmH z zl (uf f 22 od) fl tx)   ) (fun v48 h49 q50 => ?_)
  obtain ⟨rfl, rfl⟩ := q50
  refine Rx.walk 0 (pc' := 22) (L' := [some (.ref 0), some (.int (iz 4)), some (.int (iz 2)), some (.int (iz 0)), some (.int (iz 5)), some (.int (iz 2))]) (st' := [.int (iz 1)]) (h' := cmH z zl (uf f 22 od) fl tx) rfl ?_
  refine Rx.ne1 rfl rfl ⟨by omega, by omega⟩ (fun b51 => ?_) (fun b51 => by omega)
  refine Rx.walk 3 (pc' := 40) (L' := [some (.ref 0), some (.int (iz 4)), some (.int (iz 2)), some (.int (iz 0)), some (.int (iz 5)), some (.int (iz 2))]) (st' := [.int (iz 0), .int (iz 5), .int (iz 2)]) (h' := cmH z zl (uf f 22 od) fl tx) rfl ?_
  refine Rx.callx (m' := m_X12_has) (as := [.int (iz 5), .int (iz 0)]) (rest := [.int (iz 2)]) rfl (n_has_5_0 _ (cmH z zl (uf f 22 od) fl tx)   ) (fun v52 h53 q54 => ?_)
  obtain ⟨rfl, rfl⟩ := q54
  refine Rx.walk 0 (pc' := 43) (L' := [some (.ref 0), some (.int (iz 4)), some (.int (iz 2)), some (.int (iz 0)), some (.int (iz 5)), some (.int (iz 2))]) (st' := [.int (iz 1), .int (iz 2)]) (h' := cmH z zl (uf f 22 od) fl tx) rfl ?_
  refine Rx.eq1 rfl rfl ⟨by omega, by omega⟩ (fun b55 => by omega) (fun b55 => ?_)
  refine Rx.walk 2 (pc' := 51) (L' := [some (.ref 0), some (.int (iz 4)), some (.int (iz 2)), some (.int (iz 0)), some (.int (iz 5)), some (.int (iz 2))]) (st' := [.int (iz 0), .int (iz 2)]) (h' := cmH z zl (uf f 22 od) fl tx) rfl ?_
  refine Rx.iadd rfl ?_
  refine Rx.walk 0 (pc' := 52) (L' := [some (.ref 0), some (.int (iz 4)), some (.int (iz 2)), some (.int (iz 0)), some (.int (iz 5)), some (.int (iz 2))]) (st' := [.int (iz 2)]) (h' := cmH z zl (uf f 22 od) fl tx) rfl ?_
  refine Rx.walk 3 (pc' := 55) (L' := [some (.ref 0), some (.int (iz 4)), some (.int (iz 2)), some (.int (iz 0)), some (.int (iz 5)), some (.int (iz 2))]) (st' := [.int (iz 1), .int (iz 0)]) (h' := cmH z zl (uf f 22 od) fl tx) rfl ?_
  refine Rx.iadd rfl ?_
  refine Rx.walk 0 (pc' := 56) (L' := [some (.ref 0), some (.int (iz 4)), some (.int (iz 2)), some (.int (iz 0)), some (.int (iz 5)), some (.int (iz 2))]) (st' := [.int (iz 1)]) (h' := cmH z zl (uf f 22 od) fl tx) rfl ?_
  refine Rx.walk 1 (pc' := 57) (L' := [some (.ref 0), some (.int (iz 4)), some (.int (iz 2)), some (.int (iz 0)), some (.int (iz 5)), some (.int (iz 2))]) (st' := [.int (iz 4), .int (iz 1)]) (h' := cmH z zl (uf f 22 od) fl tx) rfl ?_
  refine Rx.irem rfl ⟨by omega, by omega⟩ ⟨by omega, by omega⟩ (by omega) (by omega) ?_
  refine Rx.walk 4 (pc' := 19) (L' := [some (.ref 0), some (.int (iz 4)), some (.int (iz 2)), some (.int (iz 1)), some (.int (iz 5)), some (.int (iz 2))]) (st' := [.int (iz 1), .int (iz 5)]) (h' := cmH z zl (uf f 22 od) fl tx) rfl ?_
  refine Rx.callx (m' := m_X12_has) (as := [.int (iz 5), .int (iz 1)]) (rest := []) rfl (n_has_5_1 _ (cmH z zl (uf f 22 od) fl tx)   ) (fun v56 h57 q58 => ?_)
  obtain ⟨rfl, rfl⟩ := q58
  refine Rx.walk 0 (pc' := 22) (L' := [some (.ref 0), some (.int (iz 4)), some (.int (iz 2)), some (.int (iz 1)), some (.int (iz 5)), some (.int (iz 2))]) (st' := [.int (iz 0)]) (h' := cmH z zl (uf f 22 od) fl tx) rfl ?_
  refine Rx.ne1 rfl rfl ⟨by omega, by omega⟩ (fun b59 => by omega) (fun b59 => ?_)
  refine Rx.walk 4 (pc' := 32) (L' := [some (.ref 0), some (.int (iz 4)), some (.int (iz 2)), some (.int (iz 1)), some (.int (iz 5)), some (.int (iz 2))]) (st' := [.int (iz 2), .ref 22, .int (iz 1)]) (h' := cmH z zl (uf f 22 od) fl tx) rfl ?_
  refine Rx.ial (g := od) rfl rfl (by omega) (by omega) (by omega) ?_
  rw [show (od 2) = 1 from h2]
  refine Rx.eq2 rfl rfl ⟨by omega, by omega⟩ ⟨by omega, by omega⟩ (fun b60 => ?_) (fun b60 => by omega)
  refine Rx.walk 3 (pc' := 66) (L' := [some (.ref 0), some (.int (iz 4)), some (.int (iz 2)), some (.int (iz 1)), some (.int (iz 5)), some (.int (iz 2))]) (st' := [.int (iz 1), .int (iz 1), .int (iz 5)]) (h' := cmH z zl (uf f 22 od) fl tx) rfl ?_
  refine Rx.ishl (c := 2) rfl (by decide) ?_
  refine Rx.ior (c := 7) rfl (by decide) ?_
  refine Rx.walk 1 (pc' := 70) (L' := [some (.ref 0), some (.int (iz 4)), some (.int (iz 2)), some (.int (iz 1)), some (.int (iz 7)), some (.int (iz 2))]) (st' := []) (h' := cmH z zl (uf f 22 od) fl tx) rfl ?_
  refine Rx.iinc (b := 1) rfl rfl rfl ?_
  refine Rx.walk 0 (pc' := 73) (L' := [some (.ref 0), some (.int (iz 4)), some (.int (iz 2)), some (.int (iz 1)), some (.int (iz 7)), some (.int (iz 3))]) (st' := []) (h' := cmH z zl (uf f 22 od) fl tx) rfl ?_
  refine Rx.walk 3 (pc' := 13) (L' := [some (.ref 0), some (.int (iz 4)), some (.int (iz 2)), some (.int (iz 1)), some (.int (iz 7)), some (.int (iz 3))]) (st' := [.int (iz 4), .int (iz 3)]) (h' := cmH z zl (uf f 22 od) fl tx) rfl ?_
  refine Rx.ge2 rfl rfl ⟨by omega, by omega⟩ ⟨by omega, by omega⟩ (fun b61 => by omega) (fun b61 => ?_)
  refine Rx.walk 2 (pc' := 19) (L' := [some (.ref 0), some (.int (iz 4)), some (.int (iz 2)), some (.int (iz 1)), some (.int (iz 7)), some (.int (iz 3))]) (st' := [.int (iz 1), .int (iz 7)]) (h' := cmH z zl (uf f 22 od) fl tx) rfl ?_
  refine Rx.callx (m' := m_X12_has) (as := [.int (iz 7), .int (iz 1)]) (rest := []) rfl (n_has_7_1 _ (cmH z zl (uf f 22 od) fl tx)   ) (fun v62 h63 q64 => ?_)
  obtain ⟨rfl, rfl⟩ := q64
  refine Rx.walk 0 (pc' := 22) (L' := [some (.ref 0), some (.int (iz 4)), some (.int (iz 2)), some (.int (iz 1)), some (.int (iz 7)), some (.int (iz 3))]) (st' := [.int (iz 1)]) (h' := cmH z zl (uf f 22 od) fl tx) rfl ?_
  refine Rx.ne1 rfl rfl ⟨by omega, by omega⟩ (fun b65 => ?_) (fun b65 => by omega)
  refine Rx.walk 3 (pc' := 40) (L' := [some (.ref 0), some (.int (iz 4)), some (.int (iz 2)), some (.int (iz 1)), some (.int (iz 7)), some (.int (iz 3))]) (st' := [.int (iz 1), .int (iz 7), .int (iz 2)]) (h' := cmH z zl (uf f 22 od) fl tx) rfl ?_
  refine Rx.callx (m' := m_X12_has) (as := [.int (iz 7), .int (iz 1)]) (rest := [.int (iz 2)]) rfl (n_has_7_1 _ (cmH z zl (uf f 22 od) fl tx)   ) (fun v66 h67 q68 => ?_)
  obtain ⟨rfl, rfl⟩ := q68
  refine Rx.walk 0 (pc' := 43) (L' := [some (.ref 0), some (.int (iz 4)), some (.int (iz 2)), some (.int (iz 1)), some (.int (iz 7)), some (.int (iz 3))]) (st' := [.int (iz 1), .int (iz 2)]) (h' := cmH z zl (uf f 22 od) fl tx) rfl ?_
  refine Rx.eq1 rfl rfl ⟨by omega, by omega⟩ (fun b69 => by omega) (fun b69 => ?_)
  refine Rx.walk 2 (pc' := 51) (L' := [some (.ref 0), some (.int (iz 4)), some (.int (iz 2)), some (.int (iz 1)), some (.int (iz 7)), some (.int (iz 3))]) (st' := [.int (iz 0), .int (iz 2)]) (h' := cmH z zl (uf f 22 od) fl tx) rfl ?_
  refine Rx.iadd rfl ?_
  refine Rx.walk 0 (pc' := 52) (L' := [some (.ref 0), some (.int (iz 4)), some (.int (iz 2)), some (.int (iz 1)), some (.int (iz 7)), some (.int (iz 3))]) (st' := [.int (iz 2)]) (h' := cmH z zl (uf f 22 od) fl tx) rfl ?_
  refine Rx.walk 3 (pc' := 55) (L' := [some (.ref 0), some (.int (iz 4)), some (.int (iz 2)), some (.int (iz 1)), some (.int (iz 7)), some (.int (iz 3))]) (st' := [.int (iz 1), .int (iz 1)]) (h' := cmH z zl (uf f 22 od) fl tx) rfl ?_
  refine Rx.iadd rfl ?_
  refine Rx.walk 0 (pc' := 56) (L' := [some (.ref 0), some (.int (iz 4)), some (.int (iz 2)), some (.int (iz 1)), some (.int (iz 7)), some (.int (iz 3))]) (st' := [.int (iz 2)]) (h' := cmH z zl (uf f 22 od) fl tx) rfl ?_
  refine Rx.walk 1 (pc' := 57) (L' := [some (.ref 0), some (.int (iz 4)), some (.int (iz 2)), some (.int (iz 1)), some (.int (iz 7)), some (.int (iz 3))]) (st' := [.int (iz 4), .int (iz 2)]) (h' := cmH z zl (uf f 22 od) fl tx) rfl ?_
  refine Rx.irem rfl ⟨by omega, by omega⟩ ⟨by omega, by omega⟩ (by omega) (by omega) ?_
  refine Rx.walk 4 (pc' := 19) (L' := [some (.ref 0), some (.int (iz 4)), some (.int (iz 2)), some (.int (iz 2)), some (.int (iz 7)), some (.int (iz 3))]) (st' := [.int (iz 2), .int (iz 7)]) (h' := cmH z zl (uf f 22 od) fl tx) rfl ?_
  refine Rx.callx (m' := m_X12_has) (as := [.int (iz 7), .int (iz 2)]) (rest := []) rfl (n_has_7_2 _ (cmH z zl (uf f 22 od) fl tx)   ) (fun v70 h71 q72 => ?_)
  obtain ⟨rfl, rfl⟩ := q72
  refine Rx.walk 0 (pc' := 22) (L' := [some (.ref 0), some (.int (iz 4)), some (.int (iz 2)), some (.int (iz 2)), some (.int (iz 7)), some (.int (iz 3))]) (st' := [.int (iz 1)]) (h' := cmH z zl (uf f 22 od) fl tx) rfl ?_
  refine Rx.ne1 rfl rfl ⟨by omega, by omega⟩ (fun b73 => ?_) (fun b73 => by omega)
  refine Rx.walk 3 (pc' := 40) (L' := [some (.ref 0), some (.int (iz 4)), some (.int (iz 2)), some (.int (iz 2)), some (.int (iz 7)), some (.int (iz 3))]) (st' := [.int (iz 2), .int (iz 7), .int (iz 2)]) (h' := cmH z zl (uf f 22 od) fl tx) rfl ?_
  refine Rx.callx (m' := m_X12_has) (as := [.int (iz 7), .int (iz 2)]) (rest := [.int (iz 2)]) rfl (n_has_7_2 _ (cmH z zl (uf f 22 od) fl tx)   ) (fun v74 h75 q76 => ?_)
  obtain ⟨rfl, rfl⟩ := q76
  refine Rx.walk 0 (pc' := 43) (L' := [some (.ref 0), some (.int (iz 4)), some (.int (iz 2)), some (.int (iz 2)), some (.int (iz 7)), some (.int (iz 3))]) (st' := [.int (iz 1), .int (iz 2)]) (h' := cmH z zl (uf f 22 od) fl tx) rfl ?_
  refine Rx.eq1 rfl rfl ⟨by omega, by omega⟩ (fun b77 => by omega) (fun b77 => ?_)
  refine Rx.walk 2 (pc' := 51) (L' := [some (.ref 0), some (.int (iz 4)), some (.int (iz 2)), some (.int (iz 2)), some (.int (iz 7)), some (.int (iz 3))]) (st' := [.int (iz 0), .int (iz 2)]) (h' := cmH z zl (uf f 22 od) fl tx) rfl ?_
  refine Rx.iadd rfl ?_
  refine Rx.walk 0 (pc' := 52) (L' := [some (.ref 0), some (.int (iz 4)), some (.int (iz 2)), some (.int (iz 2)), some (.int (iz 7)), some (.int (iz 3))]) (st' := [.int (iz 2)]) (h' := cmH z zl (uf f 22 od) fl tx) rfl ?_
  refine Rx.walk 3 (pc' := 55) (L' := [some (.ref 0), some (.int (iz 4)), some (.int (iz 2)), some (.int (iz 2)), some (.int (iz 7)), some (.int (iz 3))]) (st' := [.int (iz 1), .int (iz 2)]) (h' := cmH z zl (uf f 22 od) fl tx) rfl ?_
  refine Rx.iadd rfl ?_
  refine Rx.walk 0 (pc' := 56) (L' := [some (.ref 0), some (.int (iz 4)), some (.int (iz 2)), some (.int (iz 2)), some (.int (iz 7)), some (.int (iz 3))]) (st' := [.int (iz 3)]) (h' := cmH z zl (uf f 22 od) fl tx) rfl ?_
  refine Rx.walk 1 (pc' := 57) (L' := [some (.ref 0), some (.int (iz 4)), some (.int (iz 2)), some (.int (iz 2)), some (.int (iz 7)), some (.int (iz 3))]) (st' := [.int (iz 4), .int (iz 3)]) (h' := cmH z zl (uf f 22 od) fl tx) rfl ?_
  refine Rx.irem rfl ⟨by omega, by omega⟩ ⟨by omega, by omega⟩ (by omega) (by omega) ?_
  refine Rx.walk 4 (pc' := 19) (L' := [some (.ref 0), some (.int (iz 4)), some (.int (iz 2)), some (.int (iz 3)), some (.int (iz 7)), some (.int (iz 3))]) (st' := [.int (iz 3), .int (iz 7)]) (h' := cmH z zl (uf f 22 od) fl tx) rfl ?_
  refine Rx.callx (m' := m_X12_has) (as := [.int (iz 7), .int (iz 3)]) (rest := []) rfl (n_has_7_3 _ (cmH z zl (uf f 22 od) fl tx)   ) (fun v78 h79 q80 => ?_)
  obtain ⟨rfl, rfl⟩ := q80
  refine Rx.walk 0 (pc' := 22) (L' := [some (.ref 0), some (.int (iz 4)), some (.int (iz 2)), some (.int (iz 3)), some (.int (iz 7)), some (.int (iz 3))]) (st' := [.int (iz 0)]) (h' := cmH z zl (uf f 22 od) fl tx) rfl ?_
  refine Rx.ne1 rfl rfl ⟨by omega, by omega⟩ (fun b81 => by omega) (fun b81 => ?_)
  refine Rx.walk 4 (pc' := 32) (L' := [some (.ref 0), some (.int (iz 4)), some (.int (iz 2)), some (.int (iz 3)), some (.int (iz 7)), some (.int (iz 3))]) (st' := [.int (iz 3), .ref 22, .int (iz 3)]) (h' := cmH z zl (uf f 22 od) fl tx) rfl ?_
  refine Rx.ial (g := od) rfl rfl (by omega) (by omega) (by omega) ?_
  rw [show (od 3) = 3 from h3]
  refine Rx.eq2 rfl rfl ⟨by omega, by omega⟩ ⟨by omega, by omega⟩ (fun b82 => ?_) (fun b82 => by omega)
  refine Rx.walk 3 (pc' := 66) (L' := [some (.ref 0), some (.int (iz 4)), some (.int (iz 2)), some (.int (iz 3)), some (.int (iz 7)), some (.int (iz 3))]) (st' := [.int (iz 3), .int (iz 1), .int (iz 7)]) (h' := cmH z zl (uf f 22 od) fl tx) rfl ?_
  refine Rx.ishl (c := 8) rfl (by decide) ?_
  refine Rx.ior (c := 15) rfl (by decide) ?_
  refine Rx.walk 1 (pc' := 70) (L' := [some (.ref 0), some (.int (iz 4)), some (.int (iz 2)), some (.int (iz 3)), some (.int (iz 15)), some (.int (iz 3))]) (st' := []) (h' := cmH z zl (uf f 22 od) fl tx) rfl ?_
  refine Rx.iinc (b := 1) rfl rfl rfl ?_
  refine Rx.walk 0 (pc' := 73) (L' := [some (.ref 0), some (.int (iz 4)), some (.int (iz 2)), some (.int (iz 3)), some (.int (iz 15)), some (.int (iz 4))]) (st' := []) (h' := cmH z zl (uf f 22 od) fl tx) rfl ?_
  refine Rx.walk 3 (pc' := 13) (L' := [some (.ref 0), some (.int (iz 4)), some (.int (iz 2)), some (.int (iz 3)), some (.int (iz 15)), some (.int (iz 4))]) (st' := [.int (iz 4), .int (iz 4)]) (h' := cmH z zl (uf f 22 od) fl tx) rfl ?_
  refine Rx.ge2 rfl rfl ⟨by omega, by omega⟩ ⟨by omega, by omega⟩ (fun b83 => ?_) (fun b83 => by omega)
  refine Rx.walk 1 (pc' := 77) (L' := [some (.ref 0), some (.int (iz 4)), some (.int (iz 2)), some (.int (iz 3)), some (.int (iz 15)), some (.int (iz 4))]) (st' := [.int (iz 2)]) (h' := cmH z zl (uf f 22 od) fl tx) rfl ?_
  refine Rx.ret rfl ?_
  exact ⟨rfl, rfl⟩
set_option maxRecDepth 100000 in
set_option maxHeartbeats 4000000 in
theorem n_has_13_3 (d : Nat) (h0 : AmH)   : Rx (d) m_X12_has 0 (am_ent [.int (iz 13), .int (iz 3)] 2) [] (h0) (fun rv h => rv = some (.int (iz 1)) ∧ h0 = h) := ⟨_, _, ⟨100, rfl⟩, rfl, rfl⟩
set_option maxRecDepth 100000 in
set_option maxHeartbeats 4000000 in
theorem n_has_13_0 (d : Nat) (h0 : AmH)   : Rx (d) m_X12_has 0 (am_ent [.int (iz 13), .int (iz 0)] 2) [] (h0) (fun rv h => rv = some (.int (iz 1)) ∧ h0 = h) := ⟨_, _, ⟨100, rfl⟩, rfl, rfl⟩
set_option maxRecDepth 100000 in
set_option maxHeartbeats 4000000 in
theorem n_has_13_1 (d : Nat) (h0 : AmH)   : Rx (d) m_X12_has 0 (am_ent [.int (iz 13), .int (iz 1)] 2) [] (h0) (fun rv h => rv = some (.int (iz 0)) ∧ h0 = h) := ⟨_, _, ⟨100, rfl⟩, rfl, rfl⟩
set_option maxRecDepth 100000 in
set_option maxHeartbeats 4000000 in
theorem m_stepsOf4_3 (d : Nat) (z : Nat → Int) (zl : Nat → Int) (f : Nat → Int → Int) (fl : Nat → Int → Int) (tx : Nat)  (od : Int → Int) (h0 : od 0 = 0) (h1 : od 1 = 2) (h2 : od 2 = 3) (h3 : od 3 = 1) : Rx (d + 1) m_X12_stepsOf 0 (am_ent [.ref 0, .int (iz 4)] 6) [] (cmH z zl (uf f 22 od) fl tx) (fun rv h => rv = some (.int (iz 1)) ∧ h = cmH z zl (uf f 22 od) fl tx) := by
  refine Rx.walk 0 (pc' := 0) (L' := [some (.ref 0), some (.int (iz 4)), none, none, none, none]) (st' := []) (h' := cmH z zl (uf f 22 od) fl tx) rfl ?_
  refine Rx.walk 10 (pc' := 13) (L' := [some (.ref 0), some (.int (iz 4)), some (.int (iz 0)), some (.int (iz 0)), some (.int (iz 0)), some (.int (iz 0))]) (st' := [.int (iz 4), .int (iz 0)]) (h' := cmH z zl (uf f 22 od) fl tx) rfl ?_
  refine Rx.ge2 rfl rfl ⟨by omega, by omega⟩ ⟨by omega, by omega⟩ (fun b1 => by omega) (fun b1 => ?_)
  refine Rx.walk 2 (pc' := 19) (L' := [some (.ref 0), some (.int (iz 4)), some (.int (iz 0)), some (.int (iz 0)), some (.int (iz 0)), some (.int (iz 0))]) (st' := [.int (iz 0), .int (iz 0)]) (h' := cmH z zl (uf f 22 od) fl tx) rfl ?_
  refine Rx.callx (m' := m_X12_has) (as := [.int (iz 0), .int (iz 0)]) (rest := []) rfl (n_has_0_0 _ (cmH z zl (uf f 22 od) fl tx)   ) (fun v2 h3 q4 => ?_)
  obtain ⟨rfl, rfl⟩ := q4
  refine Rx.walk 0 (pc' := 22) (L' := [some (.ref 0), some (.int (iz 4)), some (.int (iz 0)), some (.int (iz 0)), some (.int (iz 0)), some (.int (iz 0))]) (st' := [.int (iz 0)]) (h' := cmH z zl (uf f 22 od) fl tx) rfl ?_
  refine Rx.ne1 rfl rfl ⟨by omega, by omega⟩ (fun b5 => by omega) (fun b5 => ?_)
  refine Rx.walk 4 (pc' := 32) (L' := [some (.ref 0), some (.int (iz 4)), some (.int (iz 0)), some (.int (iz 0)), some (.int (iz 0)), some (.int (iz 0))]) (st' := [.int (iz 0), .ref 22, .int (iz 0)]) (h' := cmH z zl (uf f 22 od) fl tx) rfl ?_
  refine Rx.ial (g := od) rfl rfl (by omega) (by omega) (by omega) ?_
  rw [show (od 0) = 0 from h0]
  refine Rx.eq2 rfl rfl ⟨by omega, by omega⟩ ⟨by omega, by omega⟩ (fun b6 => ?_) (fun b6 => by omega)
  refine Rx.walk 3 (pc' := 66) (L' := [some (.ref 0), some (.int (iz 4)), some (.int (iz 0)), some (.int (iz 0)), some (.int (iz 0)), some (.int (iz 0))]) (st' := [.int (iz 0), .int (iz 1), .int (iz 0)]) (h' := cmH z zl (uf f 22 od) fl tx) rfl ?_
  refine Rx.ishl (c := 1) rfl (by decide) ?_
  refine Rx.ior (c := 1) rfl (by decide) ?_
  refine Rx.walk 1 (pc' := 70) (L' := [some (.ref 0), some (.int (iz 4)), some (.int (iz 0)), some (.int (iz 0)), some (.int (iz 1)), some (.int (iz 0))]) (st' := []) (h' := cmH z zl (uf f 22 od) fl tx) rfl ?_
  refine Rx.iinc (b := 1) rfl rfl rfl ?_
  refine Rx.walk 0 (pc' := 73) (L' := [some (.ref 0), some (.int (iz 4)), some (.int (iz 0)), some (.int (iz 0)), some (.int (iz 1)), some (.int (iz 1))]) (st' := []) (h' := cmH z zl (uf f 22 od) fl tx) rfl ?_
  refine Rx.walk 3 (pc' := 13) (L' := [some (.ref 0), some (.int (iz 4)), some (.int (iz 0)), some (.int (iz 0)), some (.int (iz 1)), some (.int (iz 1))]) (st' := [.int (iz 4), .int (iz 1)]) (h' := cmH z zl (uf f 22 od) fl tx) rfl ?_
  refine Rx.ge2 rfl rfl ⟨by omega, by omega⟩ ⟨by omega, by omega⟩ (fun b7 => by omega) (fun b7 => ?_)
  refine Rx.walk 2 (pc' := 19) (L' := [some (.ref 0), some (.int (iz 4)), some (.int (iz 0)), some (.int (iz 0)), some (.int (iz 1)), some (.int (iz 1))]) (st' := [.int (iz 0), .int (iz 1)]) (h' := cmH z zl (uf f 22 od) fl tx) rfl ?_
  refine Rx.callx (m' := m_X12_has) (as := [.int (iz 1), .int (iz 0)]) (rest := []) rfl (n_has_1_0 _ (cmH z zl (uf f 22 od) fl tx)   ) (fun v8 h9 q10 => ?_)
  obtain ⟨rfl, rfl⟩ := q10
  refine Rx.walk 0 (pc' := 22) (L' := [some (.ref 0), some (.int (iz 4)), some (.int (iz 0)), some (.int (iz 0)), some (.int (iz 1)), some (.int (iz 1))]) (st' := [.int (iz 1)]) (h' := cmH z zl (uf f 22 od) fl tx) rfl ?_
  refine Rx.ne1 rfl rfl ⟨by omega, by omega⟩ (fun b11 => ?_) (fun b11 => by omega)
  refine Rx.walk 3 (pc' := 40) (L' := [some (.ref 0), some (.int (iz 4)), some (.int (iz 0)), some (.int (iz 0)), some (.int (iz 1)), some (.int (iz 1))]) (st' := [.int (iz 0), .int (iz 1), .int (iz 0)]) (h' := cmH z zl (uf f 22 od) fl tx) rfl ?_
  refine Rx.callx (m' := m_X12_has) (as := [.int (iz 1), .int (iz 0)]) (rest := [.int (iz 0)]) rfl (n_has_1_0 _ (cmH z zl (uf f 22 od) fl tx)   ) (fun v12 h13 q14 => ?_)
  obtain ⟨rfl, rfl⟩ := q14
  refine Rx.walk 0 (pc' := 43) (L' := [some (.ref 0), some (.int (iz 4)), some (.int (iz 0)), some (.int (iz 0)), some (.int (iz 1)), some (.int (iz 1))]) (st' := [.int (iz 1), .int (iz 0)]) (h' := cmH z zl (uf f 22 od) fl tx) rfl ?_
  refine Rx.eq1 rfl rfl ⟨by omega, by omega⟩ (fun b15 => by omega) (fun b15 => ?_)
  refine Rx.walk 2 (pc' := 51) (L' := [some (.ref 0), some (.int (iz 4)), some (.int (iz 0)), some (.int (iz 0)), some (.int (iz 1)), some (.int (iz 1))]) (st' := [.int (iz 0), .int (iz 0)]) (h' := cmH z zl (uf f 22 od) fl tx) rfl ?_
  refine Rx.iadd rfl ?_
  refine Rx.walk 0 (pc' := 52) (L' := [some (.ref 0), some (.int (iz 4)), some (.int (iz 0)), some (.int (iz 0)), some (.int (iz 1)), some (.int (iz 1))]) (st' := [.int (iz 0)]) (h' := cmH z zl (uf f 22 od) fl tx) rfl ?_
  refine Rx.walk 3 (pc' := 55) (L' := [some (.ref 0), some (.int (iz 4)), some (.int (iz 0)), some (.int (iz 0)), some (.int (iz 1)), some (.int (iz 1))]) (st' := [.int (iz 1), .int (iz 0)]) (h' := cmH z zl (uf f 22 od) fl tx) rfl ?_
  refine Rx.iadd rfl ?_
  refine Rx.walk 0 (pc' := 56) (L' := [some (.ref 0), some (.int (iz 4)), some (.int (iz 0)), some (.int (iz 0)), some (.int (iz 1)), some (.int (iz 1))]) (st' := [.int (iz 1)]) (h' := cmH z zl (uf f 22 od) fl tx) rfl ?_
  refine Rx.walk 1 (pc' := 57) (L' := [some (.ref 0), some (.int (iz 4)), some (.int (iz 0)), some (.int (iz 0)), some (.int (iz 1)), some (.int (iz 1))]) (st' := [.int (iz 4), .int (iz 1)]) (h' := cmH z zl (uf f 22 od) fl tx) rfl ?_
  refine Rx.irem rfl ⟨by omega, by omega⟩ ⟨by omega, by omega⟩ (by omega) (by omega) ?_
  refine Rx.walk 4 (pc' := 19) (L' := [some (.ref 0), some (.int (iz 4)), some (.int (iz 0)), some (.int (iz 1)), some (.int (iz 1)), some (.int (iz 1))]) (st' := [.int (iz 1), .int (iz 1)]) (h' := cmH z zl (uf f 22 od) fl tx) rfl ?_
  refine Rx.callx (m' := m_X12_has) (as := [.int (iz 1), .int (iz 1)]) (rest := []) rfl (n_has_1_1 _ (cmH z zl (uf f 22 od) fl tx)   ) (fun v16 h17 q18 => ?_)
  obtain ⟨rfl, rfl⟩ := q18
  refine Rx.walk 0 (pc' := 22) (L' := [some (.ref 0), some (.int (iz 4)), some (.int (iz 0)), some (.int (iz 1)), some (.int (iz 1)), some (.int (iz 1))]) (st' := [.int (iz 0)]) (h' := cmH z zl (uf f 22 od) fl tx) rfl ?_
  refine Rx.ne1 rfl rfl ⟨by omega, by omega⟩ (fun b19 => by omega) (fun b19 => ?_)
  refine Rx.walk 4 (pc' := 32) (L' := [some (.ref 0), some (.int (iz 4)), some (.int (iz 0)), some (.int (iz 1)), some (.int (iz 1)), some (.int (iz 1))]) (st' := [.int (iz 1), .ref 22, .int (iz 1)]) (h' := cmH z zl (uf f 22 od) fl tx) rfl ?_
  refine Rx.ial (g := od) rfl rfl (by omega) (by omega) (by omega) ?_
  rw [show (od 1) = 2 from h1]
  refine Rx.eq2 rfl rfl ⟨by omega, by omega⟩ ⟨by omega, by omega⟩ (fun b20 => by omega) (fun b20 => ?_)
  refine Rx.walk 3 (pc' := 40) (L' := [some (.ref 0), some (.int (iz 4)), some (.int (iz 0)), some (.int (iz 1)), some (.int (iz 1)), some (.int (iz 1))]) (st' := [.int (iz 1), .int (iz 1), .int (iz 0)]) (h' := cmH z zl (uf f 22 od) fl tx) rfl ?_
  refine Rx.callx (m' := m_X12_has) (as := [.int (iz 1), .int (iz 1)]) (rest := [.int (iz 0)]) rfl (n_has_1_1 _ (cmH z zl (uf f 22 od) fl tx)   ) (fun v21 h22 q23 => ?_)
  obtain ⟨rfl, rfl⟩ := q23
  refine Rx.walk 0 (pc' := 43) (L' := [some (.ref 0), some (.int (iz 4)), some (.int (iz 0)), some (.int (iz 1)), some (.int (iz 1)), some (.int (iz 1))]) (st' := [.int (iz 0), .int (iz 0)]) (h' := cmH z zl (uf f 22 od) fl tx) rfl ?_
  refine Rx.eq1 rfl rfl ⟨by omega, by omega⟩ (fun b24 => ?_) (fun b24 => by omega)
  refine Rx.walk 1 (pc' := 51) (L' := [some (.ref 0), some (.int (iz 4)), some (.int (iz 0)), some (.int (iz 1)), some (.int (iz 1)), some (.int (iz 1))]) (st' := [.int (iz 1), .int (iz 0)]) (h' := cmH z zl (uf f 22 od) fl tx) rfl ?_
  refine Rx.iadd rfl ?_
  refine Rx.walk 0 (pc' := 52) (L' := [some (.ref 0), some (.int (iz 4)), some (.int (iz 0)), some (.int (iz 1)), some (.int (iz 1)), some (.int (iz 1))]) (st' := [.int (iz 1)]) (h' := cmH z zl (uf f 22 od) fl tx) rfl ?_
  refine Rx.walk 3 (pc' := 55) (L' := [some (.ref 0), some (.int (iz 4)), some (.int (iz 1)), some (.int (iz 1)), some (.int (iz 1)), some (.int (iz 1))]) (st' := [.int (iz 1), .int (iz 1)]) (h' := cmH z zl (uf f 22 od) fl tx) rfl ?_
  refine Rx.iadd rfl ?_
  refine Rx.walk 0 (pc' := 56) (L' := [some (.ref 0), some (.int (iz 4)), some (.int (iz 1)), some (.int (iz 1)), some (.int (iz 1)), some (.int (iz 1))]) (st' := [.int (iz 2)]) (h' := cmH z zl (uf f 22 od) fl tx) rfl ?_
  refine Rx.walk 1 (pc' := 57) (L' := [some (.ref 0), some (.int (iz 4)), some (.int (iz 1)), some (.int (iz 1)), some (.int (iz 1)), some (.int (iz 1))]) (st' := [.int (iz 4), .int (iz 2)]) (h' := cmH z zl (uf f 22 od) fl tx) rfl ?_
  refine Rx.irem rfl ⟨by omega, by omega⟩ ⟨by omega, by omega⟩ (by omega) (by omega) ?_
  refine Rx.walk 4 (pc' := 19) (L' := [some (.ref 0), some (.int (iz 4)), some (.int (iz 1)), some (.int (iz 2)), some (.int (iz 1)), some (.int (iz 1))]) (st' := [.int (iz 2), .int (iz 1)]) (h' := cmH z zl (uf f 22 od) fl tx) rfl ?_
  refine Rx.callx (m' := m_X12_has) (as := [.int (iz 1), .int (iz 2)]) (rest := []) rfl (n_has_1_2 _ (cmH z zl (uf f 22 od) fl tx)   ) (fun v25 h26 q27 => ?_)
  obtain ⟨rfl, rfl⟩ := q27
  refine Rx.walk 0 (pc' := 22) (L' := [some (.ref 0), some (.int (iz 4)), some (.int (iz 1)), some (.int (iz 2)), some (.int (iz 1)), some (.int (iz 1))]) (st' := [.int (iz 0)]) (h' := cmH z zl (uf f 22 od) fl tx) rfl ?_
  refine Rx.ne1 rfl rfl ⟨by omega, by omega⟩ (fun b28 => by omega) (fun b28 => ?_)
  refine Rx.walk 4 (pc' := 32) (L' := [some (.ref 0), some (.int (iz 4)), some (.int (iz 1)), some (.int (iz 2)), some (.int (iz 1)), some (.int (iz 1))]) (st' := [.int (iz 1), .ref 22, .int (iz 2)]) (h' := cmH z zl (uf f 22 od) fl tx) rfl ?_
  refine Rx.ial (g := od) rfl rfl (by omega) (by omega) (by omega) ?_
  rw [show (od 1) = 2 from h1]
  refine Rx.eq2 rfl rfl ⟨by omega, by omega⟩ ⟨by omega, by omega⟩ (fun b29 => ?_) (fun b29 => by omega)
  refine Rx.walk 3 (pc' := 66) (L' := [some (.ref 0), some (.int (iz 4)), some (.int (iz 1)), some (.int (iz 2)), some (.int (iz 1)), some (.int (iz 1))]) (st' := [.int (iz 2), .int (iz 1), .int (iz 1)]) (h' := cmH z zl (uf f 22 od) fl tx) rfl ?_
  refine Rx.ishl (c := 4) rfl (by decide) ?_
  refine Rx.ior (c := 5) rfl (by decide) ?_
  refine Rx.walk 1 (pc' := 70) (L' := [some (.ref 0), some (.int (iz 4)), some (.int (iz 1)), some (.int (iz 2)), some (.int (iz 5)), some (.int (iz 1))]) (st' := []) (h' := cmH z zl (uf f 22 od) fl tx) rfl ?_
  refine Rx.iinc (b := 1) rfl rfl rfl ?_
  refine Rx.walk 0 (pc' := 73) (L' := [some (.ref 0), some (.int (iz 4)), some (.int (iz 1)), some (.int (iz 2)), some (.int (iz 5)), some (.int (iz 2))]) (st' := []) (h' := cmH z zl (uf f 22 od) fl tx) rfl ?_
  refine Rx.walk 3 (pc' := 13) (L' := [some (.ref 0), some (.int (iz 4)), some (.int (iz 1)), some (.int (iz 2)), some (.int (iz 5)), some (.int (iz 2))]) (st' := [.int (iz 4), .int (iz 2)]) (h' := cmH z zl (uf f 22 od) fl tx) rfl ?_
  refine Rx.ge2 rfl rfl ⟨by omega, by omega⟩ ⟨by omega, by omega⟩ (fun b30 => by omega) (fun b30 => ?_)
  refine Rx.walk 2 (pc' := 19) (L' := [some (.ref 0), some (.int (iz 4)), some (.int (iz 1)), some (.int (iz 2)), some (.int (iz 5)), some (.int (iz 2))]) (st' := [.int (iz 2), .int (iz 5)]) (h' := cmH z zl (uf f 22 od) fl tx) rfl ?_
  refine Rx.callx (m' := m_X12_has) (as := [.int (iz 5), .int (iz 2)]) (rest := []) rfl (n_has_5_2 _ (cmH z zl (uf f 22 od) fl tx)   ) (fun v31 h32 q33 => ?_)
  obtain ⟨rfl, rfl⟩ := q33
  refine Rx.walk 0 (pc' := 22) (L' := [some (.ref 0), some (.int (iz 4)), some (.int (iz 1)), some (.int (iz 2)), some (.int (iz 5)), some (.int (iz 2))]) (st' := [.int (iz 1)]) (h' := cmH z zl (uf f 22 od) fl tx) rfl ?_
  refine Rx.ne1 rfl rfl ⟨by omega, by omega⟩ (fun b34 => ?_) (fun b34 => by omega)
  refine Rx.walk 3 (pc' := 40) (L' := [some (.ref 0), some (.int (iz 4)), some (.int (iz 1)), some (.int (iz 2)), some (.int (iz 5)), some (.int (iz 2))]) (st' := [.int (iz 2), .int (iz 5), .int (iz 1)]) (h' := cmH z zl (uf f 22 od) fl tx) rfl ?_
  refine Rx.callx (m' := m_X12_has) (as := [.int (iz 5), .int (iz 2)]) (rest := [.int (iz 1)]) rfl (n_has_5_2 _ (cmH z zl (uf f 22 od) fl tx)   ) (fun v35 h36 q37 => ?_)
  obtain ⟨rfl, rfl⟩ := q37
  refine Rx.walk 0 (pc' := 43) (L' := [some (.ref 0), some (.int (iz 4)), some (.int (iz 1)), some (.int (iz 2)), some (.int (iz 5)), some (.int (iz 2))]) (st' := [.int (iz 1), .int (iz 1)]) (h' := cmH z zl (uf f 22 od) fl tx) rfl ?_
  refine Rx.eq1 rfl rfl ⟨by omega, by omega⟩ (fun b38 => by omega) (fun b38 => ?_)
  refine Rx.walk 2 (pc' := 51) (L' := [some (.ref 0), some (.int (iz 4)), some (.int (iz 1)), some (.int (iz 2)), some (.int (iz 5)), some (.int (iz 2))]) (st' := [.int (iz 0), .int (iz 1)]) (h' := cmH z zl (uf f 22 od) fl tx) rfl ?_
  refine Rx.iadd rfl ?_
  refine Rx.walk 0 (pc' := 52) (L' := [some (.ref 0), some (.int (iz 4)), some (.int (iz 1)), some (.int (iz 2)), some (.int (iz 5)), some (.int (iz 2))]) (st' := [.int (iz 1)]) (h' := cmH z zl (uf f 22 od) fl tx) rfl ?_
  refine Rx.walk 3 (pc' := 55) (L' := [some (.ref 0), some (.int (iz 4)), some (.int (iz 1)), some (.int (iz 2)), some (.int (iz 5)), some (.int (iz 2))]) (st' := [.int (iz 1), .int (iz 2)]) (h' := cmH z zl (uf f 22 od) fl tx) rfl ?_
  refine Rx.iadd rfl ?_
  refine Rx.walk 0 (pc' := 56) (L' := [some (.ref 0), some (.int (iz 4)), some (.int (iz 1)), some (.int (iz 2)), some (.int (iz 5)), some (.int (iz 2))]) (st' := [.int (iz 3)]) (h' := cmH z zl (uf f 22 od) fl tx) rfl ?_
  refine Rx.walk 1 (pc' := 57) (L' := [some (.ref 0), some (.int (iz 4)), some (.int (iz 1)), some (.int (iz 2)), some (.int (iz 5)), some (.int (iz 2))]) (st' := [.int (iz 4), .int (iz 3)]) (h' := cmH z zl (uf f 22 od) fl tx) rfl ?_
  refine Rx.irem rfl ⟨by omega, by omega⟩ ⟨by omega, by omega⟩ (by omega) (by omega) ?_
  refine Rx.walk 4 (pc' := 19) (L' := [some (.ref 0), some (.int (iz 4)), some (.int (iz 1)), some (.int (iz 3)), some (.int (iz 5)), some (.int (iz 2))]) (st' := [.int (iz 3), .int (iz 5)]) (h' := cmH z zl (uf f 22 od) fl tx) rfl ?_
  refine Rx.callx (m' := m_X12_has) (as := [.int (iz 5), .int (iz 3)]) (rest := []) rfl (n_has_5_3 _ (cmH z zl (uf f 22 od) fl tx)   ) (fun v39 h40 q41 => ?_)
  obtain ⟨rfl, rfl⟩ := q41
  refine Rx.walk 0 (pc' := 22) (L' := [some (.ref 0), some (.int (iz 4)), some (.int (iz 1)), some (.int (iz 3)), some (.int (iz 5)), some (.int (iz 2))]) (st' := [.int (iz 0)]) (h' := cmH z zl (uf f 22 od) fl tx) rfl ?_
  refine Rx.ne1 rfl rfl ⟨by omega, by omega⟩ (fun b42 => by omega) (fun b42 => ?_)
  refine Rx.walk 4 (pc' := 32) (L' := [some (.ref 0), some (.int (iz 4)), some (.int (iz 1)), some (.int (iz 3)), some (.int (iz 5)), some (.int (iz 2))]) (st' := [.int (iz 2), .ref 22, .int (iz 3)]) (h' := cmH z zl (uf f 22 od) fl tx) rfl ?_
  refine Rx.ial (g := od) rfl rfl (by omega) (by omega) (by omega) ?_
  rw [show (od 2) = 3 from h2]
  refine Rx.eq2 rfl rfl ⟨by omega, by omega⟩ ⟨by omega, by omega⟩ (fun b43 => ?_) (fun b43 => by omega)
  refine Rx.walk 3 (pc' := 66) (L' := [some (.ref 0), some (.int (iz 4)), some (.int (iz 1)), some (.int (iz 3)), some (.int (iz 5)), some (.int (iz 2))]) (st' := [.int (iz 3), .int (iz 1), .int (iz 5)]) (h' := cmH z zl (uf f 22 od) fl tx) rfl ?_
  refine Rx.ishl (c := 8) rfl (by decide) ?_
  refine Rx.ior (c := 13) rfl (by decide) ?_
  refine Rx.walk 1 (pc' := 70) (L' := [some (.ref 0), some (.int (iz 4)), some (.int (iz 1)), some (.int (iz 3)), some (.int (iz 13)), some (.int (iz 2))]) (st' := []) (h' := cmH z zl (uf f 22 od) fl tx) rfl ?_
  refine Rx.iinc (b := 1) rfl rfl rfl ?_
  refine Rx.walk 0 (pc' := 73) (L' := [some (.ref 0), some (.int (iz 4)), some (.int (iz 1)), some (.int (iz 3)), some (.int (iz 13)), some (.int (iz 3))]) (st' := []) (h' := cmH z zl (uf f 22 od) fl tx) rfl ?_
  refine Rx.walk 3 (pc' := 13) (L' := [some (.ref 0), some (.int (iz 4)), some (.int (iz 1)), some (.int (iz 3)), some (.int (iz 13)), some (.int (iz 3))]) (st' := [.int (iz 4), .int (iz 3)]) (h' := cmH z zl (uf f 22 od) fl tx) rfl ?_
  refine Rx.ge2 rfl rfl ⟨by omega, by omega⟩ ⟨by omega, by omega⟩ (fun b44 => by omega) (fun b44 => ?_)
  refine Rx.walk 2 (pc' := 19) (L' := [some (.ref 0), some (.int (iz 4)), some (.int (iz 1)), some (.int (iz 3)), some (.int (iz 13)), some (.int (iz 3))]) (st' := [.int (iz 3), .int (iz 13)]) (h' := cmH z zl (uf f 22 od) fl tx) rfl ?_
  refine Rx.callx (m' := m_X12_has) (as := [.int (iz 13), .int (iz 3)]) (rest := []) rfl (n_has_13_3 _ (cmH z zl (uf f 22 od) fl tx)   ) (fun v45 h46 q47 => ?_)
  obtain ⟨rfl, rfl⟩ := q47
  refine Rx.walk 0 (pc' := 22) (L' := [some (.ref 0), some (.int (iz 4)), some (.int (iz 1)), some (.int (iz 3)), some (.int (iz 13)), some (.int (iz 3))]) (st' := [.int (iz 1)]) (h' := cmH z zl (uf f 22 od) fl tx) rfl ?_
  refine Rx.ne1 rfl rfl ⟨by omega, by omega⟩ (fun b48 => ?_) (fun b48 => by omega)
  refine Rx.walk 3 (pc' := 40) (L' := [some (.ref 0), some (.int (iz 4)), some (.int (iz 1)), some (.int (iz 3)), some (.int (iz 13)), some (.int (iz 3))]) (st' := [.int (iz 3), .int (iz 13), .int (iz 1)]) (h' := cmH z zl (uf f 22 od) fl tx) rfl ?_
  refine Rx.callx (m' := m_X12_has) (as := [.int (iz 13), .int (iz 3)]) (rest := [.int (iz 1)]) rfl (n_has_13_3 _ (cmH z zl (uf f 22 od) fl tx)   ) (fun v49 h50 q51 => ?_)
  obtain ⟨rfl, rfl⟩ := q51
  refine Rx.walk 0 (pc' := 43) (L' := [some (.ref 0), some (.int (iz 4)), some (.int (iz 1)), some (.int (iz 3)), some (.int (iz 13)), some (.int (iz 3))]) (st' := [.int (iz 1), .int (iz 1)]) (h' := cmH z zl (uf f 22 od) fl tx) rfl ?_
  refine Rx.eq1 rfl rfl ⟨by omega, by omega⟩ (fun b52 => by omega) (fun b52 => ?_)
  refine Rx.walk 2 (pc' := 51) (L' := [some (.ref 0), some (.int (iz 4)), some (.int (iz 1)), some (.int (iz 3)), some (.int (iz 13)), some (.int (iz 3))]) (st' := [.int (iz 0), .int (iz 1)]) (h' := cmH z zl (uf f 22 od) fl tx) rfl ?_
  refine Rx.iadd rfl ?_
  refine Rx.walk 0 (pc' := 52) (L' := [some (.ref 0), some (.int (iz 4)), some (.int (iz 1)), some (.int (iz 3)), some (.int (iz 13)), some (.int (iz 3))]) (st' := [.int (iz 1)]) (h' := cmH z zl (uf f 22 od) fl tx) rfl ?_
  refine Rx.walk 3 (pc' := 55) (L' := [some (.ref 0), some (.int (iz 4)), some (.int (iz 1)), some (.int (iz 3)), some (.int (iz 13)), some (.int (iz 3))]) (st' := [.int (iz 1), .int (iz 3)]) (h' := cmH z zl (uf f 22 od) fl tx) rfl ?_
  refine Rx.iadd rfl ?_
  refine Rx.walk 0 (pc' := 56) (L' := [some (.ref 0), some (.int (iz 4)), some (.int (iz 1)), some (.int (iz 3)), some (.int (iz 13)), some (.int (iz 3))]) (st' := [.int (iz 4)]) (h' := cmH z zl (uf f 22 od) fl tx) rfl ?_
  refine Rx.walk 1 (pc' := 57) (L' := [some (.ref 0), some (.int (iz 4)), some (.int (iz 1)), some (.int (iz 3)), some (.int (iz 13)), some (.int (iz 3))]) (st' := [.int (iz 4), .int (iz 4)]) (h' := cmH z zl (uf f 22 od) fl tx) rfl ?_
  refine Rx.irem rfl ⟨by omega, by omega⟩ ⟨by omega, by omega⟩ (by omega) (by omega) ?_
  refine Rx.walk 4 (pc' := 19) (L' := [some (.ref 0), some (.int (iz 4)), some (.int (iz 1)), some (.int (iz 0)), some (.int (iz 13)), some (.int (iz 3))]) (st' := [.int (iz 0), .int (iz 13)]) (h' := cmH z zl (uf f 22 od) fl tx) rfl ?_
  refine Rx.callx (m' := m_X12_has) (as := [.int (iz 13), .int (iz 0)]) (rest := []) rfl (n_has_13_0 _ (cmH z zl (uf f 22 od) fl tx)   ) (fun v53 h54 q55 => ?_)
  obtain ⟨rfl, rfl⟩ := q55
  refine Rx.walk 0 (pc' := 22) (L' := [some (.ref 0), some (.int (iz 4)), some (.int (iz 1)), some (.int (iz 0)), some (.int (iz 13)), some (.int (iz 3))]) (st' := [.int (iz 1)]) (h' := cmH z zl (uf f 22 od) fl tx) rfl ?_
  refine Rx.ne1 rfl rfl ⟨by omega, by omega⟩ (fun b56 => ?_) (fun b56 => by omega)
  refine Rx.walk 3 (pc' := 40) (L' := [some (.ref 0), some (.int (iz 4)), some (.int (iz 1)), some (.int (iz 0)), some (.int (iz 13)), some (.int (iz 3))]) (st' := [.int (iz 0), .int (iz 13), .int (iz 1)]) (h' := cmH z zl (uf f 22 od) fl tx) rfl ?_
  refine Rx.callx (m' := m_X12_has) (as := [.int (iz 13), .int (iz 0)]) (rest := [.int (iz 1)]) rfl (n_has_13_0 _ (cmH z zl (uf f 22 od) fl tx)   ) (fun v57 h58 q59 => ?_)
  obtain ⟨rfl, rfl⟩ := q59
  refine Rx.walk 0 (pc' := 43) (L' := [some (.ref 0), some (.int (iz 4)), some (.int (iz 1)), some (.int (iz 0)), some (.int (iz 13)), some (.int (iz 3))]) (st' := [.int (iz 1), .int (iz 1)]) (h' := cmH z zl (uf f 22 od) fl tx) rfl ?_
  refine Rx.eq1 rfl rfl ⟨by omega, by omega⟩ (fun b60 => by omega) (fun b60 => ?_)
  refine Rx.walk 2 (pc' := 51) (L' := [some (.ref 0), some (.int (iz 4)), some (.int (iz 1)), some (.int (iz 0)), some (.int (iz 13)), some (.int (iz 3))]) (st' := [.int (iz 0), .int (iz 1)]) (h' := cmH z zl (uf f 22 od) fl tx) rfl ?_
  refine Rx.iadd rfl ?_
  refine Rx.walk 0 (pc' := 52) (L' := [some (.ref 0), some (.int (iz 4)), some (.int (iz 1)), some (.int (iz 0)), some (.int (iz 13)), some (.int (iz 3))]) (st' := [.int (iz 1)]) (h' := cmH z zl (uf f 22 od) fl tx) rfl ?_
  refine Rx.walk 3 (pc' := 55) (L' := [some (.ref 0), some (.int (iz 4)), some (.int (iz 1)), some (.int (iz 0)), some (.int (iz 13)), some (.int (iz 3))]) (st' := [.int (iz 1), .int (iz 0)]) (h' := cmH z zl (uf f 22 od) fl tx) rfl ?_
  refine Rx.iadd rfl ?_
  refine Rx.walk 0 (pc' := 56) (L' := [some (.ref 0), some (.int (iz 4)), some (.int (iz 1)), some (.int (iz 0)), some (.int (iz 13)), some (.int (iz 3))]) (st' := [.int (iz 1)]) (h' := cmH z zl (uf f 22 od) fl tx) rfl ?_
  refine Rx.walk 1 (pc' := 57) (L' := [some (.ref 0), some (.int (iz 4)), some (.int (iz 1)), some (.int (iz 0)), some (.int (iz 13)), some (.int (iz 3))]) (st' := [.int (iz 4), .int (iz 1)]) (h' := cmH z zl (uf f 22 od) fl tx) rfl ?_
  refine Rx.irem rfl ⟨by omega, by omega⟩ ⟨by omega, by omega⟩ (by omega) (by omega) ?_
  refine Rx.walk 4 (pc' := 19) (L' := [some (.ref 0), some (.int (iz 4)), some (.int (iz 1)), some (.int (iz 1)), some (.int (iz 13)), some (.int (iz 3))]) (st' := [.int (iz 1), .int (iz 13)]) (h' := cmH z zl (uf f 22 od) fl tx) rfl ?_
  refine Rx.callx (m' := m_X12_has) (as := [.int (iz 13), .int (iz 1)]) (rest := []) rfl (n_has_13_1 _ (cmH z zl (uf f 22 od) fl tx)   ) (fun v61 h62 q63 => ?_)
  obtain ⟨rfl, rfl⟩ := q63
  refine Rx.walk 0 (pc' := 22) (L' := [some (.ref 0), some (.int (iz 4)), some (.int (iz 1)), some (.int (iz 1)), some (.int (iz 13)), some (.int (iz 3))]) (st' := [.int (iz 0)]) (h' := cmH z zl (uf f 22 od) fl tx) rfl ?_
  refine Rx.ne1 rfl rfl ⟨by omega, by omega⟩ (fun b64 => by omega) (fun b64 => ?_)
  refine Rx.walk 4 (pc' := 32) (L' := [some (.ref 0), some (.int (iz 4)), some (.int (iz 1)), some (.int (iz 1)), some (.int (iz 13)), some (.int (iz 3))]) (st' := [.int (iz 3), .ref 22, .int (iz 1)]) (h' := cmH z zl (uf f 22 od) fl tx) rfl ?_
  refine Rx.ial (g := od) rfl rfl (by omega) (by omega) (by omega) ?_
  rw [show (od 3) = 1 from h3]
  refine Rx.eq2 rfl rfl ⟨by omega, by omega⟩ ⟨by omega, by omega⟩ (fun b65 => ?_) (fun b65 => by omega)
  refine Rx.walk 3 (pc' := 66) (L' := [some (.ref 0), some (.int (iz 4)), some (.int (iz 1)), some (.int (iz 1)), some (.int (iz 13)), some (.int (iz 3))]) (st' := [.int (iz 1), .int (iz 1), .int (iz 13)]) (h' := cmH z zl (uf f 22 od) fl tx) rfl ?_
  refine Rx.ishl (c := 2) rfl (by decide) ?_
  refine Rx.ior (c := 15) rfl (by decide) ?_
  refine Rx.walk 1 (pc' := 70) (L' := [some (.ref 0), some (.int (iz 4)), some (.int (iz 1)), some (.int (iz 1)), some (.int (iz 15)), some (.int (iz 3))]) (st' := []) (h' := cmH z zl (uf f 22 od) fl tx) rfl ?_
  refine Rx.iinc (b := 1) rfl rfl rfl ?_
  refine Rx.walk 0 (pc' := 73) (L' := [some (.ref 0), some (.int (iz 4)), some (.int (iz 1)), some (.int (iz 1)), some (.int (iz 15)), some (.int (iz 4))]) (st' := []) (h' := cmH z zl (uf f 22 od) fl tx) rfl ?_
  refine Rx.walk 3 (pc' := 13) (L' := [some (.ref 0), some (.int (iz 4)), some (.int (iz 1)), some (.int (iz 1)), some (.int (iz 15)), some (.int (iz 4))]) (st' := [.int (iz 4), .int (iz 4)]) (h' := cmH z zl (uf f 22 od) fl tx) rfl ?_
  refine Rx.ge2 rfl rfl ⟨by omega, by omega⟩ ⟨by omega, by omega⟩ (fun b66 => ?_) (fun b66 => by omega)
  refine Rx.walk 1 (pc' := 77) (L' := [some (.ref 0), some (.int (iz 4)), some (.int (iz 1)), some (.int (iz 1)), some (.int (iz 15)), some (.int (iz 4))]) (st' := [.int (iz 1)]) (h' := cmH z zl (uf f 22 od) fl tx) rfl ?_
  refine Rx.ret rfl ?_
  exact ⟨rfl, rfl⟩
set_option maxRecDepth 100000 in
set_option maxHeartbeats 4000000 in
theorem n_has_1_3 (d : Nat) (h0 : AmH)   : Rx (d) m_X12_has 0 (am_ent [.int (iz 1), .int (iz 3)] 2) [] (h0) (fun rv h => rv = some (.int (iz 0)) ∧ h0 = h) := ⟨_, _, ⟨100, rfl⟩, rfl, rfl⟩
set_option maxRecDepth 100000 in
set_option maxHeartbeats 4000000 in
theorem n_has_9_3 (d : Nat) (h0 : AmH)   : Rx (d) m_X12_has 0 (am_ent [.int (iz 9), .int (iz 3)] 2) [] (h0) (fun rv h => rv = some (.int (iz 1)) ∧ h0 = h) := ⟨_, _, ⟨100, rfl⟩, rfl, rfl⟩
set_option maxRecDepth 100000 in
set_option maxHeartbeats 4000000 in
theorem n_has_9_0 (d : Nat) (h0 : AmH)   : Rx (d) m_X12_has 0 (am_ent [.int (iz 9), .int (iz 0)] 2) [] (h0) (fun rv h => rv = some (.int (iz 1)) ∧ h0 = h) := ⟨_, _, ⟨100, rfl⟩, rfl, rfl⟩
set_option maxRecDepth 100000 in
set_option maxHeartbeats 4000000 in
theorem n_has_9_1 (d : Nat) (h0 : AmH)   : Rx (d) m_X12_has 0 (am_ent [.int (iz 9), .int (iz 1)] 2) [] (h0) (fun rv h => rv = some (.int (iz 0)) ∧ h0 = h) := ⟨_, _, ⟨100, rfl⟩, rfl, rfl⟩
set_option maxRecDepth 100000 in
set_option maxHeartbeats 4000000 in
theorem m_stepsOf4_4 (d : Nat) (z : Nat → Int) (zl : Nat → Int) (f : Nat → Int → Int) (fl : Nat → Int → Int) (tx : Nat)  (od : Int → Int) (h0 : od 0 = 0) (h1 : od 1 = 3) (h2 : od 2 = 1) (h3 : od 3 = 2) : Rx (d + 1) m_X12_stepsOf 0 (am_ent [.ref 0, .int (iz 4)] 6) [] (cmH z zl (uf f 22 od) fl tx) (fun rv h => rv = some (.int (iz 2)) ∧ h = cmH z zl (uf f 22 od) fl tx) := by
  refine Rx.walk 0 (pc' := 0) (L' := [some (.ref 0), some (.int (iz 4)), none, none, none, none]) (st' := []) (h' := cmH z zl (uf f 22 od) fl tx) rfl ?_
  refine Rx.walk 10 (pc' := 13) (L' := [some (.ref 0), some (.int (iz 4)), some (.int (iz 0)), some (.int (iz 0)), some (.int (iz 0)), some (.int (iz 0))]) (st' := [.int (iz 4), .int (iz 0)]) (h' := cmH z zl (uf f 22 od) fl tx) rfl ?_
  refine Rx.ge2 rfl rfl ⟨by omega, by omega⟩ ⟨by omega, by omega⟩ (fun b1 => by omega) (fun b1 => ?_)
  refine Rx.walk 2 (pc' := 19) (L' := [some (.ref 0), some (.int (iz 4)), some (.int (iz 0)), some (.int (iz 0)), some (.int (iz 0)), some (.int (iz 0))]) (st' := [.int (iz 0), .int (iz 0)]) (h' := cmH z zl (uf f 22 od) fl tx) rfl ?_
  refine Rx.callx (m' := m_X12_has) (as := [.int (iz 0), .int (iz 0)]) (rest := []) rfl (n_has_0_0 _ (cmH z zl (uf f 22 od) fl tx)   ) (fun v2 h3 q4 => ?_)
  obtain ⟨rfl, rfl⟩ := q4
  refine Rx.walk 0 (pc' := 22) (L' := [some (.ref 0), some (.int (iz 4)), some (.int (iz 0)), some (.int (iz 0)), some (.int (iz 0)), some (.int (iz 0))]) (st' := [.int (iz 0)]) (h' := cmH z zl (uf f 22 od) fl tx) rfl ?_
  refine Rx.ne1 rfl rfl ⟨by omega, by omega⟩ (fun b5 => by omega) (fun b5 => ?_)
  refine Rx.walk 4 (pc' := 32) (L' := [some (.ref 0), some (.int (iz 4)), some (.int (iz 0)), some (.int (iz 0)), some (.int (iz 0)), some (.int (iz 0))]) (st' := [.int (iz 0), .ref 22, .int (iz 0)]) (h' := cmH z zl (uf f 22 od) fl tx) rfl ?_
  refine Rx.ial (g := od) rfl rfl (by omega) (by omega) (by omega) ?_
  rw [show (od 0) = 0 from h0]
  refine Rx.eq2 rfl rfl ⟨by omega, by omega⟩ ⟨by omega, by omega⟩ (fun b6 => ?_) (fun b6 => by omega)
  refine Rx.walk 3 (pc' := 66) (L' := [some (.ref 0), some (.int (iz 4)), some (.int (iz 0)), some (.int (iz 0)), some (.int (iz 0)), some (.int (iz 0))]) (st' := [.int (iz 0), .int (iz 1), .int (iz 0)]) (h' := cmH z zl (uf f 22 od) fl tx) rfl ?_
  refine Rx.ishl (c := 1) rfl (by decide) ?_
  refine Rx.ior (c := 1) rfl (by decide) ?_
  refine Rx.walk 1 (pc' := 70) (L' := [some (.ref 0), some (.int (iz 4)), some (.int (iz 0)), some (.int (iz 0)), some (.int (iz 1)), some (.int (iz 0))]) (st' := []) (h' := cmH z zl (uf f 22 od) fl tx) rfl ?_
  refine Rx.iinc (b := 1) rfl rfl rfl ?_
  refine Rx.walk 0 (pc' := 73) (L' := [some (.ref 0), some (.int (iz 4)), some (.int (iz 0)), some (.int (iz 0)), some (.int (iz 1)), some (.int (iz 1))]) (st' := []) (h' := cmH z zl (uf f 22 od) fl tx) rfl ?_
  refine Rx.walk 3 (pc' := 13) (L' := [some (.ref 0), some (.int (iz 4)), some (.int (iz 0)), some (.int (iz 0)), some (.int (iz 1)), some (.int (iz 1))]) (st' := [.int (iz 4), .int (iz 1)]) (h' := cmH z zl (uf f 22 od) fl tx) rfl ?_
  refine Rx.ge2 rfl rfl ⟨by omega, by omega⟩ ⟨by omega, by omega⟩ (fun b7 => by omega) (fun b7 => ?_)
  refine Rx.walk 2 (pc' := 19) (L' := [some (.ref 0), some (.int (iz 4)), some (.int (iz 0)), some (.int (iz 0)), some (.int (iz 1)), some (.int (iz 1))]) (st' := [.int (iz 0), .int (iz 1)]) (h' := cmH z zl (uf f 22 od) fl tx) rfl ?_
  refine Rx.callx (m' := m_X12_has) (as := [.int (iz 1), .int (iz 0)]) (rest := []) rfl (n_has_1_0 _ (cmH z zl (uf f 22 od) fl tx)   ) (fun v8 h9 q10 => ?_)
  obtain ⟨rfl, rfl⟩ := q10
  refine Rx.walk 0 (pc' := 22) (L' := [some (.ref 0), some (.int (iz 4)), some (.int (iz 0)), some (.int (iz 0)), some (.int (iz 1)), some (.int (iz 1))]) (st' := [.int (iz 1)]) (h' := cmH z zl (uf f 22 od) fl tx) rfl ?_
  refine Rx.ne1 rfl rfl ⟨by omega, by omega⟩ (fun b11 => ?_) (fun b11 => by omega)
  refine Rx.walk 3 (pc' := 40) (L' := [some (.ref 0), some (.int (iz 4)), some (.int (iz 0)), some (.int (iz 0)), some (.int (iz 1)), some (.int (iz 1))]) (st' := [.int (iz 0), .int (iz 1), .int (iz 0)]) (h' := cmH z zl (uf f 22 od) fl tx) rfl ?_
  refine Rx.callx (m' := m_X12_has) (as := [.int (iz 1), .int (iz 0)]) (rest := [.int (iz 0)]) rfl (n_has_1_0 _ (cmH z zl (uf f 22 od) fl tx)   ) (fun v12 h13 q14 => ?_)
  obtain ⟨rfl, rfl⟩ := q14
  refine Rx.walk 0 (pc' := 43) (L' := [some (.ref 0), some (.int (iz 4)), some (.int (iz 0)), some (.int (iz 0)), some (.int (iz 1)), some (.int (iz 1))]) (st' := [.int (iz 1), .int (iz 0)]) (h' := cmH z zl (uf f 22 od) fl tx) rfl ?_
  refine Rx.eq1 rfl rfl ⟨by omega, by omega⟩ (fun b15 => by omega) (fun b15 => ?_)
  refine Rx.walk 2 (pc' := 51) (L' := [some (.ref 0), some (.int (iz 4)), some (.int (iz 0)), some (.int (iz 0)), some (.int (iz 1)), some (.int (iz 1))]) (st' := [.int (iz 0), .int (iz 0)]) (h' := cmH z zl (uf f 22 od) fl tx) rfl ?_
  refine Rx.iadd rfl ?_
  refine Rx.walk 0 (pc' := 52) (L' := [some (.ref 0), some (.int (iz 4)), some (.int (iz 0)), some (.int (iz 0)), some (.int (iz 1)), some (.int (iz 1))]) (st' := [.int (iz 0)]) (h' := cmH z zl (uf f 22 od) fl tx) rfl ?_
  refine Rx.walk 3 (pc' := 55) (L' := [some (.ref 0), some (.int (iz 4)), some (.int (iz 0)), some (.int (iz 0)), some (.int (iz 1)), some (.int (iz 1))]) (st' := [.int (iz 1), .int (iz 0)]) (h' := cmH z zl (uf f 22 od) fl tx) rfl ?_
  refine Rx.iadd rfl ?_
  refine Rx.walk 0 (pc' := 56) (L' := [some (.ref 0), some (.int (iz 4)), some (.int (iz 0)), some (.int (iz 0)), some (.int (iz 1)), some (.int (iz 1))]) (st' := [.int (iz 1)]) (h' := cmH z zl (uf f 22 od) fl tx) rfl ?_
  refine Rx.walk 1 (pc' := 57) (L' := [some (.ref 0), some (.int (iz 4)), some (.int (iz 0)), some (.int (iz 0)), some (.int (iz 1)), some (.int (iz 1))]) (st' := [.int (iz 4), .int (iz 1)]) (h' := cmH z zl (uf f 22 od) fl tx) rfl ?_
  refine Rx.irem rfl ⟨by omega, by omega⟩ ⟨by omega, by omega⟩ (by omega) (by omega) ?_
  refine Rx.walk 4 (pc' := 19) (L' := [some (.ref 0), some (.int (iz 4)), some (.int (iz 0)), some (.int (iz 1)), some (.int (iz 1)), some (.int (iz 1))]) (st' := [.int (iz 1), .int (iz 1)]) (h' := cmH z zl (uf f 22 od) fl tx) rfl ?_
  refine Rx.callx (m' := m_X12_has) (as := [.int (iz 1), .int (iz 1)]) (rest := []) rfl (n_has_1_1 _ (cmH z zl (uf f 22 od) fl tx)   ) (fun v16 h17 q18 => ?_)
  obtain ⟨rfl, rfl⟩ := q18
  refine Rx.walk 0 (pc' := 22) (L' := [some (.ref 0), some (.int (iz 4)), some (.int (iz 0)), some (.int (iz 1)), some (.int (iz 1)), some (.int (iz 1))]) (st' := [.int (iz 0)]) (h' := cmH z zl (uf f 22 od) fl tx) rfl ?_
  refine Rx.ne1 rfl rfl ⟨by omega, by omega⟩ (fun b19 => by omega) (fun b19 => ?_)
  refine Rx.walk 4 (pc' := 32) (L' := [some (.ref 0), some (.int (iz 4)), some (.int (iz 0)), some (.int (iz 1)), some (.int (iz 1)), some (.int (iz 1))]) (st' := [.int (iz 1), .ref 22, .int (iz 1)]) (h' := cmH z zl (uf f 22 od) fl tx) rfl ?_
  refine Rx.ial (g := od) rfl rfl (by omega) (by omega) (by omega) ?_
  rw [show (od 1) = 3 from h1]
  refine Rx.eq2 rfl rfl ⟨by omega, by omega⟩ ⟨by omega, by omega⟩ (fun b20 => by omega) (fun b20 => ?_)
  refine Rx.walk 3 (pc' := 40) (L' := [some (.ref 0), some (.int (iz 4)), some (.int (iz 0)), some (.int (iz 1)), some (.int (iz 1)), some (.int (iz 1))]) (st' := [.int (iz 1), .int (iz 1), .int (iz 0)]) (h' := cmH z zl (uf f 22 od) fl tx) rfl ?_
  refine Rx.callx (m' := m_X12_has) (as := [.int (iz 1), .int (iz 1)]) (rest := [.int (iz 0)]) rfl (n_has_1_1 _ (cmH z zl (uf f 22 od) fl tx)   ) (fun v21 h22 q23 => ?_)
  obtain ⟨rfl, rfl⟩ := q23
  refine Rx.walk 0 (pc' := 43) (L' := [some (.ref 0), some (.int (iz 4)), some (.int (iz 0)), some (.int (iz 1)), some (.int (iz 1)), some (.int (iz 1))]) (st' := [.int (iz 0), .int (iz 0)]) (h' := cmH z zl (uf f 22 od) fl tx) rfl ?_
  refine Rx.eq1 rfl rfl ⟨by omega, by omega⟩ (fun b24 => ?_) (fun b24 => by omega)
  refine Rx.walk 1 (pc' := 51) (L' := [some (.ref 0), some (.int (iz 4)), some (.int (iz 0)), some (.int (iz 1)), some (.int (iz 1)), some (.int (iz 1))]) (st' := [.int (iz 1), .int (iz 0)]) (h' := cmH z zl (uf f 22 od) fl tx) rfl ?_
  refine Rx.iadd rfl ?_
  refine Rx.walk 0 (pc' := 52) (L' := [some (.ref 0), some (.int (iz 4)), some (.int (iz 0)), some (.int (iz 1)), some (.int (iz 1)), some (.int (iz 1))]) (st' := [.int (iz 1)]) (h' := cmH z zl (uf f 22 od) fl tx) rfl ?_
  refine Rx.walk 3 (pc' := 55) (L' := [some (.ref 0), some (.int (iz 4)), some (.int (iz 1)), some (.int (iz 1)), some (.int (iz 1)), some (.int (iz 1))]) (st' := [.int (iz 1), .int (iz 1)]) (h' := cmH z zl (uf f 22 od) fl tx) rfl ?_
  refine Rx.iadd rfl ?_
  refine Rx.walk 0 (pc' := 56) (L' := [some (.ref 0), some (.int (iz 4)), some (.int (iz 1)), some (.int (iz 1)), some (.int (iz 1)), some (.int (iz 1))]) (st' := [.int (iz 2)]) (h' := cmH z zl (uf f 22 od) fl tx) rfl ?_
  refine Rx.walk 1 (pc' := 57) (L' := [some (.ref 0), some (.int (iz 4)), some (.int (iz 1)), some (.int (iz 1)), some (.int (iz 1)), some (.int (iz 1))]) (st' := [.int (iz 4), .int (iz 2)]) (h' := cmH z zl (uf f 22 od) fl tx) rfl ?_
  refine Rx.irem rfl ⟨by omega, by omega⟩ ⟨by omega, by omega⟩ (by omega) (by omega) ?_
  refine Rx.walk 4 (pc' := 19) (L' := [some (.ref 0), some (.int (iz 4)), some (.int (iz 1)), some (.int (iz 2)), some (.int (iz 1)), some (.int (iz 1))]) (st' := [.int (iz 2), .int (iz 1)]) (h' := cmH z zl (uf f 22 od) fl tx) rfl ?_
  refine Rx.callx (m' := m_X12_has) (as := [.int (iz 1), .int (iz 2)]) (rest := []) rfl (n_has_1_2 _ (cmH z zl (uf f 22 od) fl tx)   ) (fun v25 h26 q27 => ?_)
  obtain ⟨rfl, rfl⟩ := q27
  refine Rx.walk 0 (pc' := 22) (L' := [some (.ref 0), some (.int (iz 4)), some (.int (iz 1)), some (.int (iz 2)), some (.int (iz 1)), some (.int (iz 1))]) (st' := [.int (iz 0)]) (h' := cmH z zl (uf f 22 od) fl tx) rfl ?_
  refine Rx.ne1 rfl rfl ⟨by omega, by omega⟩ (fun b28 => by omega) (fun b28 => ?_)
  refine Rx.walk 4 (pc' := 32) (L' := [some (.ref 0), some (.int (iz 4)), some (.int (iz 1)), some (.int (iz 2)), some (.int (iz 1)), some (.int (iz 1))]) (st' := [.int (iz 1), .ref 22, .int (iz 2)]) (h' := cmH z zl (uf f 22 od) fl tx) rfl ?_
  refine Rx.ial (g := od) rfl rfl (by omega) (by omega) (by omega) ?_
  rw [show (od 1) = 3 from h1]
  refine Rx.eq2 rfl rfl ⟨by omega, by omega⟩ ⟨by omega, by omega⟩ (fun b29 => by omega) (fun b29 => ?_)
  refine Rx.walk 3 (pc' := 40) (L' := [some (.ref 0), some (.int (iz 4)), some (.int (iz 1)), some (.int (iz 2)), some (.int (iz 1)), some (.int (iz 1))]) (st' := [.int (iz 2), .int (iz 1), .int (iz 1)]) (h' := cmH z zl (uf f 22 od) fl tx) rfl ?_
  refine Rx.callx (m' := m_X12_has) (as := [.int (iz 1), .int (iz 2)]) (rest := [.int (iz 1)]) rfl (n_has_1_2 _ (cmH z zl (uf f 22 od) fl tx)   ) (fun v30 h31 q32 => ?_)
  obtain ⟨rfl, rfl⟩ := q32
  refine Rx.walk 0 (pc' := 43) (L' := [some (.ref 0), some (.int (iz 4)), some (.int (iz 1)), some (.int (iz 2)), some (.int (iz 1)), some (.int (iz 1))]) (st' := [.int (iz 0), .int (iz 1)]) (h' := cmH z zl (uf f 22 od) fl tx) rfl ?_
  refine Rx.eq1 rfl rfl ⟨by omega, by omega⟩ (fun b33 => ?_) (fun b33 => by omega)
  refine Rx.walk 1 (pc' := 51) (L' := [some (.ref 0), some (.int (iz 4)), some (.int (iz 1)), some (.int (iz 2)), some (.int (iz 1)), some (.int (iz 1))]) (st' := [.int (iz 1), .int (iz 1)]) (h' := cmH z zl (uf f 22 od) fl tx) rfl ?_
  refine Rx.iadd rfl ?_
  refine Rx.walk 0 (pc' := 52) (L' := [some (.ref 0), some (.int (iz 4)), some (.int (iz 1)), some (.int (iz 2)), some (.int (iz 1)), some (.int (iz 1))]) (st' := [.int (iz 2)]) (h' := cmH z zl (uf f 22 od) fl tx) rfl ?_
  refine Rx.walk 3 (pc' := 55) (L' := [some (.ref 0), some (.int (iz 4)), some (.int (iz 2)), some (.int (iz 2)), some (.int (iz 1)), some (.int (iz 1))]) (st' := [.int (iz 1), .int (iz 2)]) (h' := cmH z zl (uf f 22 od) fl tx) rfl ?_
  refine Rx.iadd rfl ?_
  refine Rx.walk 0 (pc' := 56) (L' := [some (.ref 0), some (.int (iz 4)), some (.int (iz 2)), some (.int (iz 2)), some (.int (iz 1)), some (.int (iz 1))]) (st' := [.int (iz 3)]) (h' := cmH z zl (uf f 22 od) fl tx) rfl ?_
  refine Rx.walk 1 (pc' := 57) (L' := [some (.ref 0), some (.int (iz 4)), some (.int (iz 2)), some (.int (iz 2)), some (.int (iz 1)), some (.int (iz 1))]) (st' := [.int (iz 4), .int (iz 3)]) (h' := cmH z zl (uf f 22 od) fl tx) rfl ?_
  refine Rx.irem rfl ⟨by omega, by omega⟩ ⟨by omega, by omega⟩ (by omega) (by omega) ?_
  refine Rx.walk 4 (pc' := 19) (L' := [some (.ref 0), some (.int (iz 4)), some (.int (iz 2)), some (.int (iz 3)), some (.int (iz 1)), some (.int (iz 1))]) (st' := [.int (iz 3), .int (iz 1)]) (h' := cmH z zl (uf f 22 od) fl tx) rfl ?_
  refine Rx.callx (m' := m_X12_has) (as := [.int (iz 1), .int (iz 3)]) (rest := []) rfl (n_has_1_3 _ (cmH z zl (uf f 22 od) fl tx)   ) (fun v34 h35 q36 => ?_)
  obtain ⟨rfl, rfl⟩ := q36
  refine Rx.walk 0 (pc' := 22) (L' := [some (.ref 0), some (.int (iz 4)), some (.int (iz 2)), some (.int (iz 3)), some (.int (iz 1)), some (.int (iz 1))]) (st' := [.int (iz 0)]) (h' := cmH z zl (uf f 22 od) fl tx) rfl ?_
  refine Rx.ne1 rfl rfl ⟨by omega, by omega⟩ (fun b37 => by omega) (fun b37 => ?_)
  refine Rx.walk 4 (pc' := 32) (L' := [some (.ref 0), some (.int (iz 4)), some (.int (iz 2)), some (.int (iz 3)), some (.int (iz 1)), some (.int (iz 1))]) (st' := [.int (iz 1), .ref 22, .int (iz 3)]) (h' := cmH z zl (uf f 22 od) fl tx) rfl ?_
  refine Rx.ial (g := od) rfl rfl (by omega) (by omega) (by omega) ?_
  rw [show (od 1) = 3 from h1]
  refine Rx.eq2 rfl rfl ⟨by omega, by omega⟩ ⟨by omega, by omega⟩ (fun b38 => ?_) (fun b38 => by omega)
  refine Rx.walk 3 (pc' := 66) (L' := [some (.ref 0), some (.int (iz 4)), some (.int (iz 2)), some (.int (iz 3)), some (.int (iz 1)), some (.int (iz 1))]) (st' := [.int (iz 3), .int (iz 1), .int (iz 1)]) (h' := cmH z zl (uf f 22 od) fl tx) rfl ?_
  refine Rx.ishl (c := 8) rfl (by decide) ?_
  refine Rx.ior (c := 9) rfl (by decide) ?_
  refine Rx.walk 1 (pc' := 70) (L' := [some (.ref 0), some (.int (iz 4)), some (.int (iz 2)), some (.int (iz 3)), some (.int (iz 9)), some (.int (iz 1))]) (st' := []) (h' := cmH z zl (uf f 22 od) fl tx) rfl ?_
  refine Rx.iinc (b := 1) rfl rfl rfl ?_
  refine Rx.walk 0 (pc' := 73) (L' := [some (.ref 0), some (.int (iz 4)), some (.int (iz 2)), some (.int (iz 3)), some (.int (iz 9)), some (.int (iz 2))]) (st' := []) (h' := cmH z zl (uf f 22 od) fl tx) rfl ?_
  refine Rx.walk 3 (pc' := 13) (L' := [some (.ref 0), some (.int (iz 4)), some (.int (iz 2)), some (.int (iz 3)), some (.int (iz 9)), some (.int (iz 2))]) (st' := [.int (iz 4), .int (iz 2)]) (h' := cmH z zl (uf f 22 od) fl tx) rfl ?_
  refine Rx.ge2 rfl rfl ⟨by omega, by omega⟩ ⟨by omega, by omega⟩ (fun b39 => by omega) (fun b39 => ?_)
  refine Rx.walk 2 (pc' := 19) (L' := [some (.ref 0), some (.int (iz 4)), some (.int (iz 2)), some (.int (iz 3)), some (.int (iz 9)), some (.int (iz 2))]) (st' := [.int (iz 3), .int (iz 9)]) (h' := cmH z zl (uf f 22 od) fl tx) rfl ?_
  refine Rx.callx (m' := m_X12_has) (as := [.int (iz 9), .int (iz 3)]) (rest := []) rfl (n_has_9_3 _ (cmH z zl (uf f 22 od) fl tx)   ) (fun v40 h41 q42 => ?_)
  obtain ⟨rfl, rfl⟩ := q42
  refine Rx.walk 0 (pc' := 22) (L' := [some (.ref 0), some (.int (iz 4)), some (.int (iz 2)), some (.int (iz 3)), some (.int (iz 9)), some (.int (iz 2))]) (st' := [.int (iz 1)]) (h' := cmH z zl (uf f 22 od) fl tx) rfl ?_
  refine Rx.ne1 rfl rfl ⟨by omega, by omega⟩ (fun b43 => ?_) (fun b43 => by omega)
  refine Rx.walk 3 (pc' := 40) (L' := [some (.ref 0), some (.int (iz 4)), some (.int (iz 2)), some (.int (iz 3)), some (.int (iz 9)), some (.int (iz 2))]) (st' := [.int (iz 3), .int (iz 9), .int (iz 2)]) (h' := cmH z zl (uf f 22 od) fl tx) rfl ?_
  refine Rx.callx (m' := m_X12_has) (as := [.int (iz 9), .int (iz 3)]) (rest := [.int (iz 2)]) rfl (n_has_9_3 _ (cmH z zl (uf f 22 od) fl tx)   ) (fun v44 h45 q46 => ?_)
  obtain ⟨rfl, rfl⟩ := q46
  refine Rx.walk 0 (pc' := 43) (L' := [some (.ref 0), some (.int (iz 4)), some (.int (iz 2)), some (.int (iz 3)), some (.int (iz 9)), some (.int (iz 2))]) (st' := [.int (iz 1), .int (iz 2)]) (h' := cmH z zl (uf f 22 od) fl tx) rfl ?_
  refine Rx.eq1 rfl rfl ⟨by omega, by omega⟩ (fun b47 => by omega) (fun b47 => ?_)
  refine Rx.walk 2 (pc' := 51) (L' := [some (.ref 0), some (.int (iz 4)), some (.int (iz 2)), some (.int (iz 3)), some (.int (iz 9)), some (.int (iz 2))]) (st' := [.int (iz 0), .int (iz 2)]) (h' := cmH z zl (uf f 22 od) fl tx) rfl ?_
  refine Rx.iadd rfl ?_
  refine Rx.walk 0 (pc' := 52) (L' := [some (.ref 0), some (.int (iz 4)), some (.int (iz 2)), some (.int (iz 3)), some (.int (iz 9)), some (.int (iz 2))]) (st' := [.int (iz 2)]) (h' := cmH z zl (uf f 22 od) fl tx) rfl ?_
  refine Rx.walk 3 (pc' := 55) (L' := [some (.ref 0), some (.int (iz 4)), some (.int (iz 2)), some (.int (iz 3)), some (.int (iz 9)), some (.int (iz 2))]) (st' := [.int (iz 1), .int (iz 3)]) (h' := cmH z zl (uf f 22 od) fl tx) rfl ?_
  refine Rx.iadd rfl ?_
  refine Rx.walk 0 (pc' := 56) (L' := [some (.ref 0), some (.int (iz 4)), some (.int (iz 2)), some (.int (iz 3)), some (.int (iz 9)), some (.int (iz 2))]) (st' := [.int (iz 4)]) (h' := cmH z zl (uf f 22 od) fl tx) rfl ?_
  refine Rx.walk 1 (pc' := 57) (L' := [some (.ref 0), some (.int (iz 4)), some (.int (iz 2)), some (.int (iz 3)), some (.int (iz 9)), some (.int (iz 2))]) (st' := [.int (iz 4), .int (iz 4)]) (h' := cmH z zl (uf f 22 od) fl tx) rfl ?_
  refine Rx.irem rfl ⟨by omega, by omega⟩ ⟨by omega, by omega⟩ (by omega) (by omega) ?_
  refine Rx.walk 4 (pc' := 19) (L' := [some (.ref 0), some (.int (iz 4)), some (.int (iz 2)), some (.int (iz 0)), some (.int (iz 9)), some (.int (iz 2))]) (st' := [.int (iz 0), .int (iz 9)]) (h' := cmH z zl (uf f 22 od) fl tx) rfl ?_
  refine Rx.callx (m' := m_X12_has) (as := [.int (iz 9), .int (iz 0)]) (rest := []) rfl (n_has_9_0 _ (cmH z zl (uf f 22 od) fl tx)   ) (fun v48 h49 q50 => ?_)
  obtain ⟨rfl, rfl⟩ := q50
  refine Rx.walk 0 (pc' := 22) (L' := [some (.ref 0), some (.int (iz 4)), some (.int (iz 2)), some (.int (iz 0)), some (.int (iz 9)), some (.int (iz 2))]) (st' := [.int (iz 1)]) (h' := cmH z zl (uf f 22 od) fl tx) rfl ?_
  refine Rx.ne1 rfl rfl ⟨by omega, by omega⟩ (fun b51 => ?_) (fun b51 => by omega)
  refine Rx.walk 3 (pc' := 40) (L' := [some (.ref 0), some (.int (iz 4)), some (.int (iz 2)), some (.int (iz 0)), some (.int (iz 9)), some (.int (iz 2))]) (st' := [.int (iz 0), .int (iz 9), .int (iz 2)]) (h' := cmH z zl (uf f 22 od) fl tx) rfl ?_
  refine Rx.callx (m' := m_X12_has) (as := [.int (iz 9), .int (iz 0)]) (rest := [.int (iz 2)]) rfl (n_has_9_0 _ (cmH z zl (uf f 22 od) fl tx)   ) (fun v52 h53 q54 => ?_)
  obtain ⟨rfl, rfl⟩ := q54
  refine Rx.walk 0 (pc' := 43) (L' := [some (.ref 0), some (.int (iz 4)), some (.int (iz 2)), some (.int (iz 0)), some (.int (iz 9)), some (.int (iz 2))]) (st' := [.int (iz 1), .int (iz 2)]) (h' := cmH z zl (uf f 22 od) fl tx) rfl ?_
  refine Rx.eq1 rfl rfl ⟨by omega, by omega⟩ (fun b55 => by omega) (fun b55 => ?_)
  refine Rx.walk 2 (pc' := 51) (L' := [some (.ref 0), some (.int (iz 4)), some (.int (iz 2)), some (.int (iz 0)), some (.int (iz 9)), some (.int (iz 2))]) (st' := [.int (iz 0), .int (iz 2)]) (h' := cmH z zl (uf f 22 od) fl tx) rfl ?_
  refine Rx.iadd rfl ?_
  refine Rx.walk 0 (pc' := 52) (L' := [some (.ref 0), some (.int (iz 4)), some (.int (iz 2)), some (.int (iz 0)), some (.int (iz 9)), some (.int (iz 2))]) (st' := [.int (iz 2)]) (h' := cmH z zl (uf f 22 od) fl tx) rfl ?_
  refine Rx.walk 3 (pc' := 55) (L' := [some (.ref 0), some (.int (iz 4)), some (.int (iz 2)), some (.int (iz 0)), some (.int (iz 9)), some (.int (iz 2))]) (st' := [.int (iz 1), .int (iz 0)]) (h' := cmH z zl (uf f 22 od) fl tx) rfl ?_
  refine Rx.iadd rfl ?_
  refine Rx.walk 0 (pc' := 56) (L' := [some (.ref 0), some (.int (iz 4)), some (.int (iz 2)), some (.int (iz 0)), some (.int (iz 9)), some (.int (iz 2))]) (st' := [.int (iz 1)]) (h' := cmH z zl (uf f 22 od) fl tx) rfl ?_
  refine Rx.walk 1 (pc' := 57) (L' := [some (.ref 0), some (.int (iz 4)), some (.int (iz 2)), some (.int (iz 0)), some (.int (iz 9)), some (.int (iz 2))]) (st' := [.int (iz 4), .int (iz 1)]) (h' := cmH z zl (uf f 22 od) fl tx) rfl ?_
  refine Rx.irem rfl ⟨by omega, by omega⟩ ⟨by omega, by omega⟩ (by omega) (by omega) ?_
  refine Rx.walk 4 (pc' := 19) (L' := [some (.ref 0), some (.int (iz 4)), some (.int (iz 2)), some (.int (iz 1)), some (.int (iz 9)), some (.int (iz 2))]) (st' := [.int (iz 1), .int (iz 9)]) (h' := cmH z zl (uf f 22 od) fl tx) rfl ?_
  refine Rx.callx (m' := m_X12_has) (as := [.int (iz 9), .int (iz 1)]) (rest := []) rfl (n_has_9_1 _ (cmH z zl (uf f 22 od) fl tx)   ) (fun v56 h57 q58 => ?_)
  obtain ⟨rfl, rfl⟩ := q58
  refine Rx.walk 0 (pc' := 22) (L' := [some (.ref 0), some (.int (iz 4)), some (.int (iz 2)), some (.int (iz 1)), some (.int (iz 9)), some (.int (iz 2))]) (st' := [.int (iz 0)]) (h' := cmH z zl (uf f 22 od) fl tx) rfl ?_
  refine Rx.ne1 rfl rfl ⟨by omega, by omega⟩ (fun b59 => by omega) (fun b59 => ?_)
  refine Rx.walk 4 (pc' := 32) (L' := [some (.ref 0), some (.int (iz 4)), some (.int (iz 2)), some (.int (iz 1)), some (.int (iz 9)), some (.int (iz 2))]) (st' := [.int (iz 2), .ref 22, .int (iz 1)]) (h' := cmH z zl (uf f 22 od) fl tx) rfl ?_
  refine Rx.ial (g := od) rfl rfl (by omega) (by omega) (by omega) ?_
  rw [show (od 2) = 1 from h2]
  refine Rx.eq2 rfl rfl ⟨by omega, by omega⟩ ⟨by omega, by omega⟩ (fun b60 => ?_) (fun b60 => by omega)
  refine Rx.walk 3 (pc' := 66) (L' := [some (.ref 0), some (.int (iz 4)), some (.int (iz 2)), some (.int (iz 1)), some (.int (iz 9)), some (.int (iz 2))]) (st' := [.int (iz 1), .int (iz 1), .int (iz 9)]) (h' := cmH z zl (uf f 22 od) fl tx) rfl ?_
  refine Rx.ishl (c := 2) rfl (by decide) ?_
  refine Rx.ior (c := 11) rfl (by decide) ?_
  refine Rx.walk 1 (pc' := 70) (L' := [some (.ref 0), some (.int (iz 4)), some (.int (iz 2)), some (.int (iz 1)), some (.int (iz 11)), some (.int (iz 2))]) (st' := []) (h' := cmH z zl (uf f 22 od) fl tx) rfl ?_
  refine Rx.iinc (b := 1) rfl rfl rfl ?_
  refine Rx.walk 0 (pc' := 73) (L' := [some (.ref 0), some (.int (iz 4)), some (.int (iz 2)), some (.int (iz 1)), some (.int (iz 11)), some (.int (iz 3))]) (st' := []) (h' := cmH z zl (uf f 22 od) fl tx) rfl ?_
  refine Rx.walk 3 (pc' := 13) (L' := [some (.ref 0), some (.int (iz 4)), some (.int (iz 2)), some (.int (iz 1)), some (.int (iz 11)), some (.int (iz 3))]) (st' := [.int (iz 4), .int (iz 3)]) (h' := cmH z zl (uf f 22 od) fl tx) rfl ?_
  refine Rx.ge2 rfl rfl ⟨by omega, by omega⟩ ⟨by omega, by omega⟩ (fun b61 => by omega) (fun b61 => ?_)
  refine Rx.walk 2 (pc' := 19) (L' := [some (.ref 0), some (.int (iz 4)), some (.int (iz 2)), some (.int (iz 1)), some (.int (iz 11)), some (.int (iz 3))]) (st' := [.int (iz 1), .int (iz 11)]) (h' := cmH z zl (uf f 22 od) fl tx) rfl ?_
  refine Rx.callx (m' := m_X12_has) (as := [.int (iz 11), .int (iz 1)]) (rest := []) rfl (n_has_11_1 _ (cmH z zl (uf f 22 od) fl tx)   ) (fun v62 h63 q64 => ?_)
  obtain ⟨rfl, rfl⟩ := q64
  refine Rx.walk 0 (pc' := 22) (L' := [some (.ref 0), some (.int (iz 4)), some (.int (iz 2)), some (.int (iz 1)), some (.int (iz 11)), some (.int (iz 3))]) (st' := [.int (iz 1)]) (h' := cmH z zl (uf f 22 od) fl tx) rfl ?_
  refine Rx.ne1 rfl rfl ⟨by omega, by omega⟩ (fun b65 => ?_) (fun b65 => by omega)
  refine Rx.walk 3 (pc' := 40) (L' := [some (.ref 0), some (.int (iz 4)), some (.int (iz 2)), some (.int (iz 1)), some (.int (iz 11)), some (.int (iz 3))]) (st' := [.int (iz 1), .int (iz 11), .int (iz 2)]) (h' := cmH z zl (uf f 22 od) fl tx) rfl ?_
  refine Rx.callx (m' := m_X12_has) (as := [.int (iz 11), .int (iz 1)]) (rest := [.int (iz 2)]) rfl (n_has_11_1 _ (cmH z zl (uf f 22 od) fl tx)   ) (fun v66 h67 q68 => ?_)
  obtain ⟨rfl, rfl⟩ := q68
  refine Rx.walk 0 (pc' := 43) (L' := [some (.ref 0), some (.int (iz 4)), some (.int (iz 2)), some (.int (iz 1)), some (.int (iz 11)), some (.int (iz 3))]) (st' := [.int (iz 1), .int (iz 2)]) (h' := cmH z zl (uf f 22 od) fl tx) rfl ?_
  refine Rx.eq1 rfl rfl ⟨by omega, by omega⟩ (fun b69 => by omega) (fun b69 => ?_)
  refine Rx.walk 2 (pc' := 51) (L' := [some (.ref 0), some (.int (iz 4)), some (.int (iz 2)), some (.int (iz 1)), some (.int (iz 11)), some (.int (iz 3))]) (st' := [.int (iz 0), .int (iz 2)]) (h' := cmH z zl (uf f 22 od) fl tx) rfl ?_
  refine Rx.iadd rfl ?_
  refine Rx.walk 0 (pc' := 52) (L' := [some (.ref 0), some (.int (iz 4)), some (.int (iz 2)), some (.int (iz 1)), some (.int (iz 11)), some (.int (iz 3))]) (st' := [.int (iz 2)]) (h' := cmH z zl (uf f 22 od) fl tx) rfl ?_
  refine Rx.walk 3 (pc' := 55) (L' := [some (.ref 0), some (.int (iz 4)), some (.int (iz 2)), some (.int (iz 1)), some (.int (iz 11)), some (.int (iz 3))]) (st' := [.int (iz 1), .int (iz 1)]) (h' := cmH z zl (uf f 22 od) fl tx) rfl ?_
  refine Rx.iadd rfl ?_
  refine Rx.walk 0 (pc' := 56) (L' := [some (.ref 0), some (.int (iz 4)), some (.int (iz 2)), some (.int (iz 1)), some (.int (iz 11)), some (.int (iz 3))]) (st' := [.int (iz 2)]) (h' := cmH z zl (uf f 22 od) fl tx) rfl ?_
  refine Rx.walk 1 (pc' := 57) (L' := [some (.ref 0), some (.int (iz 4)), some (.int (iz 2)), some (.int (iz 1)), some (.int (iz 11)), some (.int (iz 3))]) (st' := [.int (iz 4), .int (iz 2)]) (h' := cmH z zl (uf f 22 od) fl tx) rfl ?_
  refine Rx.irem rfl ⟨by omega, by omega⟩ ⟨by omega, by omega⟩ (by omega) (by omega) ?_
  refine Rx.walk 4 (pc' := 19) (L' := [some (.ref 0), some (.int (iz 4)), some (.int (iz 2)), some (.int (iz 2)), some (.int (iz 11)), some (.int (iz 3))]) (st' := [.int (iz 2), .int (iz 11)]) (h' := cmH z zl (uf f 22 od) fl tx) rfl ?_
  refine Rx.callx (m' := m_X12_has) (as := [.int (iz 11), .int (iz 2)]) (rest := []) rfl (n_has_11_2 _ (cmH z zl (uf f 22 od) fl tx)   ) (fun v70 h71 q72 => ?_)
  obtain ⟨rfl, rfl⟩ := q72
  refine Rx.walk 0 (pc' := 22) (L' := [some (.ref 0), some (.int (iz 4)), some (.int (iz 2)), some (.int (iz 2)), some (.int (iz 11)), some (.int (iz 3))]) (st' := [.int (iz 0)]) (h' := cmH z zl (uf f 22 od) fl tx) rfl ?_
  refine Rx.ne1 rfl rfl ⟨by omega, by omega⟩ (fun b73 => by omega) (fun b73 => ?_)
  refine Rx.walk 4 (pc' := 32) (L' := [some (.ref 0), some (.int (iz 4)), some (.int (iz 2)), some (.int (iz 2)), some (.int (iz 11)), some (.int (iz 3))]) (st' := [.int (iz 3), .ref 22, .int (iz 2)]) (h' := cmH z zl (uf f 22 od) fl tx) rfl ?_
  refine Rx.ial (g := od) rfl rfl (by omega) (by omega) (by omega) ?_
  rw [show (od 3) = 2 from h3]
  refine Rx.eq2 rfl rfl ⟨by omega, by omega⟩ ⟨by omega, by omega⟩ (fun b74 => ?_) (fun b74 => by omega)
  refine Rx.walk 3 (pc' := 66) (L' := [some (.ref 0), some (.int (iz 4)), some (.int (iz 2)), some (.int (iz 2)), some (.int (iz 11)), some (.int (iz 3))]) (st' := [.int (iz 2), .int (iz 1), .int (iz 11)]) (h' := cmH z zl (uf f 22 od) fl tx) rfl ?_
  refine Rx.ishl (c := 4) rfl (by decide) ?_
  refine Rx.ior (c := 15) rfl (by decide) ?_
  refine Rx.walk 1 (pc' := 70) (L' := [some (.ref 0), some (.int (iz 4)), some (.int (iz 2)), some (.int (iz 2)), some (.int (iz 15)), some (.int (iz 3))]) (st' := []) (h' := cmH z zl (uf f 22 od) fl tx) rfl ?_
  refine Rx.iinc (b := 1) rfl rfl rfl ?_
  refine Rx.walk 0 (pc' := 73) (L' := [some (.ref 0), some (.int (iz 4)), some (.int (iz 2)), some (.int (iz 2)), some (.int (iz 15)), some (.int (iz 4))]) (st' := []) (h' := cmH z zl (uf f 22 od) fl tx) rfl ?_
  refine Rx.walk 3 (pc' := 13) (L' := [some (.ref 0), some (.int (iz 4)), some (.int (iz 2)), some (.int (iz 2)), some (.int (iz 15)), some (.int (iz 4))]) (st' := [.int (iz 4), .int (iz 4)]) (h' := cmH z zl (uf f 22 od) fl tx) rfl ?_
  refine Rx.ge2 rfl rfl ⟨by omega, by omega⟩ ⟨by omega, by omega⟩ (fun b75 => ?_) (fun b75 => by omega)
  refine Rx.walk 1 (pc' := 77) (L' := [some (.ref 0), some (.int (iz 4)), some (.int (iz 2)), some (.int (iz 2)), some (.int (iz 15)), some (.int (iz 4))]) (st' := [.int (iz 2)]) (h' := cmH z zl (uf f 22 od) fl tx) rfl ?_
  refine Rx.ret rfl ?_
  exact ⟨rfl, rfl⟩
set_option maxRecDepth 100000 in
set_option maxHeartbeats 4000000 in
theorem n_has_9_2 (d : Nat) (h0 : AmH)   : Rx (d) m_X12_has 0 (am_ent [.int (iz 9), .int (iz 2)] 2) [] (h0) (fun rv h => rv = some (.int (iz 0)) ∧ h0 = h) := ⟨_, _, ⟨100, rfl⟩, rfl, rfl⟩
set_option maxRecDepth 100000 in
set_option maxHeartbeats 4000000 in
theorem n_has_13_2 (d : Nat) (h0 : AmH)   : Rx (d) m_X12_has 0 (am_ent [.int (iz 13), .int (iz 2)] 2) [] (h0) (fun rv h => rv = some (.int (iz 1)) ∧ h0 = h) := ⟨_, _, ⟨100, rfl⟩, rfl, rfl⟩
set_option maxRecDepth 100000 in
set_option maxHeartbeats 4000000 in
theorem m_stepsOf4_5 (d : Nat) (z : Nat → Int) (zl : Nat → Int) (f : Nat → Int → Int) (fl : Nat → Int → Int) (tx : Nat)  (od : Int → Int) (h0 : od 0 = 0) (h1 : od 1 = 3) (h2 : od 2 = 2) (h3 : od 3 = 1) : Rx (d + 1) m_X12_stepsOf 0 (am_ent [.ref 0, .int (iz 4)] 6) [] (cmH z zl (uf f 22 od) fl tx) (fun rv h => rv = some (.int (iz 3)) ∧ h = cmH z zl (uf f 22 od) fl tx) := by
  refine Rx.walk 0 (pc' := 0) (L' := [some (.ref 0), some (.int (iz 4)), none, none, none, none]) (st' := []) (h' := cmH z zl (uf f 22 od) fl tx) rfl ?_
  refine Rx.walk 10 (pc' := 13) (L' := [some (.ref 0), some (.int (iz 4)), some (.int (iz 0)), some (.int (iz 0)), some (.int (iz 0)), some (.int (iz 0))]) (st' := [.int (iz 4), .int (iz 0)]) (h' := cmH z zl (uf f 22 od) fl tx) rfl ?_
  refine Rx.ge2 rfl rfl ⟨by omega, by omega⟩ ⟨by omega, by omega⟩ (fun b1 => by omega) (fun b1 => ?_)
  refine Rx.walk 2 (pc' := 19) (L' := [some (.ref 0), some (.int (iz 4)), some (.int (iz 0)), some (.int (iz 0)), some (.int (iz 0)), some (.int (iz 0))]) (st' := [.int (iz 0), .int (iz 0)]) (h' := cmH z zl (uf f 22 od) fl tx) rfl ?_
  refine Rx.callx (m' := m_X12_has) (as := [.int (iz 0), .int (iz 0)]) (rest := []) rfl (n_has_0_0 _ (cmH z zl (uf f 22 od) fl tx)   ) (fun v2 h3 q4 => ?_)
  obtain ⟨rfl, rfl⟩ := q4
  refine Rx.walk 0 (pc' := 22) (L' := [some (.ref 0), some (.int (iz 4)), some (.int (iz 0)), some (.int (iz 0)), some (.int (iz 0)), some (.int (iz 0))]) (st' := [.int (iz 0)]) (h' := cmH z zl (uf f 22 od) fl tx) rfl ?_
  refine Rx.ne1 rfl rfl ⟨by omega, by omega⟩ (fun b5 => by omega) (fun b5 => ?_)
  refine Rx.walk 4 (pc' := 32) (L' := [some (.ref 0), some (.int (iz 4)), some (.int (iz 0)), some (.int (iz 0)), some (.int (iz 0)), some (.int (iz 0))]) (st' := [.int (iz 0), .ref 22, .int (iz 0)]) (h' := cmH z zl (uf f 22 od) fl tx) rfl ?_
  refine Rx.ial (g := od) rfl rfl (by omega) (by omega) (by omega) ?_
  rw [show (od 0) = 0 from h0]
  refine Rx.eq2 rfl rfl ⟨by omega, by omega⟩ ⟨by omega, by omega⟩ (fun b6 => ?_) (fun b6 => by omega)
  refine Rx.walk 3 (pc' := 66) (L' := [some (.ref 0), some (.int (iz 4)), some (.int (iz 0)), some (.int (iz 0)), some (.int (iz 0)), some (.int (iz 0))]) (st' := [.int (iz 0), .int (iz 1), .int (iz 0)]) (h' := cmH z zl (uf f 22 od) fl tx) rfl ?_
  refine Rx.ishl (c := 1) rfl (by decide) ?_
  refine Rx.ior (c := 1) rfl (by decide) ?_
  refine Rx.walk 1 (pc' := 70) (L' := [some (.ref 0), some (.int (iz 4)), some (.int (iz 0)), some (.int (iz 0)), some (.int (iz 1)), some (.int (iz 0))]) (st' := []) (h' := cmH z zl (uf f 22 od) fl tx) rfl ?_
  refine Rx.iinc (b := 1) rfl rfl rfl ?_
  refine Rx.walk 0 (pc' := 73) (L' := [some (.ref 0), some (.int (iz 4)), some (.int (iz 0)), some (.int (iz 0)), some (.int (iz 1)), some (.int (iz 1))]) (st' := []) (h' := cmH z zl (uf f 22 od) fl tx) rfl ?_
  refine Rx.walk 3 (pc' := 13) (L' := [some (.ref 0), some (.int (iz 4)), some (.int (iz 0)), some (.int (iz 0)), some (.int (iz 1)), some (.int (iz 1))]) (st' := [.int (iz 4), .int (iz 1)]) (h' := cmH z zl (uf f 22 od) fl tx) rfl ?_
  refine Rx.ge2 rfl rfl ⟨by omega, by omega⟩ ⟨by omega, by omega⟩ (fun b7 => by omega) (fun b7 => ?_)
  refine Rx.walk 2 (pc' := 19) (L' := [some (.ref 0), some (.int (iz 4)), some (.int (iz 0)), some (.int (iz 0)), some (.int (iz 1)), some (.int (iz 1))]) (st' := [.int (iz 0), .int (iz 1)]) (h' := cmH z zl (uf f 22 od) fl tx) rfl ?_
  refine Rx.callx (m' := m_X12_has) (as := [.int (iz 1), .int (iz 0)]) (rest := []) rfl (n_has_1_0 _ (cmH z zl (uf f 22 od) fl tx)   ) (fun v8 h9 q10 => ?_)
  obtain ⟨rfl, rfl⟩ := q10
  refine Rx.walk 0 (pc' := 22) (L' := [some (.ref 0), some (.int (iz 4)), some (.int (iz 0)), some (.int (iz 0)), some (.int (iz 1)), some (.int (iz 1))]) (st' := [.int (iz 1)]) (h' := cmH z zl (uf f 22 od) fl tx) rfl ?_
  refine Rx.ne1 rfl rfl ⟨by omega, by omega⟩ (fun b11 => ?_) (fun b11 => by omega)
  refine Rx.walk 3 (pc' := 40) (L' := [some (.ref 0), some (.int (iz 4)), some (.int (iz 0)), some (.int (iz 0)), some (.int (iz 1)), some (.int (iz 1))]) (st' := [.int (iz 0), .int (iz 1), .int (iz 0)]) (h' := cmH z zl (uf f 22 od) fl tx) rfl ?_
  refine Rx.callx (m' := m_X12_has) (as := [.int (iz 1), .int (iz 0)]) (rest := [.int (iz 0)]) rfl (n_has_1_0 _ (cmH z zl (uf f 22 od) fl tx)   ) (fun v12 h13 q14 => ?_)
  obtain ⟨rfl, rfl⟩ := q14
  refine Rx.walk 0 (pc' := 43) (L' := [some (.ref 0), some (.int (iz 4)), some (.int (iz 0)), some (.int (iz 0)), some (.int (iz 1)), some (.int (iz 1))]) (st' := [.int (iz 1), .int (iz 0)]) (h' := cmH z zl (uf f 22 od) fl tx) rfl ?_
  refine Rx.eq1 rfl rfl ⟨by omega, by omega⟩ (fun b15 => by omega) (fun b15 => ?_)
  refine Rx.walk 2 (pc' := 51) (L' := [some (.ref 0), some (.int (iz 4)), some (.int (iz 0)), some (.int (iz 0)), some (.int (iz 1)), some (.int (iz 1))]) (st' := [.int (iz 0), .int (iz 0)]) (h' := cmH z zl (uf f 22 od) fl tx) rfl ?_
  refine Rx.iadd rfl ?_
  refine Rx.walk 0 (pc' := 52) (L' := [some (.ref 0), some (.int (iz 4)), some (.int (iz 0)), some (.int (iz 0)), some (.int (iz 1)), some (.int (iz 1))]) (st' := [.int (iz 0)]) (h' := cmH z zl (uf f 22 od) fl tx) rfl ?_
  refine Rx.walk 3 (pc' := 55) (L' := [some (.ref 0), some (.int (iz 4)), some (.int (iz 0)), some (.int (iz 0)), some (.int (iz 1)), some (.int (iz 1))]) (st' := [.int (iz 1), .int (iz 0)]) (h' := cmH z zl (uf f 22 od) fl tx) rfl ?_
  refine Rx.iadd rfl ?_
  refine Rx.walk 0 (pc' := 56) (L' := [some (.ref 0), some (.int (iz 4)), some (.int (iz 0)), some (.int (iz 0)), some (.int (iz 1)), some (.int (iz 1))]) (st' := [.int (iz 1)]) (h' := cmH z zl (uf f 22 od) fl tx) rfl ?_
  refine Rx.walk 1 (pc' := 57) (L' := [some (.ref 0), some (.int (iz 4)), some (.int (iz 0)), some (.int (iz 0)), some (.int (iz 1)), some (.int (iz 1))]) (st' := [.int (iz 4), .int (iz 1)]) (h' := cmH z zl (uf f 22 od) fl tx) rfl ?_
  refine Rx.irem rfl ⟨by omega, by omega⟩ ⟨by omega, by omega⟩ (by omega) (by omega) ?_
  refine Rx.walk 4 (pc' := 19) (L' := [some (.ref 0), some (.int (iz 4)), some (.int (iz 0)), some (.int (iz 1)), some (.int (iz 1)), some (.int (iz 1))]) (st' := [.int (iz 1), .int (iz 1)]) (h' := cmH z zl (uf f 22 od) fl tx) rfl ?_
  refine Rx.callx (m' := m_X12_has) (as := [.int (iz 1), .int (iz 1)]) (rest := []) rfl (n_has_1_1 _ (cmH z zl (uf f 22 od) fl tx)   ) (fun v16 h17 q18 => ?_)
  obtain ⟨rfl, rfl⟩ := q18
  refine Rx.walk 0 (pc' := 22) (L' := [some (.ref 0), some (.int (iz 4)), some (.int (iz 0)), some (.int (iz 1)), some (.int (iz 1)), some (.int (iz 1))]) (st' := [.int (iz 0)]) (h' := cmH z zl (uf f 22 od) fl tx) rfl ?_
  refine Rx.ne1 rfl rfl ⟨by omega, by omega⟩ (fun b19 => by omega) (fun b19 => ?_)
  refine Rx.walk 4 (pc' := 32) (L' := [some (.ref 0), some (.int (iz 4)), some (.int (iz 0)), some (.int (iz 1)), some (.int (iz 1)), some (.int (iz 1))]) (st' := [.int (iz 1), .ref 22, .int (iz 1)]) (h' := cmH z zl (uf f 22 od) fl tx) rfl ?_
  refine Rx.ial (g := od) rfl rfl (by omega) (by omega) (by omega) ?_
  rw [show (od 1) = 3 from h1]
  refine Rx.eq2 rfl rfl ⟨by omega, by omega⟩ ⟨by omega, by omega⟩ (fun b20 => by omega) (fun b20 => ?_)
  refine Rx.walk 3 (pc' := 40) (L' := [some (.ref 0), some (.int (iz 4)), some (.int (iz 0)), some (.int (iz 1)), some (.int (iz 1)), some (.int (iz 1))]) (st' := [.int (iz 1), .int (iz 1), .int (iz 0)]) (h' := cmH z zl (uf f 22 od) fl tx) rfl ?_
  refine Rx.callx (m' := m_X12_has) (as := [.int (iz 1), .int (iz 1)]) (rest := [.int (iz 0)]) rfl (n_has_1_1 _ (cmH z zl (uf f 22 od) fl tx)   ) (fun v21 h22 q23 => ?_)
  obtain ⟨rfl, rfl⟩ := q23
  refine Rx.walk 0 (pc' := 43) (L' := [some (.ref 0), some (.int (iz 4)), some (.int (iz 0)), some (.int (iz 1)), some (.int (iz 1)), some (.int (iz 1))]) (st' := [.int (iz 0), .int (iz 0)]) (h' := cmH z zl (uf f 22 od) fl tx) rfl ?_
  refine Rx.eq1 rfl rfl ⟨by omega, by omega⟩ (fun b24 => ?_) (fun b24 => by omega)
  refine Rx.walk 1 (pc' := 51) (L' := [some (.ref 0), some (.int (iz 4)), some (.int (iz 0)), some (.int (iz 1)), some (.int (iz 1)), some (.int (iz 1))]) (st' := [.int (iz 1), .int (iz 0)]) (h' := cmH z zl (uf f 22 od) fl tx) rfl ?_
  refine Rx.iadd rfl ?_
  refine Rx.walk 0 (pc' := 52) (L' := [some (.ref 0), some (.int (iz 4)), some (.int (iz 0)), some (.int (iz 1)), some (.int (iz 1)), some (.int (iz 1))]) (st' := [.int (iz 1)]) (h' := cmH z zl (uf f 22 od) fl tx) rfl ?_
  refine Rx.walk 3 (pc' := 55) (L' := [some (.ref 0), some (.int (iz 4)), some (.int (iz 1)), some (.int (iz 1)), some (.int (iz 1)), some (.int (iz 1))]) (st' := [.int (iz 1), .int (iz 1)]) (h' := cmH z zl (uf f 22 od) fl tx) rfl ?_
  refine Rx.iadd rfl ?_
  refine Rx.walk 0 (pc' := 56) (L' := [some (.ref 0), some (.int (iz 4)), some (.int (iz 1)), some (.int (iz 1)), some (.int (iz 1)), some (.int (iz 1))]) (st' := [.int (iz 2)]) (h' := cmH z zl (uf f 22 od) fl tx) rfl ?_
  refine Rx.walk 1 (pc' := 57) (L' := [some (.ref 0), some (.int (iz 4)), some (.int (iz 1)), some (.int (iz 1)), some (.int (iz 1)), some (.int (iz 1))]) (st' := [.int (iz 4), .int (iz 2)]) (h' := cmH z zl (uf f 22 od) fl tx) rfl ?_
  refine Rx.irem rfl ⟨by omega, by omega⟩ ⟨by omega, by omega⟩ (by omega) (by omega) ?_
  refine Rx.walk 4 (pc' := 19) (L' := [some (.ref 0), some (.int (iz 4)), some (.int (iz 1)), some (.int (iz 2)), some (.int (iz 1)), some (.int (iz 1))]) (st' := [.int (iz 2), .int (iz 1)]) (h' := cmH z zl (uf f 22 od) fl tx) rfl ?_
  refine Rx.callx (m' := m_X12_has) (as := [.int (iz 1), .int (iz 2)]) (rest := []) rfl (n_has_1_2 _ (cmH z zl (uf f 22 od) fl tx)   ) (fun v25 h26 q27 => ?_)
  obtain ⟨rfl, rfl⟩ := q27
  refine Rx.walk 0 (pc' := 22) (L' := [some (.ref 0), some (.int (iz 4)), some (.int (iz 1)), some (.int (iz 2)), some (.int (iz 1)), some (.int (iz 1))]) (st' := [.int (iz 0)]) (h' := cmH z zl (uf f 22 od) fl tx) rfl ?_
  refine Rx.ne1 rfl rfl ⟨by omega, by omega⟩ (fun b28 => by omega) (fun b28 => ?_)
  refine Rx.walk 4 (pc' := 32) (L' := [some (.ref 0), some (.int (iz 4)), some (.int (iz 1)), some (.int (iz 2)), some (.int (iz 1)), some (.int (iz 1))]) (st' := [.int (iz 1), .ref 22, .int (iz 2)]) (h' := cmH z zl (uf f 22 od) fl tx) rfl ?_
  refine Rx.ial (g := od) rfl rfl (by omega) (by omega) (by omega) ?_
  rw [show (od 1) = 3 from h1]
  refine Rx.eq2 rfl rfl ⟨by omega, by omega⟩ ⟨by omega, by omega⟩ (fun b29 => by omega) (fun b29 => ?_)
  refine Rx.walk 3 (pc' := 40) (L' := [some (.ref 0), some (.int (iz 4)), some (.int (iz 1)), some (.int (iz 2)), some (.int (iz 1)), some (.int (iz 1))]) (st' := [.int (iz 2), .int (iz 1), .int (iz 1)]) (h' := cmH z zl (uf f 22 od) fl tx) rfl ?_
  refine Rx.callx (m' := m_X12_has) (as := [.int (iz 1), .int (iz 2)]) (rest := [.int (iz 1)]) rfl (n_has_1_2 _ (cmH z zl (uf f 22 od) fl tx)   ) (fun v30 h31 q32 => ?_)
  obtain ⟨rfl, rfl⟩ := q32
  refine Rx.walk 0 (pc' := 43) (L' := [some (.ref 0), some (.int (iz 4)), some (.int (iz 1)), some (.int (iz 2)), some (.int (iz 1)), some (.int (iz 1))]) (st' := [.int (iz 0), .int (iz 1)]) (h' := cmH z zl (uf f 22 od) fl tx) rfl ?_
  refine Rx.eq1 rfl rfl ⟨by omega, by omega⟩ (fun b33 => ?_) (fun b33 => by omega)
  refine Rx.walk 1 (pc' := 51) (L' := [some (.ref 0), some (.int (iz 4)), some (.int (iz 1)), some (.int (iz 2)), some (.int (iz 1)), some (.int (iz 1))]) (st' := [.int (iz 1), .int (iz 1)]) (h' := cmH z zl (uf f 22 od) fl tx) rfl ?_
  refine Rx.iadd rfl ?_
  refine Rx.walk 0 (pc' := 52) (L' := [some (.ref 0), some (.int (iz 4)), some (.int (iz 1)), some (.int (iz 2)), some (.int (iz 1)), some (.int (iz 1))]) (st' := [.int (iz 2)]) (h' := cmH z zl (uf f 22 od) fl tx) rfl ?_
  refine Rx.walk 3 (pc' := 55) (L' := [some (.ref 0), some (.int (iz 4)), some (.int (iz 2)), some (.int (iz 2)), some (.int (iz 1)), some (.int (iz 1))]) (st' := [.int (iz 1), .int (iz 2)]) (h' := cmH z zl (uf f 22 od) fl tx) rfl ?_
  refine Rx.iadd rfl ?_
  refine Rx.walk 0 (pc' := 56) (L' := [some (.ref 0), some (.int (iz 4)), some (.int (iz 2)), some (.int (iz 2)), some (.int (iz 1)), some (.int (iz 1))]) (st' := [.int (iz 3)]) (h' := cmH z zl (uf f 22 od) fl tx) rfl ?_
  refine Rx.walk 1 (pc' := 57) (L' := [some (.ref 0), some (.int (iz 4)), some (.int (iz 2)), some (.int (iz 2)), some (.int (iz 1)), some (.int (iz 1))]) (st' := [.int (iz 4), .int (iz 3)]) (h' := cmH z zl (uf f 22 od) fl tx) rfl ?_
  refine Rx.irem rfl ⟨by omega, by omega⟩ ⟨by omega, by omega⟩ (by omega) (by omega) ?_
  refine Rx.walk 4 (pc' := 19) (L' := [some (.ref 0), some (.int (iz 4)), some (.int (iz 2)), some (.int (iz 3)), some (.int (iz 1)), some (.int (iz 1))]) (st' := [.int (iz 3), .int (iz 1)]) (h' := cmH z zl (uf f 22 od) fl tx) rfl ?_
  refine Rx.callx (m' := m_X12_has) (as := [.int (iz 1), .int (iz 3)]) (rest := []) rfl (n_has_1_3 _ (cmH z zl (uf f 22 od) fl tx)   ) (fun v34 h35 q36 => ?_)
  obtain ⟨rfl, rfl⟩ := q36
  refine Rx.walk 0 (pc' := 22) (L' := [some (.ref 0), some (.int (iz 4)), some (.int (iz 2)), some (.int (iz 3)), some (.int (iz 1)), some (.int (iz 1))]) (st' := [.int (iz 0)]) (h' := cmH z zl (uf f 22 od) fl tx) rfl ?_
  refine Rx.ne1 rfl rfl ⟨by omega, by omega⟩ (fun b37 => by omega) (fun b37 => ?_)
  refine Rx.walk 4 (pc' := 32) (L' := [some (.ref 0), some (.int (iz 4)), some (.int (iz 2)), some (.int (iz 3)), some (.int (iz 1)), some (.int (iz 1))]) (st' := [.int (iz 1), .ref 22, .int (iz 3)]) (h' := cmH z zl (uf f 22 od) fl tx) rfl ?_
  refine Rx.ial (g := od) rfl rfl (by omega) (by omega) (by omega) ?_
  rw [show (od 1) = 3 from h1]
  refine Rx.eq2 rfl rfl ⟨by omega, by omega⟩ ⟨by omega, by omega⟩ (fun b38 => ?_) (fun b38 => by omega)
  refine Rx.walk 3 (pc' := 66) (L' := [some (.ref 0), some (.int (iz 4)), some (.int (iz 2)), some (.int (iz 3)), some (.int (iz 1)), some (.int (iz 1))]) (st' := [.int (iz 3), .int (iz 1), .int (iz 1)]) (h' := cmH z zl (uf f 22 od) fl tx) rfl ?_
  refine Rx.ishl (c := 8) rfl (by decide) ?_
  refine Rx.ior (c := 9) rfl (by decide) ?_
  refine Rx.walk 1 (pc' := 70) (L' := [some (.ref 0), some (.int (iz 4)), some (.int (iz 2)), some (.int (iz 3)), some (.int (iz 9)), some (.int (iz 1))]) (st' := []) (h' := cmH z zl (uf f 22 od) fl tx) rfl ?_
  refine Rx.iinc (b := 1) rfl rfl rfl ?_
  refine Rx.walk 0 (pc' := 73) (L' := [some (.ref 0), some (.int (iz 4)), some (.int (iz 2)), some (.int (iz 3)), some (.int (iz 9)), some (.int (iz 2))]) (st' := []) (h' := cmH z zl (uf f 22 od) fl tx) rfl ?_
  refine Rx.walk 3 (pc' := 13) (L' := [some (.ref 0), some (.int (iz 4)), some (.int (iz 2)), some (.int (iz 3)), some (.int (iz 9)), some (.int (iz 2))]) (st' := [.int (iz 4), .int (iz 2)]) (h' := cmH z zl (uf f 22 od) fl tx) rfl ?_
  refine Rx.ge2 rfl rfl ⟨by omega, by omega⟩ ⟨by omega, by omega⟩ (fun b39 => by omega) (fun b39 => ?_)
  refine Rx.walk 2 (pc' := 19) (L' := [some (.ref 0), some (.int (iz 4)), some (.int (iz 2)), some (.int (iz 3)), some (.int (iz 9)), some (.int (iz 2))]) (st' := [.int (iz 3), .int (iz 9)]) (h' := cmH z zl (uf f 22 od) fl tx) rfl ?_
  refine Rx.callx (m' := m_X12_has) (as := [.int (iz 9), .int (iz 3)]) (rest := []) rfl (n_has_9_3 _ (cmH z zl (uf f 22 od) fl tx)   ) (fun v40 h41 q42 => ?_)
  obtain ⟨rfl, rfl⟩ := q42
  refine Rx.walk 0 (pc' := 22) (L' := [some (.ref 0), some (.int (iz 4)), some (.int (iz 2)), some (.int (iz 3)), some (.int (iz 9)), some (.int (iz 2))]) (st' := [.int (iz 1)]) (h' := cmH z zl (uf f 22 od) fl tx) rfl ?_
  refine Rx.ne1 rfl rfl ⟨by omega, by omega⟩ (fun b43 => ?_) (fun b43 => by omega)
  refine Rx.walk 3 (pc' := 40) (L' := [some (.ref 0), some (.int (iz 4)), some (.int (iz 2)), some (.int (iz 3)), some (.int (iz 9)), some (.int (iz 2))]) (st' := [.int (iz 3), .int (iz 9), .int (iz 2)]) (h' := cmH z zl (uf f 22 od) fl tx) rfl ?_
  refine Rx.callx (m' := m_X12_has) (as := [.int (iz 9), .int (iz 3)]) (rest := [.int (iz 2)]) rfl (n_has_9_3 _ (cmH z zl (uf f 22 od) fl tx)   ) (fun v44 h45 q46 => ?_)
  obtain ⟨rfl, rfl⟩ := q46
  refine Rx.walk 0 (pc' := 43) (L' := [some (.ref 0), some (.int (iz 4)), some (.int (iz 2)), some (.int (iz 3)), some (.int (iz 9)), some (.int (iz 2))]) (st' := [.int (iz 1), .int (iz 2)]) (h' := cmH z zl (uf f 22 od) fl tx) rfl ?_
  refine Rx.eq1 rfl rfl ⟨by omega, by omega⟩ (fun b47 => by omega) (fun b47 => ?_)
  refine Rx.walk 2 (pc' := 51) (L' := [some (.ref 0), some (.int (iz 4)), some (.int (iz 2)), some (.int (iz 3)), some (.int (iz 9)), some (.int (iz 2))]) (st' := [.int (iz 0), .int (iz 2)]) (h' := cmH z zl (uf f 22 od) fl tx) rfl ?_
  refine Rx.iadd rfl ?_
  refine Rx.walk 0 (pc' := 52) (L' := [some (.ref 0), some (.int (iz 4)), some (.int (iz 2)), some (.int (iz 3)), some (.int (iz 9)), some (.int (iz 2))]) (st' := [.int (iz 2)]) (h' := cmH z zl (uf f 22 od) fl tx) rfl ?_
  refine Rx.walk 3 (pc' := 55) (L' := [some (.ref 0), some (.int (iz 4)), some (.int (iz 2)), some (.int (iz 3)), some (.int (iz 9)), some (.int (iz 2))]) (st' := [.int (iz 1), .int (iz 3)]) (h' := cmH z zl (uf f 22 od) fl tx) rfl ?_
  refine Rx.iadd rfl ?_
  refine Rx.walk 0 (pc' := 56) (L' := [some (.ref 0), some (.int (iz 4)), some (.int (iz 2)), some (.int (iz 3)), some (.int (iz 9)), some (.int (iz 2))]) (st' := [.int (iz 4)]) (h' := cmH z zl (uf f 22 od) fl tx) rfl ?_
  refine Rx.walk 1 (pc' := 57) (L' := [some (.ref 0), some (.int (iz 4)), some (.int (iz 2)), some (.int (iz 3)), some (.int (iz 9)), some (.int (iz 2))]) (st' := [.int (iz 4), .int (iz 4)]) (h' := cmH z zl (uf f 22 od) fl tx) rfl ?_
  refine Rx.irem rfl ⟨by omega, by omega⟩ ⟨by omega, by omega⟩ (by omega) (by omega) ?_
  refine Rx.walk 4 (pc' := 19) (L' := [some (.ref 0), some (.int (iz 4)), some (.int (iz 2)), some (.int (iz 0)), some (.int (iz 9)), some (.int (iz 2))]) (st' := [.int (iz 0), .int (iz 9)]) (h' := cmH z zl (uf f 22 od) fl tx) rfl ?_
  refine Rx.callx (m' := m_X12_has) (as := [.int (iz 9), .int (iz 0)]) (rest := []) rfl (n_has_9_0 _ (cmH z zl (uf f 22 od) fl tx)   ) (fun v48 h49 q50 => ?_)
  obtain ⟨rfl, rfl⟩ := q50
  refine Rx.walk 0 (pc' := 22) (L' := [some (.ref 0), some (.int (iz 4)), some (.int (iz 2)), some (.int (iz 0)), some (.int (iz 9)), some (.int (iz 2))]) (st' := [.int (iz 1)]) (h' := cmH z zl (uf f 22 od) fl tx) rfl ?_
  refine Rx.ne1 rfl rfl ⟨by omega, by omega⟩ (fun b51 => ?_) (fun b51 => by omega)
  refine Rx.walk 3 (pc' := 40) (L' := [some (.ref 0), some (.int (iz 4)), some (.int (iz 2)), some (.int (iz 0)), some (.int (iz 9)), some (.int (iz 2))]) (st' := [.int (iz 0), .int (iz 9), .int (iz 2)]) (h' := cmH z zl (uf f 22 od) fl tx) rfl ?_
  refine Rx.callx (m' := m_X12_has) (as := [.int (iz 9), .int (iz 0)]) (rest := [.int (iz 2)]) rfl (n_has_9_0 _ (cmH z zl (uf f 22 od) fl tx)   ) (fun v52 h53 q54 => ?_)
  obtain ⟨rfl, rfl⟩ := q54
  refine Rx.walk 0 (pc' := 43) (L' := [some (.ref 0), some (.int (iz 4)), some (.int (iz 2)), some (.int (iz 0)), some (.int (iz 9)), some (.int (iz 2))]) (st' := [.int (iz 1), .int (iz 2)]) (h' := cmH z zl (uf f 22 od) fl tx) rfl ?_
  refine Rx.eq1 rfl rfl ⟨by omega, by omega⟩ (fun b55 => by omega) (fun b55 => ?_)
  refine Rx.walk 2 (pc' := 51) (L' := [some (.ref 0), some (.int (iz 4)), some (.int (iz 2)), some (.int (iz 0)), some (.int (iz 9)), some (.int (iz 2))]) (st' := [.int (iz 0), .int (iz 2)]) (h' := cmH z zl (uf f 22 od) fl tx) rfl ?_
  refine Rx.iadd rfl ?_
  refine Rx.walk 0 (pc' := 52) (L' := [some (.ref 0), some (.int (iz 4)), some (.int (iz 2)), some (.int (iz 0)), some (.int (iz 9)), some (.int (iz 2))]) (st' := [.int (iz 2)]) (h' := cmH z zl (uf f 22 od) fl tx) rfl ?_
  refine Rx.walk 3 (pc' := 55) (L' := [some (.ref 0), some (.int (iz 4)), some (.int (iz 2)), some (.int (iz 0)), some (.int (iz 9)), some (.int (iz 2))]) (st' := [.int (iz 1), .int (iz 0)]) (h' := cmH z zl (uf f 22 od) fl tx) rfl ?_
  refine Rx.iadd rfl ?_
  refine Rx.walk 0 (pc' := 56) (L' := [some (.ref 0), some (.int (iz 4)), some (.int (iz 2)), some (.int (iz 0)), some (.int (iz 9)), some (.int (iz 2))]) (st' := [.int (iz 1)]) (h' := cmH z zl (uf f 22 od) fl tx) rfl ?_
  refine Rx.walk 1 (pc' := 57) (L' := [some (.ref 0), some (.int (iz 4)), some (.int (iz 2)), some (.int (iz 0)), some (.int (iz 9)), some (.int (iz 2))]) (st' := [.int (iz 4), .int (iz 1)]) (h' := cmH z zl (uf f 22 od) fl tx) rfl ?_
  refine Rx.irem rfl ⟨by omega, by omega⟩ ⟨by omega, by omega⟩ (by omega) (by omega) ?_
  refine Rx.walk 4 (pc' := 19) (L' := [some (.ref 0), some (.int (iz 4)), some (.int (iz 2)), some (.int (iz 1)), some (.int (iz 9)), some (.int (iz 2))]) (st' := [.int (iz 1), .int (iz 9)]) (h' := cmH z zl (uf f 22 od) fl tx) rfl ?_
  refine Rx.callx (m' := m_X12_has) (as := [.int (iz 9), .int (iz 1)]) (rest := []) rfl (n_has_9_1 _ (cmH z zl (uf f 22 od) fl tx)   ) (fun v56 h57 q58 => ?_)
  obtain ⟨rfl, rfl⟩ := q58
  refine Rx.walk 0 (pc' := 22) (L' := [some (.ref 0), some (.int (iz 4)), some (.int (iz 2)), some (.int (iz 1)), some (.int (iz 9)), some (.int (iz 2))]) (st' := [.int (iz 0)]) (h' := cmH z zl (uf f 22 od) fl tx) rfl ?_
  refine Rx.ne1 rfl rfl ⟨by omega, by omega⟩ (fun b59 => by omega) (fun b59 => ?_)
  refine Rx.walk 4 (pc' := 32) (L' := [some (.ref 0), some (.int (iz 4)), some (.int (iz 2)), some (.int (iz 1)), some (.int (iz 9)), some (.int (iz 2))]) (st' := [.int (iz 2), .ref 22, .int (iz 1)]) (h' := cmH z zl (uf f 22 od) fl tx) rfl ?_
  refine Rx.ial (g := od) rfl rfl (by omega) (by omega) (by omega) ?_
  rw [show (od 2) = 2 from h2]
  refine Rx.eq2 rfl rfl ⟨by omega, by omega⟩ ⟨by omega, by omega⟩ (fun b60 => by omega) (fun b60 => ?_)
  refine Rx.walk 3 (pc' := 40) (L' := [some (.ref 0), some (.int (iz 4)), some (.int (iz 2)), some (.int (iz 1)), some (.int (iz 9)), some (.int (iz 2))]) (st' := [.int (iz 1), .int (iz 9), .int (iz 2)]) (h' := cmH z zl (uf f 22 od) fl tx) rfl ?_
  refine Rx.callx (m' := m_X12_has) (as := [.int (iz 9), .int (iz 1)]) (rest := [.int (iz 2)]) rfl (n_has_9_1 _ (cmH z zl (uf f 22 od) fl tx)   ) (fun v61 h62 q63 => ?_)
  obtain ⟨rfl, rfl⟩ := q63
  refine Rx.walk 0 (pc' := 43) (L' := [some (.ref 0), some (.int (iz 4)), some (.int (iz 2)), some (.int (iz 1)), some (.int (iz 9)), some (.int (iz 2))]) (st' := [.int (iz 0), .int (iz 2)]) (h' := cmH z zl (uf f 22 od) fl tx) rfl ?_
  refine Rx.eq1 rfl rfl ⟨by omega, by omega⟩ (fun b64 => ?_) (fun b64 => by omega)
  refine Rx.walk 1 (pc' := 51) (L' := [some (.ref 0), some (.int (iz 4)), some (.int (iz 2)), some (.int (iz 1)), some (.int (iz 9)), some (.int (iz 2))]) (st' := [.int (iz 1), .int (iz 2)]) (h' := cmH z zl (uf f 22 od) fl tx) rfl ?_
  refine Rx.iadd rfl ?_
  refine Rx.walk 0 (pc' := 52) (L' := [some (.ref 0), some (.int (iz 4)), some (.int (iz 2)), some (.int (iz 1)), some (.int (iz 9)), some (.int (iz 2))]) (st' := [.int (iz 3)]) (h' := cmH z zl (uf f 22 od) fl tx) rfl ?_
  refine Rx.walk 3 (pc' := 55) (L' := [some (.ref 0), some (.int (iz 4)), some (.int (iz 3)), some (.int (iz 1)), some (.int (iz 9)), some (.int (iz 2))]) (st' := [.int (iz 1), .int (iz 1)]) (h' := cmH z zl (uf f 22 od) fl tx) rfl ?_
  refine Rx.iadd rfl ?_
  refine Rx.walk 0 (pc' := 56) (L' := [some (.ref 0), some (.int (iz 4)), some (.int (iz 3)), some (.int (iz 1)), some (.int (iz 9)), some (.int (iz 2))]) (st' := [.int (iz 2)]) (h' := cmH z zl (uf f 22 od) fl tx) rfl ?_
  refine Rx.walk 1 (pc' := 57) (L' := [some (.ref 0), some (.int (iz 4)), some (.int (iz 3)), some (.int (iz 1)), some (.int (iz 9)), some (.int (iz 2))]) (st' := [.int (iz 4), .int (iz 2)]) (h' := cmH z zl (uf f 22 od) fl tx) rfl ?_
  refine Rx.irem rfl ⟨by omega, by omega⟩ ⟨by omega, by omega⟩ (by omega) (by omega) ?_
  refine Rx.walk 4 (pc' := 19) (L' := [some (.ref 0), some (.int (iz 4)), some (.int (iz 3)), some (.int (iz 2)), some (.int (iz 9)), some (.int (iz 2))]) (st' := [.int (iz 2), .int (iz 9)]) (h' := cmH z zl (uf f 22 od) fl tx) rfl ?_
  refine Rx.callx (m' := m_X12_has) (as := [.int (iz 9), .int (iz 2)]) (rest := []) rfl (n_has_9_2 _ (cmH z zl (uf f 22 od) fl tx)   ) (fun v65 h66 q67 => ?_)
  obtain ⟨rfl, rfl⟩ := q67
  refine Rx.walk 0 (pc' := 22) (L' := [some (.ref 0), some (.int (iz 4)), some (.int (iz 3)), some (.int (iz 2)), some (.int (iz 9)), some (.int (iz 2))]) (st' := [.int (iz 0)]) (h' := cmH z zl (uf f 22 od) fl tx) rfl ?_
  refine Rx.ne1 rfl rfl ⟨by omega, by omega⟩ (fun b68 => by omega) (fun b68 => ?_)
  refine Rx.walk 4 (pc' := 32) (L' := [some (.ref 0), some (.int (iz 4)), some (.int (iz 3)), some (.int (iz 2)), some (.int (iz 9)), some (.int (iz 2))]) (st' := [.int (iz 2), .ref 22, .int (iz 2)]) (h' := cmH z zl (uf f 22 od) fl tx) rfl ?_
  refine Rx.ial (g := od) rfl rfl (by omega) (by omega) (by omega) ?_
  rw [show (od 2) = 2 from h2]
  refine Rx.eq2 rfl rfl ⟨by omega, by omega⟩ ⟨by omega, by omega⟩ (fun b69 => ?_) (fun b69 => by omega)
  refine Rx.walk 3 (pc' := 66) (L' := [some (.ref 0), some (.int (iz 4)), some (.int (iz 3)), some (.int (iz 2)), some (.int (iz 9)), some (.int (iz 2))]) (st' := [.int (iz 2), .int (iz 1), .int (iz 9)]) (h' := cmH z zl (uf f 22 od) fl tx) rfl ?_
  refine Rx.ishl (c := 4) rfl (by decide) ?_
  refine Rx.ior (c := 13) rfl (by decide) ?_
  refine Rx.walk 1 (pc' := 70) (L' := [some (.ref 0), some (.int (iz 4)), some (.int (iz 3)), some (.int (iz 2)), some (.int (iz 13)), some (.int (iz 2))]) (st' := []) (h' := cmH z zl (uf f 22 od) fl tx) rfl ?_
  refine Rx.iinc (b := 1) rfl rfl rfl ?_
  refine Rx.walk 0 (pc' := 73) (L' := [some (.ref 0), some (.int (iz 4)), some (.int (iz 3)), some (.int (iz 2)), some (.int (iz 13)), some (.int (iz 3))]) (st' := []) (h' := cmH z zl (uf f 22 od) fl tx) rfl ?_
  refine Rx.walk 3 (pc' := 13) (L' := [some (.ref 0), some (.int (iz 4)), some (.int (iz 3)), some (.int (iz 2)), some (.int (iz 13)), some (.int (iz 3))]) (st' := [.int (iz 4), .int (iz 3)]) (h' := cmH z zl (uf f 22 od) fl tx) rfl ?_
  refine Rx.ge2 rfl rfl ⟨by omega, by omega⟩ ⟨by omega, by omega⟩ (fun b70 => by omega) (fun b70 => ?_)
  refine Rx.walk 2 (pc' := 19) (L' := [some (.ref 0), some (.int (iz 4)), some (.int (iz 3)), some (.int (iz 2)), some (.int (iz 13)), some (.int (iz 3))]) (st' := [.int (iz 2), .int (iz 13)]) (h' := cmH z zl (uf f 22 od) fl tx) rfl ?_
  refine Rx.callx (m' := m_X12_has) (as := [.int (iz 13), .int (iz 2)]) (rest := []) rfl (n_has_13_2 _ (cmH z zl (uf f 22 od) fl tx)   ) (fun v71 h72 q73 => ?_)
  obtain ⟨rfl, rfl⟩ := q73
  refine Rx.walk 0 (pc' := 22) (L' := [some (.ref 0), some (.int (iz 4)), some (.int (iz 3)), some (.int (iz 2)), some (.int (iz 13)), some (.int (iz 3))]) (st' := [.int (iz 1)]) (h' := cmH z zl (uf f 22 od) fl tx) rfl ?_
  refine Rx.ne1 rfl rfl ⟨by omega, by omega⟩ (fun b74 => ?_) (fun b74 => by omega)
  refine Rx.walk 3 (pc' := 40) (L' := [some (.ref 0), some (.int (iz 4)), some (.int (iz 3)), some (.int (iz 2)), some (.int (iz 13)), some (.int (iz 3))]) (st' := [.int (iz 2), .int (iz 13), .int (iz 3)]) (h' := cmH z zl (uf f 22 od) fl tx) rfl ?_
  refine Rx.callx (m' := m_X12_has) (as := [.int (iz 13), .int (iz 2)]) (rest := [.int (iz 3)]) rfl (n_has_13_2 _ (cmH z zl (uf f 22 od) fl tx)   ) (fun v75 h76 q77 => ?_)
  obtain ⟨rfl, rfl⟩ := q77
  refine Rx.walk 0 (pc' := 43) (L' := [some (.ref 0), some (.int (iz 4)), some (.int (iz 3)), some (.int (iz 2)), some (.int (iz 13)), some (.int (iz 3))]) (st' := [.int (iz 1), .int (iz 3)]) (h' := cmH z zl (uf f 22 od) fl tx) rfl ?_
  refine Rx.eq1 rfl rfl ⟨by omega, by omega⟩ (fun b78 => by omega) (fun b78 => ?_)
  refine Rx.walk 2 (pc' := 51) (L' := [some (.ref 0), some (.int (iz 4)), some (.int (iz 3)), some (.int (iz 2)), some (.int (iz 13)), some (.int (iz 3))]) (st' := [.int (iz 0), .int (iz 3)]) (h' := cmH z zl (uf f 22 od) fl tx) rfl ?_
  refine Rx.iadd rfl ?_
  refine Rx.walk 0 (pc' := 52) (L' := [some (.ref 0), some (.int (iz 4)), some (.int (iz 3)), some (.int (iz 2)), some (.int (iz 13)), some (.int (iz 3))]) (st' := [.int (iz 3)]) (h' := cmH z zl (uf f 22 od) fl tx) rfl ?_
  refine Rx.walk 3 (pc' := 55) (L' := [some (.ref 0), some (.int (iz 4)), some (.int (iz 3)), some (.int (iz 2)), some (.int (iz 13)), some (.int (iz 3))]) (st' := [.int (iz 1), .int (iz 2)]) (h' := cmH z zl (uf f 22 od) fl tx) rfl ?_
  refine Rx.iadd rfl ?_
  refine Rx.walk 0 (pc' := 56) (L' := [some (.ref 0), some (.int (iz 4)), some (.int (iz 3)), some (.int (iz 2)), some (.int (iz 13)), some (.int (iz 3))]) (st' := [.int (iz 3)]) (h' := cmH z zl (uf f 22 od) fl tx) rfl ?_
  refine Rx.walk 1 (pc' := 57) (L' := [some (.ref 0), some (.int (iz 4)), some (.int (iz 3)), some (.int (iz 2)), some (.int (iz 13)), some (.int (iz 3))]) (st' := [.int (iz 4), .int (iz 3)]) (h' := cmH z zl (uf f 22 od) fl tx) rfl ?_
  refine Rx.irem rfl ⟨by omega, by omega⟩ ⟨by omega, by omega⟩ (by omega) (by omega) ?_
  refine Rx.walk 4 (pc' := 19) (L' := [some (.ref 0), some (.int (iz 4)), some (.int (iz 3)), some (.int (iz 3)), some (.int (iz 13)), some (.int (iz 3))]) (st' := [.int (iz 3), .int (iz 13)]) (h' := cmH z zl (uf f 22 od) fl tx) rfl ?_
  refine Rx.callx (m' := m_X12_has) (as := [.int (iz 13), .int (iz 3)]) (rest := []) rfl (n_has_13_3 _ (cmH z zl (uf f 22 od) fl tx)   ) (fun v79 h80 q81 => ?_)
  obtain ⟨rfl, rfl⟩ := q81
  refine Rx.walk 0 (pc' := 22) (L' := [some (.ref 0), some (.int (iz 4)), some (.int (iz 3)), some (.int (iz 3)), some (.int (iz 13)), some (.int (iz 3))]) (st' := [.int (iz 1)]) (h' := cmH z zl (uf f 22 od) fl tx) rfl ?_
  refine Rx.ne1 rfl rfl ⟨by omega, by omega⟩ (fun b82 => ?_) (fun b82 => by omega)
  refine Rx.walk 3 (pc' := 40) (L' := [some (.ref 0), some (.int (iz 4)), some (.int (iz 3)), some (.int (iz 3)), some (.int (iz 13)), some (.int (iz 3))]) (st' := [.int (iz 3), .int (iz 13), .int (iz 3)]) (h' := cmH z zl (uf f 22 od) fl tx) rfl ?_
  refine Rx.callx (m' := m_X12_has) (as := [.int (iz 13), .int (iz 3)]) (rest := [.int (iz 3)]) rfl (n_has_13_3 _ (cmH z zl (uf f 22 od) fl tx)   ) (fun v83 h84 q85 => ?_)
  obtain ⟨rfl, rfl⟩ := q85
  refine Rx.walk 0 (pc' := 43) (L' := [some (.ref 0), some (.int (iz 4)), some (.int (iz 3)), some (.int (iz 3)), some (.int (iz 13)), some (.int (iz 3))]) (st' := [.int (iz 1), .int (iz 3)]) (h' := cmH z zl (uf f 22 od) fl tx) rfl ?_
  refine Rx.eq1 rfl rfl ⟨by omega, by omega⟩ (fun b86 => by omega) (fun b86 => ?_)
  refine Rx.walk 2 (pc' := 51) (L' := [some (.ref 0), some (.int (iz 4)), some (.int (iz 3)), some (.int (iz 3)), some (.int (iz 13)), some (.int (iz 3))]) (st' := [.int (iz 0), .int (iz 3)]) (h' := cmH z zl (uf f 22 od) fl tx) rfl ?_
  refine Rx.iadd rfl ?_
  refine Rx.walk 0 (pc' := 52) (L' := [some (.ref 0), some (.int (iz 4)), some (.int (iz 3)), some (.int (iz 3)), some (.int (iz 13)), some (.int (iz 3))]) (st' := [.int (iz 3)]) (h' := cmH z zl (uf f 22 od) fl tx) rfl ?_
  refine Rx.walk 3 (pc' := 55) (L' := [some (.ref 0), some (.int (iz 4)), some (.int (iz 3)), some (.int (iz 3)), some (.int (iz 13)), some (.int (iz 3))]) (st' := [.int (iz 1), .int (iz 3)]) (h' := cmH z zl (uf f 22 od) fl tx) rfl ?_
  refine Rx.iadd rfl ?_
  refine Rx.walk 0 (pc' := 56) (L' := [some (.ref 0), some (.int (iz 4)), some (.int (iz 3)), some (.int (iz 3)), some (.int (iz 13)), some (.int (iz 3))]) (st' := [.int (iz 4)]) (h' := cmH z zl (uf f 22 od) fl tx) rfl ?_
  refine Rx.walk 1 (pc' := 57) (L' := [some (.ref 0), some (.int (iz 4)), some (.int (iz 3)), some (.int (iz 3)), some (.int (iz 13)), some (.int (iz 3))]) (st' := [.int (iz 4), .int (iz 4)]) (h' := cmH z zl (uf f 22 od) fl tx) rfl ?_
  refine Rx.irem rfl ⟨by omega, by omega⟩ ⟨by omega, by omega⟩ (by omega) (by omega) ?_
  refine Rx.walk 4 (pc' := 19) (L' := [some (.ref 0), some (.int (iz 4)), some (.int (iz 3)), some (.int (iz 0)), some (.int (iz 13)), some (.int (iz 3))]) (st' := [.int (iz 0), .int (iz 13)]) (h' := cmH z zl (uf f 22 od) fl tx) rfl ?_
  refine Rx.callx (m' := m_X12_has) (as := [.int (iz 13), .int (iz 0)]) (rest := []) rfl (n_has_13_0 _ (cmH z zl (uf f 22 od) fl tx)   ) (fun v87 h88 q89 => ?_)
  obtain ⟨rfl, rfl⟩ := q89
  refine Rx.walk 0 (pc' := 22) (L' := [some (.ref 0), some (.int (iz 4)), some (.int (iz 3)), some (.int (iz 0)), some (.int (iz 13)), some (.int (iz 3))]) (st' := [.int (iz 1)]) (h' := cmH z zl (uf f 22 od) fl tx) rfl ?_
  refine Rx.ne1 rfl rfl ⟨by omega, by omega⟩ (fun b90 => ?_) (fun b90 => by omega)
  refine Rx.walk 3 (pc' := 40) (L' := [some (.ref 0), some (.int (iz 4)), some (.int (iz 3)), some (.int (iz 0)), some (.int (iz 13)), some (.int (iz 3))]) (st' := [.int (iz 0), .int (iz 13), .int (iz 3)]) (h' := cmH z zl (uf f 22 od) fl tx) rfl ?_
  refine Rx.callx (m' := m_X12_has) (as := [.int (iz 13), .int (iz 0)]) (rest := [.int (iz 3)]) rfl (n_has_13_0 _ (cmH z zl (uf f 22 od) fl tx)   ) (fun v91 h92 q93 => ?_)
  obtain ⟨rfl, rfl⟩ := q93
  refine Rx.walk 0 (pc' := 43) (L' := [some (.ref 0), some (.int (iz 4)), some (.int (iz 3)), some (.int (iz 0)), some (.int (iz 13)), some (.int (iz 3))]) (st' := [.int (iz 1), .int (iz 3)]) (h' := cmH z zl (uf f 22 od) fl tx) rfl ?_
  refine Rx.eq1 rfl rfl ⟨by omega, by omega⟩ (fun b94 => by omega) (fun b94 => ?_)
  refine Rx.walk 2 (pc' := 51) (L' := [some (.ref 0), some (.int (iz 4)), some (.int (iz 3)), some (.int (iz 0)), some (.int (iz 13)), some (.int (iz 3))]) (st' := [.int (iz 0), .int (iz 3)]) (h' := cmH z zl (uf f 22 od) fl tx) rfl ?_
  refine Rx.iadd rfl ?_
  refine Rx.walk 0 (pc' := 52) (L' := [some (.ref 0), some (.int (iz 4)), some (.int (iz 3)), some (.int (iz 0)), some (.int (iz 13)), some (.int (iz 3))]) (st' := [.int (iz 3)]) (h' := cmH z zl (uf f 22 od) fl tx) rfl ?_
  refine Rx.walk 3 (pc' := 55) (L' := [some (.ref 0), some (.int (iz 4)), some (.int (iz 3)), some (.int (iz 0)), some (.int (iz 13)), some (.int (iz 3))]) (st' := [.int (iz 1), .int (iz 0)]) (h' := cmH z zl (uf f 22 od) fl tx) rfl ?_
  refine Rx.iadd rfl ?_
  refine Rx.walk 0 (pc' := 56) (L' := [some (.ref 0), some (.int (iz 4)), some (.int (iz 3)), some (.int (iz 0)), some (.int (iz 13)), some (.int (iz 3))]) (st' := [.int (iz 1)]) (h' := cmH z zl (uf f 22 od) fl tx) rfl ?_
  refine Rx.walk 1 (pc' := 57) (L' := [some (.ref 0), some (.int (iz 4)), some (.int (iz 3)), some (.int (iz 0)), some (.int (iz 13)), some (.int (iz 3))]) (st' := [.int (iz 4), .int (iz 1)]) (h' := cmH z zl (uf f 22 od) fl tx) rfl ?_
  refine Rx.irem rfl ⟨by omega, by omega⟩ ⟨by omega, by omega⟩ (by omega) (by omega) ?_
  refine Rx.walk 4 (pc' := 19) (L' := [some (.ref 0), some (.int (iz 4)), some (.int (iz 3)), some (.int (iz 1)), some (.int (iz 13)), some (.int (iz 3))]) (st' := [.int (iz 1), .int (iz 13)]) (h' := cmH z zl (uf f 22 od) fl tx) rfl ?_
  refine Rx.callx (m' := m_X12_has) (as := [.int (iz 13), .int (iz 1)]) (rest := []) rfl (n_has_13_1 _ (cmH z zl (uf f 22 od) fl tx)   ) (fun v95 h96 q97 => ?_)
  obtain ⟨rfl, rfl⟩ := q97
  refine Rx.walk 0 (pc' := 22) (L' := [some (.ref 0), some (.int (iz 4)), some (.int (iz 3)), some (.int (iz 1)), some (.int (iz 13)), some (.int (iz 3))]) (st' := [.int (iz 0)]) (h' := cmH z zl (uf f 22 od) fl tx) rfl ?_
  refine Rx.ne1 rfl rfl ⟨by omega, by omega⟩ (fun b98 => by omega) (fun b98 => ?_)
  refine Rx.walk 4 (pc' := 32) (L' := [some (.ref 0), some (.int (iz 4)), some (.int (iz 3)), some (.int (iz 1)), some (.int (iz 13)), some (.int (iz 3))]) (st' := [.int (iz 3), .ref 22, .int (iz 1)]) (h' := cmH z zl (uf f 22 od) fl tx) rfl ?_
  refine Rx.ial (g := od) rfl rfl (by omega) (by omega) (by omega) ?_
  rw [show (od 3) = 1 from h3]
  refine Rx.eq2 rfl rfl ⟨by omega, by omega⟩ ⟨by omega, by omega⟩ (fun b99 => ?_) (fun b99 => by omega)
  refine Rx.walk 3 (pc' := 66) (L' := [some (.ref 0), some (.int (iz 4)), some (.int (iz 3)), some (.int (iz 1)), some (.int (iz 13)), some (.int (iz 3))]) (st' := [.int (iz 1), .int (iz 1), .int (iz 13)]) (h' := cmH z zl (uf f 22 od) fl tx) rfl ?_
  refine Rx.ishl (c := 2) rfl (by decide) ?_
  refine Rx.ior (c := 15) rfl (by decide) ?_
  refine Rx.walk 1 (pc' := 70) (L' := [some (.ref 0), some (.int (iz 4)), some (.int (iz 3)), some (.int (iz 1)), some (.int (iz 15)), some (.int (iz 3))]) (st' := []) (h' := cmH z zl (uf f 22 od) fl tx) rfl ?_
  refine Rx.iinc (b := 1) rfl rfl rfl ?_
  refine Rx.walk 0 (pc' := 73) (L' := [some (.ref 0), some (.int (iz 4)), some (.int (iz 3)), some (.int (iz 1)), some (.int (iz 15)), some (.int (iz 4))]) (st' := []) (h' := cmH z zl (uf f 22 od) fl tx) rfl ?_
  refine Rx.walk 3 (pc' := 13) (L' := [some (.ref 0), some (.int (iz 4)), some (.int (iz 3)), some (.int (iz 1)), some (.int (iz 15)), some (.int (iz 4))]) (st' := [.int (iz 4), .int (iz 4)]) (h' := cmH z zl (uf f 22 od) fl tx) rfl ?_
  refine Rx.ge2 rfl rfl ⟨by omega, by omega⟩ ⟨by omega, by omega⟩ (fun b100 => ?_) (fun b100 => by omega)
  refine Rx.walk 1 (pc' := 77) (L' := [some (.ref 0), some (.int (iz 4)), some (.int (iz 3)), some (.int (iz 1)), some (.int (iz 15)), some (.int (iz 4))]) (st' := [.int (iz 3)]) (h' := cmH z zl (uf f 22 od) fl tx) rfl ?_
  refine Rx.ret rfl ?_
  exact ⟨rfl, rfl⟩
set_option maxRecDepth 100000 in
set_option maxHeartbeats 4000000 in
theorem n_has_2_3 (d : Nat) (h0 : AmH)   : Rx (d) m_X12_has 0 (am_ent [.int (iz 2), .int (iz 3)] 2) [] (h0) (fun rv h => rv = some (.int (iz 0)) ∧ h0 = h) := ⟨_, _, ⟨100, rfl⟩, rfl, rfl⟩
set_option maxRecDepth 100000 in
set_option maxHeartbeats 4000000 in
theorem m_stepsOf4_6 (d : Nat) (z : Nat → Int) (zl : Nat → Int) (f : Nat → Int → Int) (fl : Nat → Int → Int) (tx : Nat)  (od : Int → Int) (h0 : od 0 = 1) (h1 : od 1 = 0) (h2 : od 2 = 2) (h3 : od 3 = 3) : Rx (d + 1) m_X12_stepsOf 0 (am_ent [.ref 0, .int (iz 4)] 6) [] (cmH z zl (uf f 22 od) fl tx) (fun rv h => rv = some (.int (iz 3)) ∧ h = cmH z zl (uf f 22 od) fl tx) := by
  refine Rx.walk 0 (pc' := 0) (L' := [some (.ref 0), some (.int (iz 4)), none, none, none, none]) (st' := []) (h' := cmH z zl (uf f 22 od) fl tx) rfl ?_
  refine Rx.walk 10 (pc' := 13) (L' := [some (.ref 0), some (.int (iz 4)), some (.int (iz 0)), some (.int (iz 0)), some (.int (iz 0)), some (.int (iz 0))]) (st' := [.int (iz 4), .int (iz 0)]) (h' := cmH z zl (uf f 22 od) fl tx) rfl ?_
  refine Rx.ge2 rfl rfl ⟨by omega, by omega⟩ ⟨by omega, by omega⟩ (fun b1 => by omega) (fun b1 => ?_)
  refine Rx.walk 2 (pc' := 19) (L' := [some (.ref 0), some (.int (iz 4)), some (.int (iz 0)), some (.int (iz 0)), some (.int (iz 0)), some (.int (iz 0))]) (st' := [.int (iz 0), .int (iz 0)]) (h' := cmH z zl (uf f 22 od) fl tx) rfl ?_
  refine Rx.callx (m' := m_X12_has) (as := [.int (iz 0), .int (iz 0)]) (rest := []) rfl (n_has_0_0 _ (cmH z zl (uf f 22 od) fl tx)   ) (fun v2 h3 q4 => ?_)
  obtain ⟨rfl, rfl⟩ := q4
  refine Rx.walk 0 (pc' := 22) (L' := [some (.ref 0), some (.int (iz 4)), some (.int (iz 0)), some (.int (iz 0)), some (.int (iz 0)), some (.int (iz 0))]) (st' := [.int (iz 0)]) (h' := cmH z zl (uf f 22 od) fl tx) rfl ?_
  refine Rx.ne1 rfl rfl ⟨by omega, by omega⟩ (fun b5 => by omega) (fun b5 => ?_)
  refine Rx.walk 4 (pc' := 32) (L' := [some (.ref 0), some (.int (iz 4)), some (.int (iz 0)), some (.int (iz 0)), some (.int (iz 0)), some (.int (iz 0))]) (st' := [.int (iz 0), .ref 22, .int (iz 0)]) (h' := cmH z zl (uf f 22 od) fl tx) rfl ?_
  refine Rx.ial (g := od) rfl rfl (by omega) (by omega) (by omega) ?_
  rw [show (od 0) = 1 from h0]
  refine Rx.eq2 rfl rfl ⟨by omega, by omega⟩ ⟨by omega, by omega⟩ (fun b6 => by omega) (fun b6 => ?_)
  refine Rx.walk 3 (pc' := 40) (L' := [some (.ref 0), some (.int (iz 4)), some (.int (iz 0)), some (.int (iz 0)), some (.int (iz 0)), some (.int (iz 0))]) (st' := [.int (iz 0), .int (iz 0), .int (iz 0)]) (h' := cmH z zl (uf f 22 od) fl tx) rfl ?_
  refine Rx.callx (m' := m_X12_has) (as := [.int (iz 0), .int (iz 0)]) (rest := [.int (iz 0)]) rfl (n_has_0_0 _ (cmH z zl (uf f 22 od) fl tx)   ) (fun v7 h8 q9 => ?_)
  obtain ⟨rfl, rfl⟩ := q9
  refine Rx.walk 0 (pc' := 43) (L' := [some (.ref 0), some (.int (iz 4)), some (.int (iz 0)), some (.int (iz 0)), some (.int (iz 0)), some (.int (iz 0))]) (st' := [.int (iz 0), .int (iz 0)]) (h' := cmH z zl (uf f 22 od) fl tx) rfl ?_
  refine Rx.eq1 rfl rfl ⟨by omega, by omega⟩ (fun b10 => ?_) (fun b10 => by omega)
  refine Rx.walk 1 (pc' := 51) (L' := [some (.ref 0), some (.int (iz 4)), some (.int (iz 0)), some (.int (iz 0)), some (.int (iz 0)), some (.int (iz 0))]) (st' := [.int (iz 1), .int (iz 0)]) (h' := cmH z zl (uf f 22 od) fl tx) rfl ?_
  refine Rx.iadd rfl ?_
  refine Rx.walk 0 (pc' := 52) (L' := [some (.ref 0), some (.int (iz 4)), some (.int (iz 0)), some (.int (iz 0)), some (.int (iz 0)), some (.int (iz 0))]) (st' := [.int (iz 1)]) (h' := cmH z zl (uf f 22 od) fl tx) rfl ?_
  refine Rx.walk 3 (pc' := 55) (L' := [some (.ref 0), some (.int (iz 4)), some (.int (iz 1)), some (.int (iz 0)), some (.int (iz 0)), some (.int (iz 0))]) (st' := [.int (iz 1), .int (iz 0)]) (h' := cmH z zl (uf f 22 od) fl tx) rfl ?_
  refine Rx.iadd rfl ?_
  refine Rx.walk 0 (pc' := 56) (L' := [some (.ref 0), some (.int (iz 4)), some (.int (iz 1)), some (.int (iz 0)), some (.int (iz 0)), some (.int (iz 0))]) (st' := [.int (iz 1)]) (h' := cmH z zl (uf f 22 od) fl tx) rfl ?_
  refine Rx.walk 1 (pc' := 57) (L' := [some (.ref 0), some (.int (iz 4)), some (.int (iz 1)), some (.int (iz 0)), some (.int (iz 0)), some (.int (iz 0))]) (st' := [.int (iz 4), .int (iz 1)]) (h' := cmH z zl (uf f 22 od) fl tx) rfl ?_
  refine Rx.irem rfl ⟨by omega, by omega⟩ ⟨by omega, by omega⟩ (by omega) (by omega) ?_
  refine Rx.walk 4 (pc' := 19) (L' := [some (.ref 0), some (.int (iz 4)), some (.int (iz 1)), some (.int (iz 1)), some (.int (iz 0)), some (.int (iz 0))]) (st' := [.int (iz 1), .int (iz 0)]) (h' := cmH z zl (uf f 22 od) fl tx) rfl ?_
  refine Rx.callx (m' := m_X12_has) (as := [.int (iz 0), .int (iz 1)]) (rest := []) rfl (n_has_0_1 _ (cmH z zl (uf f 22 od) fl tx)   ) (fun v11 h12 q13 => ?_)
  obtain ⟨rfl, rfl⟩ := q13
  refine Rx.walk 0 (pc' := 22) (L' := [some (.ref 0), some (.int (iz 4)), some (.int (iz 1)), some (.int (iz 1)), some (.int (iz 0)), some (.int (iz 0))]) (st' := [.int (iz 0)]) (h' := cmH z zl (uf f 22 od) fl tx) rfl ?_
  refine Rx.ne1 rfl rfl ⟨by omega, by omega⟩ (fun b14 => by omega) (fun b14 => ?_)
  refine Rx.walk 4 (pc' := 32) (L' := [some (.ref 0), some (.int (iz 4)), some (.int (iz 1)), some (.int (iz 1)), some (.int (iz 0)), some (.int (iz 0))]) (st' := [.int (iz 0), .ref 22, .int (iz 1)]) (h' := cmH z zl (uf f 22 od) fl tx) rfl ?_
  refine Rx.ial (g := od) rfl rfl (by omega) (by omega) (by omega) ?_
  rw [show (od 0) = 1 from h0]
  refine Rx.eq2 rfl rfl ⟨by omega, by omega⟩ ⟨by omega, by omega⟩ (fun b15 => ?_) (fun b15 => by omega)
  refine Rx.walk 3 (pc' := 66) (L' := [some (.ref 0), some (.int (iz 4)), some (.int (iz 1)), some (.int (iz 1)), some (.int (iz 0)), some (.int (iz 0))]) (st' := [.int (iz 1), .int (iz 1), .int (iz 0)]) (h' := cmH z zl (uf f 22 od) fl tx) rfl ?_
  refine Rx.ishl (c := 2) rfl (by decide) ?_
  refine Rx.ior (c := 2) rfl (by decide) ?_
  refine Rx.walk 1 (pc' := 70) (L' := [some (.ref 0), some (.int (iz 4)), some (.int (iz 1)), some (.int (iz 1)), some (.int (iz 2)), some (.int (iz 0))]) (st' := []) (h' := cmH z zl (uf f 22 od) fl tx) rfl ?_
  refine Rx.iinc (b := 1) rfl rfl rfl ?_
  refine Rx.walk 0 (pc' := 73) (L' := [some (.ref 0), some (.int (iz 4)), some (.int (iz 1)), some (.int (iz 1)), some (.int (iz 2)), some (.int (iz 1))]) (st' := []) (h' := cmH z zl (uf f 22 od) fl tx) rfl ?_
  refine Rx.walk 3 (pc' := 13) (L' := [some (.ref 0), some (.int (iz 4)), some (.int (iz 1)), some (.int (iz 1)), some (.int (iz 2)), some (.int (iz 1))]) (st' := [.int (iz 4), .int (iz 1)]) (h' := cmH z zl (uf f 22 od) fl tx) rfl ?_
  refine Rx.ge2 rfl rfl ⟨by omega, by omega⟩ ⟨by omega, by omega⟩ (fun b16 => by omega) (fun b16 => ?_)
  refine Rx.walk 2 (pc' := 19) (L' := [some (.ref 0), some (.int (iz 4)), some (.int (iz 1)), some (.int (iz 1)), some (.int (iz 2)), some (.int (iz 1))]) (st' := [.int (iz 1), .int (iz 2)]) (h' := cmH z zl (uf f 22 od) fl tx) rfl ?_
  refine Rx.callx (m' := m_X12_has) (as := [.int (iz 2), .int (iz 1)]) (rest := []) rfl (n_has_2_1 _ (cmH z zl (uf f 22 od) fl tx)   ) (fun v17 h18 q19 => ?_)
  obtain ⟨rfl, rfl⟩ := q19
  refine Rx.walk 0 (pc' := 22) (L' := [some (.ref 0), some (.int (iz 4)), some (.int (iz 1)), some (.int (iz 1)), some (.int (iz 2)), some (.int (iz 1))]) (st' := [.int (iz 1)]) (h' := cmH z zl (uf f 22 od) fl tx) rfl ?_
  refine Rx.ne1 rfl rfl ⟨by omega, by omega⟩ (fun b20 => ?_) (fun b20 => by omega)
  refine Rx.walk 3 (pc' := 40) (L' := [some (.ref 0), some (.int (iz 4)), some (.int (iz 1)), some (.int (iz 1)), some (.int (iz 2)), some (.int (iz 1))]) (st' := [.int (iz 1), .int (iz 2), .int (iz 1)]) (h' := cmH z zl (uf f 22 od) fl tx) rfl ?_
  refine Rx.callx (m' := m_X12_has) (as := [.int (iz 2), .int (iz 1)]) (rest := [.int (iz 1)]) rfl (n_has_2_1 _ (cmH z zl (uf f 22 od) fl tx)   ) (fun v21 h22 q23 => ?_)
  obtain ⟨rfl, rfl⟩ := q23
  refine Rx.walk 0 (pc' := 43) (L' := [some (.ref 0), some (.int (iz 4)), some (.int (iz 1)), some (.int (iz 1)), some (.int (iz 2)), some (.int (iz 1))]) (st' := [.int (iz 1), .int (iz 1)]) (h' := cmH z zl (uf f 22 od) fl tx) rfl ?_
  refine Rx.eq1 rfl rfl ⟨by omega, by omega⟩ (fun b24 => by omega) (fun b24 => ?_)
  refine Rx.walk 2 (pc' := 51) (L' := [some (.ref 0), some (.int (iz 4)), some (.int (iz 1)), some (.int (iz 1)), some (.int (iz 2)), some (.int (iz 1))]) (st' := [.int (iz 0), .int (iz 1)]) (h' := cmH z zl (uf f 22 od) fl tx) rfl ?_
  refine Rx.iadd rfl ?_
  refine Rx.walk 0 (pc' := 52) (L' := [some (.ref 0), some (.int (iz 4)), some (.int (iz 1)), some (.int (iz 1)), some (.int (iz 2)), some (.int (iz 1))]) (st' := [.int (iz 1)]) (h' := cmH z zl (uf f 22 od) fl tx) rfl ?_
  refine Rx.walk 3 (pc' := 55) (L' := [some (.ref 0), some (.int (iz 4)), some (.int (iz 1)), some (.int (iz 1)), some (.int (iz 2)), some (.int (iz 1))]) (st' := [.int (iz 1), .int (iz 1)]) (h' := cmH z zl (uf f 22 od) fl tx) rfl ?_
  refine Rx.iadd rfl ?_
  refine Rx.walk 0 (pc' := 56) (L' := [some (.ref 0), some (.int (iz 4)), some (.int (iz 1)), some (.int (iz 1)), some (.int (iz 2)), some (.int (iz 1))]) (st' := [.int (iz 2)]) (h' := cmH z zl (uf f 22 od) fl tx) rfl ?_
  refine Rx.walk 1 (pc' := 57) (L' := [some (.ref 0), some (.int (iz 4)), some (.int (iz 1)), some (.int (iz 1)), some (.int (iz 2)), some (.int (iz 1))]) (st' := [.int (iz 4), .int (iz 2)]) (h' := cmH z zl (uf f 22 od) fl tx) rfl ?_
  refine Rx.irem rfl ⟨by omega, by omega⟩ ⟨by omega, by omega⟩ (by omega) (by omega) ?_
  refine Rx.walk 4 (pc' := 19) (L' := [some (.ref 0), some (.int (iz 4)), some (.int (iz 1)), some (.int (iz 2)), some (.int (iz 2)), some (.int (iz 1))]) (st' := [.int (iz 2), .int (iz 2)]) (h' := cmH z zl (uf f 22 od) fl tx) rfl ?_
  refine Rx.callx (m' := m_X12_has) (as := [.int (iz 2), .int (iz 2)]) (rest := []) rfl (n_has_2_2 _ (cmH z zl (uf f 22 od) fl tx)   ) (fun v25 h26 q27 => ?_)
  obtain ⟨rfl, rfl⟩ := q27
  refine Rx.walk 0 (pc' := 22) (L' := [some (.ref 0), some (.int (iz 4)), some (.int (iz 1)), some (.int (iz 2)), some (.int (iz 2)), some (.int (iz 1))]) (st' := [.int (iz 0)]) (h' := cmH z zl (uf f 22 od) fl tx) rfl ?_
  refine Rx.ne1 rfl rfl ⟨by omega, by omega⟩ (fun b28 => by omega) (fun b28 => ?_)
  refine Rx.walk 4 (pc' := 32) (L' := [some (.ref 0), some (.int (iz 4)), some (.int (iz 1)), some (.int (iz 2)), some (.int (iz 2)), some (.int (iz 1))]) (st' := [.int (iz 1), .ref 22, .int (iz 2)]) (h' := cmH z zl (uf f 22 od) fl tx) rfl ?_
  refine Rx.ial (g := od) rfl rfl (by omega) (by omega) (by omega) ?_
  rw [show (od 1) = 0 from h1]
  refine Rx.eq2 rfl rfl ⟨by omega, by omega⟩ ⟨by omega, by omega⟩ (fun b29 => by omega) (fun b29 => ?_)
  refine Rx.walk 3 (pc' := 40) (L' := [some (.ref 0), some (.int (iz 4)), some (.int (iz 1)), some (.int (iz 2)), some (.int (iz 2)), some (.int (iz 1))]) (st' := [.int (iz 2), .int (iz 2), .int (iz 1)]) (h' := cmH z zl (uf f 22 od) fl tx) rfl ?_
  refine Rx.callx (m' := m_X12_has) (as := [.int (iz 2), .int (iz 2)]) (rest := [.int (iz 1)]) rfl (n_has_2_2 _ (cmH z zl (uf f 22 od) fl tx)   ) (fun v30 h31 q32 => ?_)
  obtain ⟨rfl, rfl⟩ := q32
  refine Rx.walk 0 (pc' := 43) (L' := [some (.ref 0), some (.int (iz 4)), some (.int (iz 1)), some (.int (iz 2)), some (.int (iz 2)), some (.int (iz 1))]) (st' := [.int (iz 0), .int (iz 1)]) (h' := cmH z zl (uf f 22 od) fl tx) rfl ?_
  refine Rx.eq1 rfl rfl ⟨by omega, by omega⟩ (fun b33 => ?_) (fun b33 => by omega)
  refine Rx.walk 1 (pc' := 51) (L' := [some (.ref 0), some (.int (iz 4)), some (.int (iz 1)), some (.int (iz 2)), some (.int (iz 2)), some (.int (iz 1))]) (st' := [.int (iz 1), .int (iz 1)]) (h' := cmH z zl (uf f 22 od) fl tx) rfl ?_
  refine Rx.iadd rfl ?_
  refine Rx.walk 0 (pc' := 52) (L' := [some (.ref 0), some (.int (iz 4)), some (.int (iz 1)), some (.int (iz 2)), some (.int (iz 2)), some (.int (iz 1))]) (st' := [.int (iz 2)]) (h' := cmH z zl (uf f 22 od) fl tx) rfl ?_
  refine Rx.walk 3 (pc' := 55) (L' := [some (.ref 0), some (.int (iz 4)), some (.int (iz 2)), some (.int (iz 2)), some (.int (iz 2)), some (.int (iz 1))]) (st' := [.int (iz 1), .int (iz 2)]) (h' := cmH z zl (uf f 22 od) fl tx) rfl ?_
  refine Rx.iadd rfl ?_
  refine Rx.walk 0 (pc' := 56) (L' := [some (.ref 0), some (.int (iz 4)), some (.int (iz 2)), some (.int (iz 2)), some (.int (iz 2)), some (.int (iz 1))]) (st' := [.int (iz 3)]) (h' := cmH z zl (uf f 22 od) fl tx) rfl ?_
  refine Rx.walk 1 (pc' := 57) (L' := [some (.ref 0), some (.int (iz 4)), some (.int (iz 2)), some (.int (iz 2)), some (.int (iz 2)), some (.int (iz 1))]) (st' := [.int (iz 4), .int (iz 3)]) (h' := cmH z zl (uf f 22 od) fl tx) rfl ?_
  refine Rx.irem rfl ⟨by omega, by omega⟩ ⟨by omega, by omega⟩ (by omega) (by omega) ?_
  refine Rx.walk 4 (pc' := 19) (L' := [some (.ref 0), some (.int (iz 4)), some (.int (iz 2)), some (.int (iz 3)), some (.int (iz 2)), some (.int (iz 1))]) (st' := [.int (iz 3), .int (iz 2)]) (h' := cmH z zl (uf f 22 od) fl tx) rfl ?_
  refine Rx.callx (m' := m_X12_has) (as := [.int (iz 2), .int (iz 3)]) (rest := []) rfl (n_has_2_3 _ (cmH z zl (uf f 22 od) fl tx)   ) (fun v34 h35 q36 => ?_)
  obtain ⟨rfl, rfl⟩ := q36
  refine Rx.walk 0 (pc' := 22) (L' := [some (.ref 0), some (.int (iz 4)), some (.int (iz 2)), some (.int (iz 3)), some (.int (iz 2)), some (.int (iz 1))]) (st' := [.int (iz 0)]) (h' := cmH z zl (uf f 22 od) fl tx) rfl ?_
  refine Rx.ne1 rfl rfl ⟨by omega, by omega⟩ (fun b37 => by omega) (fun b37 => ?_)
  refine Rx.walk 4 (pc' := 32) (L' := [some (.ref 0), some (.int (iz 4)), some (.int (iz 2)), some (.int (iz 3)), some (.int (iz 2)), some (.int (iz 1))]) (st' := [.int (iz 1), .ref 22, .int (iz 3)]) (h' := cmH z zl (uf f 22 od) fl tx) rfl ?_
  refine Rx.ial (g := od) rfl rfl (by omega) (by omega) (by omega) ?_
  rw [show (od 1) = 0 from h1]
  refine Rx.eq2 rfl rfl ⟨by omega, by omega⟩ ⟨by omega, by omega⟩ (fun b38 => by omega) (fun b38 => ?_)
  refine Rx.walk 3 (pc' := 40) (L' := [some (.ref 0), some (.int (iz 4)), some (.int (iz 2)), some (.int (iz 3)), some (.int (iz 2)), some (.int (iz 1))]) (st' := [.int (iz 3), .int (iz 2), .int (iz 2)]) (h' := cmH z zl (uf f 22 od) fl tx) rfl ?_
  refine Rx.callx (m' := m_X12_has) (as := [.int (iz 2), .int (iz 3)]) (rest := [.int (iz 2)]) rfl (n_has_2_3 _ (cmH z zl (uf f 22 od) fl tx)   ) (fun v39 h40 q41 => ?_)
  obtain ⟨rfl, rfl⟩ := q41
  refine Rx.walk 0 (pc' := 43) (L' := [some (.ref 0), some (.int (iz 4)), some (.int (iz 2)), some (.int (iz 3)), some (.int (iz 2)), some (.int (iz 1))]) (st' := [.int (iz 0), .int (iz 2)]) (h' := cmH z zl (uf f 22 od) fl tx) rfl ?_
  refine Rx.eq1 rfl rfl ⟨by omega, by omega⟩ (fun b42 => ?_) (fun b42 => by omega)
  refine Rx.walk 1 (pc' := 51) (L' := [some (.ref 0), some (.int (iz 4)), some (.int (iz 2)), some (.int (iz 3)), some (.int (iz 2)), some (.int (iz 1))]) (st' := [.int (iz 1), .int (iz 2)]) (h' := cmH z zl (uf f 22 od) fl tx) rfl ?_
  refine Rx.iadd rfl ?_
  refine Rx.walk 0 (pc' := 52) (L' := [some (.ref 0), some (.int (iz 4)), some (.int (iz 2)), some (.int (iz 3)), some (.int (iz 2)), some (.int (iz 1))]) (st' := [.int (iz 3)]) (h' := cmH z zl (uf f 22 od) fl tx) rfl ?_
  refine Rx.walk 3 (pc' := 55) (L' := [some (.ref 0), some (.int (iz 4)), some (.int (iz 3)), some (.int (iz 3)), some (.int (iz 2)), some (.int (iz 1))]) (st' := [.int (iz 1), .int (iz 3)]) (h' := cmH z zl (uf f 22 od) fl tx) rfl ?_
  refine Rx.iadd rfl ?_
  refine Rx.walk 0 (pc' := 56) (L' := [some (.ref 0), some (.int (iz 4)), some (.int (iz 3)), some (.int (iz 3)), some (.int (iz 2)), some (.int (iz 1))]) (st' := [.int (iz 4)]) (h' := cmH z zl (uf f 22 od) fl tx) rfl ?_
  refine Rx.walk 1 (pc' := 57) (L' := [some (.ref 0), some (.int (iz 4)), some (.int (iz 3)), some (.int (iz 3)), some (.int (iz 2)), some (.int (iz 1))]) (st' := [.int (iz 4), .int (iz 4)]) (h' := cmH z zl (uf f 22 od) fl tx) rfl ?_
  refine Rx.irem rfl ⟨by omega, by omega⟩ ⟨by omega, by omega⟩ (by omega) (by omega) ?_
  refine Rx.walk 4 (pc' := 19) (L' := [some (.ref 0), some (.int (iz 4)), some (.int (iz 3)), some (.int (iz 0)), some (.int (iz 2)), some (.int (iz 1))]) (st' := [.int (iz 0), .int (iz 2)]) (h' := cmH z zl (uf f 22 od) fl tx) rfl ?_
  refine Rx.callx (m' := m_X12_has) (as := [.int (iz 2), .int (iz 0)]) (rest := []) rfl (n_has_2_0 _ (cmH z zl (uf f 22 od) fl tx)   ) (fun v43 h44 q45 => ?_)
  obtain ⟨rfl, rfl⟩ := q45
  refine Rx.walk 0 (pc' := 22) (L' := [some (.ref 0), some (.int (iz 4)), some (.int (iz 3)), some (.int (iz 0)), some (.int (iz 2)), some (.int (iz 1))]) (st' := [.int (iz 0)]) (h' := cmH z zl (uf f 22 od) fl tx) rfl ?_
  refine Rx.ne1 rfl rfl ⟨by omega, by omega⟩ (fun b46 => by omega) (fun b46 => ?_)
  refine Rx.walk 4 (pc' := 32) (L' := [some (.ref 0), some (.int (iz 4)), some (.int (iz 3)), some (.int (iz 0)), some (.int (iz 2)), some (.int (iz 1))]) (st' := [.int (iz 1), .ref 22, .int (iz 0)]) (h' := cmH z zl (uf f 22 od) fl tx) rfl ?_
  refine Rx.ial (g := od) rfl rfl (by omega) (by omega) (by omega) ?_
  rw [show (od 1) = 0 from h1]
  refine Rx.eq2 rfl rfl ⟨by omega, by omega⟩ ⟨by omega, by omega⟩ (fun b47 => ?_) (fun b47 => by omega)
  refine Rx.walk 3 (pc' := 66) (L' := [some (.ref 0), some (.int (iz 4)), some (.int (iz 3)), some (.int (iz 0)), some (.int (iz 2)), some (.int (iz 1))]) (st' := [.int (iz 0), .int (iz 1), .int (iz 2)]) (h' := cmH z zl (uf f 22 od) fl tx) rfl ?_
  refine Rx.ishl (c := 1) rfl (by decide) ?_
  refine Rx.ior (c := 3) rfl (by decide) ?_
  refine Rx.walk 1 (pc' := 70) (L' := [some (.ref 0), some (.int (iz 4)), some (.int (iz 3)), some (.int (iz 0)), some (.int (iz 3)), some (.int (iz 1))]) (st' := []) (h' := cmH z zl (uf f 22 od) fl tx) rfl ?_
  refine Rx.iinc (b := 1) rfl rfl rfl ?_
  refine Rx.walk 0 (pc' := 73) (L' := [some (.ref 0), some (.int (iz 4)), some (.int (iz 3)), some (.int (iz 0)), some (.int (iz 3)), some (.int (iz 2))]) (st' := []) (h' := cmH z zl (uf f 22 od) fl tx) rfl ?_
  refine Rx.walk 3 (pc' := 13) (L' := [some (.ref 0), some (.int (iz 4)), some (.int (iz 3)), some (.int (iz 0)), some (.int (iz 3)), some (.int (iz 2))]) (st' := [.int (iz 4), .int (iz 2)]) (h' := cmH z zl (uf f 22 od) fl tx) rfl ?_
  refine Rx.ge2 rfl rfl ⟨by omega, by omega⟩ ⟨by omega, by omega⟩ (fun b48 => by omega) (fun b48 => ?_)
  refine Rx.walk 2 (pc' := 19) (L' := [some (.ref 0), some (.int (iz 4)), some (.int (iz 3)), some (.int (iz 0)), some (.int (iz 3)), some (.int (iz 2))]) (st' := [.int (iz 0), .int (iz 3)]) (h' := cmH z zl (uf f 22 od) fl tx) rfl ?_
  refine Rx.callx (m' := m_X12_has) (as := [.int (iz 3), .int (iz 0)]) (rest := []) rfl (n_has_3_0 _ (cmH z zl (uf f 22 od) fl tx)   ) (fun v49 h50 q51 => ?_)
  obtain ⟨rfl, rfl⟩ := q51
  refine Rx.walk 0 (pc' := 22) (L' := [some (.ref 0), some (.int (iz 4)), some (.int (iz 3)), some (.int (iz 0)), some (.int (iz 3)), some (.int (iz 2))]) (st' := [.int (iz 1)]) (h' := cmH z zl (uf f 22 od) fl tx) rfl ?_
  refine Rx.ne1 rfl rfl ⟨by omega, by omega⟩ (fun b52 => ?_) (fun b52 => by omega)
  refine Rx.walk 3 (pc' := 40) (L' := [some (.ref 0), some (.int (iz 4)), some (.int (iz 3)), some (.int (iz 0)), some (.int (iz 3)), some (.int (iz 2))]) (st' := [.int (iz 0), .int (iz 3), .int (iz 3)]) (h' := cmH z zl (uf f 22 od) fl tx) rfl ?_
  refine Rx.callx (m' := m_X12_has) (as := [.int (iz 3), .int (iz 0)]) (rest := [.int (iz 3)]) rfl (n_has_3_0 _ (cmH z zl (uf f 22 od) fl tx)   ) (fun v53 h54 q55 => ?_)
  obtain ⟨rfl, rfl⟩ := q55
  refine Rx.walk 0 (pc' := 43) (L' := [some (.ref 0), some (.int (iz 4)), some (.int (iz 3)), some (.int (iz 0)), some (.int (iz 3)), some (.int (iz 2))]) (st' := [.int (iz 1), .int (iz 3)]) (h' := cmH z zl (uf f 22 od) fl tx) rfl ?_
  refine Rx.eq1 rfl rfl ⟨by omega, by omega⟩ (fun b56 => by omega) (fun b56 => ?_)
  refine Rx.walk 2 (pc' := 51) (L' := [some (.ref 0), some (.int (iz 4)), some (.int (iz 3)), some (.int (iz 0)), some (.int (iz 3)), some (.int (iz 2))]) (st' := [.int (iz 0), .int (iz 3)]) (h' := cmH z zl (uf f 22 od) fl tx) rfl ?_
  refine Rx.iadd rfl ?_
  refine Rx.walk 0 (pc' := 52) (L' := [some (.ref 0), some (.int (iz 4)), some (.int (iz 3)), some (.int (iz 0)), some (.int (iz 3)), some (.int (iz 2))]) (st' := [.int (iz 3)]) (h' := cmH z zl (uf f 22 od) fl tx) rfl ?_
  refine Rx.walk 3 (pc' := 55) (L' := [some (.ref 0), some (.int (iz 4)), some (.int (iz 3)), some (.int (iz 0)), some (.int (iz 3)), some (.int (iz 2))]) (st' := [.int (iz 1), .int (iz 0)]) (h' := cmH z zl (uf f 22 od) fl tx) rfl ?_
  refine Rx.iadd rfl ?_
  refine Rx.walk 0 (pc' := 56) (L' := [some (.ref 0), some (.int (iz 4)), some (.int (iz 3)), some (.int (iz 0)), some (.int (iz 3)), some (.int (iz 2))]) (st' := [.int (iz 1)]) (h' := cmH z zl (uf f 22 od) fl tx) rfl ?_
  refine Rx.walk 1 (pc' := 57) (L' := [some (.ref 0), some (.int (iz 4)), some (.int (iz 3)), some (.int (iz 0)), some (.int (iz 3)), some (.int (iz 2))]) (st' := [.int (iz 4), .int (iz 1)]) (h' := cmH z zl (uf f 22 od) fl tx) rfl ?_
  refine Rx.irem rfl ⟨by omega, by omega⟩ ⟨by omega, by omega⟩ (by omega) (by omega) ?_
  refine Rx.walk 4 (pc' := 19) (L' := [some (.ref 0), some (.int (iz 4)), some (.int (iz 3)), some (.int (iz 1)), some (.int (iz 3)), some (.int (iz 2))]) (st' := [.int (iz 1), .int (iz 3)]) (h' := cmH z zl (uf f 22 od) fl tx) rfl ?_
  refine Rx.callx (m' := m_X12_has) (as := [.int (iz 3), .int (iz 1)]) (rest := []) rfl (n_has_3_1 _ (cmH z zl (uf f 22 od) fl tx)   ) (fun v57 h58 q59 => ?_)
  obtain ⟨rfl, rfl⟩ := q59
  refine Rx.walk 0 (pc' := 22) (L' := [some (.ref 0), some (.int (iz 4)), some (.int (iz 3)), some (.int (iz 1)), some (.int (iz 3)), some (.int (iz 2))]) (st' := [.int (iz 1)]) (h' := cmH z zl (uf f 22 od) fl tx) rfl ?_
  refine Rx.ne1 rfl rfl ⟨by omega, by omega⟩ (fun b60 => ?_) (fun b60 => by omega)
  refine Rx.walk 3 (pc' := 40) (L' := [some (.ref 0), some (.int (iz 4)), some (.int (iz 3)), some (.int (iz 1)), some (.int (iz 3)), some (.int (iz 2))]) (st' := [.int (iz 1), .int (iz 3), .int (iz 3)]) (h' := cmH z zl (uf f 22 od) fl tx) rfl ?_
  refine Rx.callx (m' := m_X12_has) (as := [.int (iz 3), .int (iz 1)]) (rest := [.int (iz 3)]) rfl (n_has_3_1 _ (cmH z zl (uf f 22 od) fl tx)   ) (fun v61 h62 q63 => ?_)
  obtain ⟨rfl, rfl⟩ := q63
  refine Rx.walk 0 (pc' := 43) (L' := [some (.ref 0), some (.int (iz 4)), some (.int (iz 3)), some (.int (iz 1)), some (.int (iz 3)), some (.int (iz 2))]) (st' := [.int (iz 1), .int (iz 3)]) (h' := cmH z zl (uf f 22 od) fl tx) rfl ?_
  refine Rx.eq1 rfl rfl ⟨by omega, by omega⟩ (fun b64 => by omega) (fun b64 => ?_)
  refine Rx.walk 2 (pc' := 51) (L' := [some (.ref 0), some (.int (iz 4)), some (.int (iz 3)), some (.int (iz 1)), some (.int (iz 3)), some (.int (iz 2))]) (st' := [.int (iz 0), .int (iz 3)]) (h' := cmH z zl (uf f 22 od) fl tx) rfl ?_
  refine Rx.iadd rfl ?_
  refine Rx.walk 0 (pc' := 52) (L' := [some (.ref 0), some (.int (iz 4)), some (.int (iz 3)), some (.int (iz 1)), some (.int (iz 3)), some (.int (iz 2))]) (st' := [.int (iz 3)]) (h' := cmH z zl (uf f 22 od) fl tx) rfl ?_
  refine Rx.walk 3 (pc' := 55) (L' := [some (.ref 0), some (.int (iz 4)), some (.int (iz 3)), some (.int (iz 1)), some (.int (iz 3)), some (.int (iz 2))]) (st' := [.int (iz 1), .int (iz 1)]) (h' := cmH z zl (uf f 22 od) fl tx) rfl ?_
  refine Rx.iadd rfl ?_
  refine Rx.walk 0 (pc' := 56) (L' := [some (.ref 0), some (.int (iz 4)), some (.int (iz 3)), some (.int (iz 1)), some (.int (iz 3)), some (.int (iz 2))]) (st' := [.int (iz 2)]) (h' := cmH z zl (uf f 22 od) fl tx) rfl ?_
  refine Rx.walk 1 (pc' := 57) (L' := [some (.ref 0), some (.int (iz 4)), some (.int (iz 3)), some (.int (iz 1)), some (.int (iz 3)), some (.int (iz 2))]) (st' := [.int (iz 4), .int (iz 2)]) (h' := cmH z zl (uf f 22 od) fl tx) rfl ?_
  refine Rx.irem rfl ⟨by omega, by omega⟩ ⟨by omega, by omega⟩ (by omega) (by omega) ?_
  refine Rx.walk 4 (pc' := 19) (L' := [some (.ref 0), some (.int (iz 4)), some (.int (iz 3)), some (.int (iz 2)), some (.int (iz 3)), some (.int (iz 2))]) (st' := [.int (iz 2), .int (iz 3)]) (h' := cmH z zl (uf f 22 od) fl tx) rfl ?_
  refine Rx.callx (m' := m_X12_has) (as := [.int (iz 3), .int (iz 2)]) (rest := []) rfl (n_has_3_2 _ (cmH z zl (uf f 22 od) fl tx)   ) (fun v65 h66 q67 => ?_)
  obtain ⟨rfl, rfl⟩ := q67
  refine Rx.walk 0 (pc' := 22) (L' := [some (.ref 0), some (.int (iz 4)), some (.int (iz 3)), some (.int (iz 2)), some (.int (iz 3)), some (.int (iz 2))]) (st' := [.int (iz 0)]) (h' := cmH z zl (uf f 22 od) fl tx) rfl ?_
  refine Rx.ne1 rfl rfl ⟨by omega, by omega⟩ (fun b68 => by omega) (fun b68 => ?_)
  refine Rx.walk 4 (pc' := 32) (L' := [some (.ref 0), some (.int (iz 4)), some (.int (iz 3)), some (.int (iz 2)), some (.int (iz 3)), some (.int (iz 2))]) (st' := [.int (iz 2), .ref 22, .int (iz 2)]) (h' := cmH z zl (uf f 22 od) fl tx) rfl ?_
  refine Rx.ial (g := od) rfl rfl (by omega) (by omega) (by omega) ?_
  rw [show (od 2) = 2 from h2]
  refine Rx.eq2 rfl rfl ⟨by omega, by omega⟩ ⟨by omega, by omega⟩ (fun b69 => ?_) (fun b69 => by omega)
  refine Rx.walk 3 (pc' := 66) (L' := [some (.ref 0), some (.int (iz 4)), some (.int (iz 3)), some (.int (iz 2)), some (.int (iz 3)), some (.int (iz 2))]) (st' := [.int (iz 2), .int (iz 1), .int (iz 3)]) (h' := cmH z zl (uf f 22 od) fl tx) rfl ?_
  refine Rx.ishl (c := 4) rfl (by decide) ?_
  refine Rx.ior (c := 7) rfl (by decide) ?_
  refine Rx.walk 1 (pc' := 70) (L' := [some (.ref 0), some (.int (iz 4)), some (.int (iz 3)), some (.int (iz 2)), some (.int (iz 7)), some (.int (iz 2))]) (st' := []) (h' := cmH z zl (uf f 22 od) fl tx) rfl ?_
  refine Rx.iinc (b := 1) rfl rfl rfl ?_
  refine Rx.walk 0 (pc' := 73) (L' := [some (.ref 0), some (.int (iz 4)), some (.int (iz 3)), some (.int (iz 2)), some (.int (iz 7)), some (.int (iz 3))]) (st' := []) (h' := cmH z zl (uf f 22 od) fl tx) rfl ?_
  refine Rx.walk 3 (pc' := 13) (L' := [some (.ref 0), some (.int (iz 4)), some (.int (iz 3)), some (.int (iz 2)), some (.int (iz 7)), some (.int (iz 3))]) (st' := [.int (iz 4), .int (iz 3)]) (h' := cmH z zl (uf f 22 od) fl tx) rfl ?_
  refine Rx.ge2 rfl rfl ⟨by omega, by omega⟩ ⟨by omega, by omega⟩ (fun b70 => by omega) (fun b70 => ?_)
  refine Rx.walk 2 (pc' := 19) (L' := [some (.ref 0), some (.int (iz 4)), some (.int (iz 3)), some (.int (iz 2)), some (.int (iz 7)), some (.int (iz 3))]) (st' := [.int (iz 2), .int (iz 7)]) (h' := cmH z zl (uf f 22 od) fl tx) rfl ?_
  refine Rx.callx (m' := m_X12_has) (as := [.int (iz 7), .int (iz 2)]) (rest := []) rfl (n_has_7_2 _ (cmH z zl (uf f 22 od) fl tx)   ) (fun v71 h72 q73 => ?_)
  obtain ⟨rfl, rfl⟩ := q73
  refine Rx.walk 0 (pc' := 22) (L' := [some (.ref 0), some (.int (iz 4)), some (.int (iz 3)), some (.int (iz 2)), some (.int (iz 7)), some (.int (iz 3))]) (st' := [.int (iz 1)]) (h' := cmH z zl (uf f 22 od) fl tx) rfl ?_
  refine Rx.ne1 rfl rfl ⟨by omega, by omega⟩ (fun b74 => ?_) (fun b74 => by omega)
  refine Rx.walk 3 (pc' := 40) (L' := [some (.ref 0), some (.int (iz 4)), some (.int (iz 3)), some (.int (iz 2)), some (.int (iz 7)), some (.int (iz 3))]) (st' := [.int (iz 2), .int (iz 7), .int (iz 3)]) (h' := cmH z zl (uf f 22 od) fl tx) rfl ?_
  refine Rx.callx (m' := m_X12_has) (as := [.int (iz 7), .int (iz 2)]) (rest := [.int (iz 3)]) rfl (n_has_7_2 _ (cmH z zl (uf f 22 od) fl tx)   ) (fun v75 h76 q77 => ?_)
  obtain ⟨rfl, rfl⟩ := q77
  refine Rx.walk 0 (pc' := 43) (L' := [some (.ref 0), some (.int (iz 4)), some (.int (iz 3)), some (.int (iz 2)), some (.int (iz 7)), some (.int (iz 3))]) (st' := [.int (iz 1), .int (iz 3)]) (h' := cmH z zl (uf f 22 od) fl tx) rfl ?_
  refine Rx.eq1 rfl rfl ⟨by omega, by omega⟩ (fun b78 => by omega) (fun b78 => ?_)
  refine Rx.walk 2 (pc' := 51) (L' := [some (.ref 0), some (.int (iz 4)), some (.int (iz 3)), some (.int (iz 2)), some (.int (iz 7)), some (.int (iz 3))]) (st' := [.int (iz 0), .int (iz 3)]) (h' := cmH z zl (uf f 22 od) fl tx) rfl ?_
  refine Rx.iadd rfl ?_
  refine Rx.walk 0 (pc' := 52) (L' := [some (.ref 0), some (.int (iz 4)), some (.int (iz 3)), some (.int (iz 2)), some (.int (iz 7)), some (.int (iz 3))]) (st' := [.int (iz 3)]) (h' := cmH z zl (uf f 22 od) fl tx) rfl ?_
  refine Rx.walk 3 (pc' := 55) (L' := [some (.ref 0), some (.int (iz 4)), some (.int (iz 3)), some (.int (iz 2)), some (.int (iz 7)), some (.int (iz 3))]) (st' := [.int (iz 1), .int (iz 2)]) (h' := cmH z zl (uf f 22 od) fl tx) rfl ?_
  refine Rx.iadd rfl ?_
  refine Rx.walk 0 (pc' := 56) (L' := [some (.ref 0), some (.int (iz 4)), some (.int (iz 3)), some (.int (iz 2)), some (.int (iz 7)), some (.int (iz 3))]) (st' := [.int (iz 3)]) (h' := cmH z zl (uf f 22 od) fl tx) rfl ?_
  refine Rx.walk 1 (pc' := 57) (L' := [some (.ref 0), some (.int (iz 4)), some (.int (iz 3)), some (.int (iz 2)), some (.int (iz 7)), some (.int (iz 3))]) (st' := [.int (iz 4), .int (iz 3)]) (h' := cmH z zl (uf f 22 od) fl tx) rfl ?_
  refine Rx.irem rfl ⟨by omega, by omega⟩ ⟨by omega, by omega⟩ (by omega) (by omega) ?_
  refine Rx.walk 4 (pc' := 19) (L' := [some (.ref 0), some (.int (iz 4)), some (.int (iz 3)), some (.int (iz 3)), some (.int (iz 7)), some (.int (iz 3))]) (st' := [.int (iz 3), .int (iz 7)]) (h' := cmH z zl (uf f 22 od) fl tx) rfl ?_
  refine Rx.callx (m' := m_X12_has) (as := [.int (iz 7), .int (iz 3)]) (rest := []) rfl (n_has_7_3 _ (cmH z zl (uf f 22 od) fl tx)   ) (fun v79 h80 q81 => ?_)
  obtain ⟨rfl, rfl⟩ := q81
  refine Rx.walk 0 (pc' := 22) (L' := [some (.ref 0), some (.int (iz 4)), some (.int (iz 3)), some (.int (iz 3)), some (.int (iz 7)), some (.int (iz 3))]) (st' := [.int (iz 0)]) (h' := cmH z zl (uf f 22 od) fl tx) rfl ?_
  refine Rx.ne1 rfl rfl ⟨by omega, by omega⟩ (fun b82 => by omega) (fun b82 => ?_)
  refine Rx.walk 4 (pc' := 32) (L' := [some (.ref 0), some (.int (iz 4)), some (.int (iz 3)), some (.int (iz 3)), some (.int (iz 7)), some (.int (iz 3))]) (st' := [.int (iz 3), .ref 22, .int (iz 3)]) (h' := cmH z zl (uf f 22 od) fl tx) rfl ?_
  refine Rx.ial (g := od) rfl rfl (by omega) (by omega) (by omega) ?_
  rw [show (od 3) = 3 from h3]
  refine Rx.eq2 rfl rfl ⟨by omega, by omega⟩ ⟨by omega, by omega⟩ (fun b83 => ?_) (fun b83 => by omega)
  refine Rx.walk 3 (pc' := 66) (L' := [some (.ref 0), some (.int (iz 4)), some (.int (iz 3)), some (.int (iz 3)), some (.int (iz 7)), some (.int (iz 3))]) (st' := [.int (iz 3), .int (iz 1), .int (iz 7)]) (h' := cmH z zl (uf f 22 od) fl tx) rfl ?_
  refine Rx.ishl (c := 8) rfl (by decide) ?_
  refine Rx.ior (c := 15) rfl (by decide) ?_
  refine Rx.walk 1 (pc' := 70) (L' := [some (.ref 0), some (.int (iz 4)), some (.int (iz 3)), some (.int (iz 3)), some (.int (iz 15)), some (.int (iz 3))]) (st' := []) (h' := cmH z zl (uf f 22 od) fl tx) rfl ?_
  refine Rx.iinc (b := 1) rfl rfl rfl ?_
  refine Rx.walk 0 (pc' := 73) (L' := [some (.ref 0), some (.int (iz 4)), some (.int (iz 3)), some (.int (iz 3)), some (.int (iz 15)), some (.int (iz 4))]) (st' := []) (h' := cmH z zl (uf f 22 od) fl tx) rfl ?_
  refine Rx.walk 3 (pc' := 13) (L' := [some (.ref 0), some (.int (iz 4)), some (.int (iz 3)), some (.int (iz 3)), some (.int (iz 15)), some (.int (iz 4))]) (st' := [.int (iz 4), .int (iz 4)]) (h' := cmH z zl (uf f 22 od) fl tx) rfl ?_
  refine Rx.ge2 rfl rfl ⟨by omega, by omega⟩ ⟨by omega, by omega⟩ (fun b84 => ?_) (fun b84 => by omega)
  refine Rx.walk 1 (pc' := 77) (L' := [some (.ref 0), some (.int (iz 4)), some (.int (iz 3)), some (.int (iz 3)), some (.int (iz 15)), some (.int (iz 4))]) (st' := [.int (iz 3)]) (h' := cmH z zl (uf f 22 od) fl tx) rfl ?_
  refine Rx.ret rfl ?_
  exact ⟨rfl, rfl⟩
set_option maxRecDepth 100000 in
set_option maxHeartbeats 4000000 in
theorem m_stepsOf4_7 (d : Nat) (z : Nat → Int) (zl : Nat → Int) (f : Nat → Int → Int) (fl : Nat → Int → Int) (tx : Nat)  (od : Int → Int) (h0 : od 0 = 1) (h1 : od 1 = 0) (h2 : od 2 = 3) (h3 : od 3 = 2) : Rx (d + 1) m_X12_stepsOf 0 (am_ent [.ref 0, .int (iz 4)] 6) [] (cmH z zl (uf f 22 od) fl tx) (fun rv h => rv = some (.int (iz 4)) ∧ h = cmH z zl (uf f 22 od) fl tx) := by
  refine Rx.walk 0 (pc' := 0) (L' := [some (.ref 0), some (.int (iz 4)), none, none, none, none]) (st' := []) (h' := cmH z zl (uf f 22 od) fl tx) rfl ?_
  refine Rx.walk 10 (pc' := 13) (L' := [some (.ref 0), some (.int (iz 4)), some (.int (iz 0)), some (.int (iz 0)), some (.int (iz 0)), some (.int (iz 0))]) (st' := [.int (iz 4), .int (iz 0)]) (h' := cmH z zl (uf f 22 od) fl tx) rfl ?_
  refine Rx.ge2 rfl rfl ⟨by omega, by omega⟩ ⟨by omega, by omega⟩ (fun b1 => by omega) (fun b1 => ?_)
  refine Rx.walk 2 (pc' := 19) (L' := [some (.ref 0), some (.int (iz 4)), some (.int (iz 0)), some (.int (iz 0)), some (.int (iz 0)), some (.int (iz 0))]) (st' := [.int (iz 0), .int (iz 0)]) (h' := cmH z zl (uf f 22 od) fl tx) rfl ?_
  refine Rx.callx (m' := m_X12_has) (as := [.int (iz 0), .int (iz 0)]) (rest := []) rfl (n_has_0_0 _ (cmH z zl (uf f 22 od) fl tx)   ) (fun v2 h3 q4 => ?_)
  obtain ⟨rfl, rfl⟩ := q4
  refine Rx.walk 0 (pc' := 22) (L' := [some (.ref 0), some (.int (iz 4)), some (.int (iz 0)), some (.int (iz 0)), some (.int (iz 0)), some (.int (iz 0))]) (st' := [.int (iz 0)]) (h' := cmH z zl (uf f 22 od) fl tx) rfl ?_
  refine Rx.ne1 rfl rfl ⟨by omega, by omega⟩ (fun b5 => by omega) (fun b5 => ?_)
  refine Rx.walk 4 (pc' := 32) (L' := [some (.ref 0), some (.int (iz 4)), some (.int (iz 0)), some (.int (iz 0)), some (.int (iz 0)), some (.int (iz 0))]) (st' := [.int (iz 0), .ref 22, .int (iz 0)]) (h' := cmH z zl (uf f 22 od) fl tx) rfl ?_
  refine Rx.ial (g := od) rfl rfl (by omega) (by omega) (by omega) ?_
  rw [show (od 0) = 1 from h0]
  refine Rx.eq2 rfl rfl ⟨by omega, by omega⟩ ⟨by omega, by omega⟩ (fun b6 => by omega) (fun b6 => ?_)
  refine Rx.walk 3 (pc' := 40) (L' := [some (.ref 0), some (.int (iz 4)), some (.int (iz 0)), some (.int (iz 0)), some (.int (iz 0)), some (.int (iz 0))]) (st' := [.int (iz 0), .int (iz 0), .int (iz 0)]) (h' := cmH z zl (uf f 22 od) fl tx) rfl ?_
  refine Rx.callx (m' := m_X12_has) (as := [.int (iz 0), .int (iz 0)]) (rest := [.int (iz 0)]) rfl (n_has_0_0 _ (cmH z zl (uf f 22 od) fl tx)   ) (fun v7 h8 q9 => ?_)
  obtain ⟨rfl, rfl⟩ := q9
  refine Rx.walk 0 (pc' := 43) (L' := [some (.ref 0), some (.int (iz 4)), some (.int (iz 0)), some (.int (iz 0)), some (.int (iz 0)), some (.int (iz 0))]) (st' := [.int (iz 0), .int (iz 0)]) (h' := cmH z zl (uf f 22 od) fl tx) rfl ?_
  refine Rx.eq1 rfl rfl ⟨by omega, by omega⟩ (fun b10 => ?_) (fun b10 => by omega)
  refine Rx.walk 1 (pc' := 51) (L' := [some (.ref 0), some (.int (iz 4)), some (.int (iz 0)), some (.int (iz 0)), some (.int (iz 0)), some (.int (iz 0))]) (st' := [.int (iz 1), .int (iz 0)]) (h' := cmH z zl (uf f 22 od) fl tx) rfl ?_
  refine Rx.iadd rfl ?_
  refine Rx.walk 0 (pc' := 52) (L' := [some (.ref 0), some (.int (iz 4)), some (.int (iz 0)), some (.int (iz 0)), some (.int (iz 0)), some (.int (iz 0))]) (st' := [.int (iz 1)]) (h' := cmH z zl (uf f 22 od) fl tx) rfl ?_
  refine Rx.walk 3 (pc' := 55) (L' := [some (.ref 0), some (.int (iz 4)), some (.int (iz 1)), some (.int (iz 0)), some (.int (iz 0)), some (.int (iz 0))]) (st' := [.int (iz 1), .int (iz 0)]) (h' := cmH z zl (uf f 22 od) fl tx) rfl ?_
  refine Rx.iadd rfl ?_
  refine Rx.walk 0 (pc' := 56) (L' := [some (.ref 0), some (.int (iz 4)), some (.int (iz 1)), some (.int (iz 0)), some (.int (iz 0)), some (.int (iz 0))]) (st' := [.int (iz 1)]) (h' := cmH z zl (uf f 22 od) fl tx) rfl ?_
  refine Rx.walk 1 (pc' := 57) (L' := [some (.ref 0), some (.int (iz 4)), some (.int (iz 1)), some (.int (iz 0)), some (.int (iz 0)), some (.int (iz 0))]) (st' := [.int (iz 4), .int (iz 1)]) (h' := cmH z zl (uf f 22 od) fl tx) rfl ?_
  refine Rx.irem rfl ⟨by omega, by omega⟩ ⟨by omega, by omega⟩ (by omega) (by omega) ?_
  refine Rx.walk 4 (pc' := 19) (L' := [some (.ref 0), some (.int (iz 4)), some (.int (iz 1)), some (.int (iz 1)), some (.int (iz 0)), some (.int (iz 0))]) (st' := [.int (iz 1), .int (iz 0)]) (h' := cmH z zl (uf f 22 od) fl tx) rfl ?_
  refine Rx.callx (m' := m_X12_has) (as := [.int (iz 0), .int (iz 1)]) (rest := []) rfl (n_has_0_1 _ (cmH z zl (uf f 22 od) fl tx)   ) (fun v11 h12 q13 => ?_)
  obtain ⟨rfl, rfl⟩ := q13
  refine Rx.walk 0 (pc' := 22) (L' := [some (.ref 0), some (.int (iz 4)), some (.int (iz 1)), some (.int (iz 1)), some (.int (iz 0)), some (.int (iz 0))]) (st' := [.int (iz 0)]) (h' := cmH z zl (uf f 22 od) fl tx) rfl ?_
  refine Rx.ne1 rfl rfl ⟨by omega, by omega⟩ (fun b14 => by omega) (fun b14 => ?_)
  refine Rx.walk 4 (pc' := 32) (L' := [some (.ref 0), some (.int (iz 4)), some (.int (iz 1)), some (.int (iz 1)), some (.int (iz 0)), some (.int (iz 0))]) (st' := [.int (iz 0), .ref 22, .int (iz 1)]) (h' := cmH z zl (uf f 22 od) fl tx) rfl ?_
  refine Rx.ial (g := od) rfl rfl (by omega) (by omega) (by omega) ?_
  rw [show (od 0) = 1 from h0]
  refine Rx.eq2 rfl rfl ⟨by omega, by omega⟩ ⟨by omega, by omega⟩ (fun b15 => ?_) (fun b15 => by omega)
  refine Rx.walk 3 (pc' := 66) (L' := [some (.ref 0), some (.int (iz 4)), some (.int (iz 1)), some (.int (iz 1)), some (.int (iz 0)), some (.int (iz 0))]) (st' := [.int (iz 1), .int (iz 1), .int (iz 0)]) (h' := cmH z zl (uf f 22 od) fl tx) rfl ?_
  refine Rx.ishl (c := 2) rfl (by decide) ?_
  refine Rx.ior (c := 2) rfl (by decide) ?_
  refine Rx.walk 1 (pc' := 70) (L' := [some (.ref 0), some (.int (iz 4)), some (.int (iz 1)), some (.int (iz 1)), some (.int (iz 2)), some (.int (iz 0))]) (st' := []) (h' := cmH z zl (uf f 22 od) fl tx) rfl ?_
  refine Rx.iinc (b := 1) rfl rfl rfl ?_
  refine Rx.walk 0 (pc' := 73) (L' := [some (.ref 0), some (.int (iz 4)), some (.int (iz 1)), some (.int (iz 1)), some (.int (iz 2)), some (.int (iz 1))]) (st' := []) (h' := cmH z zl (uf f 22 od) fl tx) rfl ?_
  refine Rx.walk 3 (pc' := 13) (L' := [some (.ref 0), some (.int (iz 4)), some (.int (iz 1)), some (.int (iz 1)), some (.int (iz 2)), some (.int (iz 1))]) (st' := [.int (iz 4), .int (iz 1)]) (h' := cmH z zl (uf f 22 od) fl tx) rfl ?_
  refine Rx.ge2 rfl rfl ⟨by omega, by omega⟩ ⟨by omega, by omega⟩ (fun b16 => by omega) (fun b16 => ?_)
  refine Rx.walk 2 (pc' := 19) (L' := [some (.ref 0), some (.int (iz 4)), some (.int (iz 1)), some (.int (iz 1)), some (.int (iz 2)), some (.int (iz 1))]) (st' := [.int (iz 1), .int (iz 2)]) (h' := cmH z zl (uf f 22 od) fl tx) rfl ?_
  refine Rx.callx (m' := m_X12_has) (as := [.int (iz 2), .int (iz 1)]) (rest := []) rfl (n_has_2_1 _ (cmH z zl (uf f 22 od) fl tx)   ) (fun v17 h18 q19 => ?_)
  obtain ⟨rfl, rfl⟩ := q19
  refine Rx.walk 0 (pc' := 22) (L' := [some (.ref 0), some (.int (iz 4)), some (.int (iz 1)), some (.int (iz 1)), some (.int (iz 2)), some (.int (iz 1))]) (st' := [.int (iz 1)]) (h' := cmH z zl (uf f 22 od) fl tx) rfl ?_
  refine Rx.ne1 rfl rfl ⟨by omega, by omega⟩ (fun b20 => ?_) (fun b20 => by omega)
  refine Rx.walk 3 (pc' := 40) (L' := [some (.ref 0), some (.int (iz 4)), some (.int (iz 1)), some (.int (iz 1)), some (.int (iz 2)), some (.int (iz 1))]) (st' := [.int (iz 1), .int (iz 2), .int (iz 1)]) (h' := cmH z zl (uf f 22 od) fl tx) rfl ?_
  refine Rx.callx (m' := m_X12_has) (as := [.int (iz 2), .int (iz 1)]) (rest := [.int (iz 1)]) rfl (n_has_2_1 _ (cmH z zl (uf f 22 od) fl tx)   ) (fun v21 h22 q23 => ?_)
  obtain ⟨rfl, rfl⟩ := q23
  refine Rx.walk 0 (pc' := 43) (L' := [some (.ref 0), some (.int (iz 4)), some (.int (iz 1)), some (.int (iz 1)), some (.int (iz 2)), some (.int (iz 1))]) (st' := [.int (iz 1), .int (iz 1)]) (h' := cmH z zl (uf f 22 od) fl tx) rfl ?_
  refine Rx.eq1 rfl rfl ⟨by omega, by omega⟩ (fun b24 => by omega) (fun b24 => ?_)
  refine Rx.walk 2 (pc' := 51) (L' := [some (.ref 0), some (.int (iz 4)), some (.int (iz 1)), some (.int (iz 1)), some (.int (iz 2)), some (.int (iz 1))]) (st' := [.int (iz 0), .int (iz 1)]) (h' := cmH z zl (uf f 22 od) fl tx) rfl ?_
  refine Rx.iadd rfl ?_
  refine Rx.walk 0 (pc' := 52) (L' := [some (.ref 0), some (.int (iz 4)), some (.int (iz 1)), some (.int (iz 1)), some (.int (iz 2)), some (.int (iz 1))]) (st' := [.int (iz 1)]) (h' := cmH z zl (uf f 22 od) fl tx) rfl ?_
  refine Rx.walk 3 (pc' := 55) (L' := [some (.ref 0), some (.int (iz 4)), some (.int (iz 1)), some (.int (iz 1)), some (.int (iz 2)), some (.int (iz 1))]) (st' := [.int (iz 1), .int (iz 1)]) (h' := cmH z zl (uf f 22 od) fl tx) rfl ?_
  refine Rx.iadd rfl ?_
  refine Rx.walk 0 (pc' := 56) (L' := [some (.ref 0), some (.int (iz 4)), some (.int (iz 1)), some (.int (iz 1)), some (.int (iz 2)), some (.int (iz 1))]) (st' := [.int (iz 2)]) (h' := cmH z zl (uf f 22 od) fl tx) rfl ?_
  refine Rx.walk 1 (pc' := 57) (L' := [some (.ref 0), some (.int (iz 4)), some (.int (iz 1)), some (.int (iz 1)), some (.int (iz 2)), some (.int (iz 1))]) (st' := [.int (iz 4), .int (iz 2)]) (h' := cmH z zl (uf f 22 od) fl tx) rfl ?_
  refine Rx.irem rfl ⟨by omega, by omega⟩ ⟨by omega, by omega⟩ (by omega) (by omega) ?_
  refine Rx.walk 4 (pc' := 19) (L' := [some (.ref 0), some (.int (iz 4)), some (.int (iz 1)), some (.int (iz 2)), some (.int (iz 2)), some (.int (iz 1))]) (st' := [.int (iz 2), .int (iz 2)]) (h' := cmH z zl (uf f 22 od) fl tx) rfl ?_
  refine Rx.callx (m' := m_X12_has) (as := [.int (iz 2), .int (iz 2)]) (rest := []) rfl (n_has_2_2 _ (cmH z zl (uf f 22 od) fl tx)   ) (fun v25 h26 q27 => ?_)
  obtain ⟨rfl, rfl⟩ := q27
  refine Rx.walk 0 (pc' := 22) (L' := [some (.ref 0), some (.int (iz 4)), some (.int (iz 1)), some (.int (iz 2)), some (.int (iz 2)), some (.int (iz 1))]) (st' := [.int (iz 0)]) (h' := cmH z zl (uf f 22 od) fl tx) rfl ?_
  refine Rx.ne1 rfl rfl ⟨by omega, by omega⟩ (fun b28 => by omega) (fun b28 => ?_)
  refine Rx.walk 4 (pc' := 32) (L' := [some (.ref 0), some (.int (iz 4)), some (.int (iz 1)), some (.int (iz 2)), some (.int (iz 2)), some (.int (iz 1))]) (st' := [.int (iz 1), .ref 22, .int (iz 2)]) (h' := cmH z zl (uf f 22 od) fl tx) rfl ?_
  refine Rx.ial (g := od) rfl rfl (by omega) (by omega) (by omega) ?_
  rw [show (od 1) = 0 from h1]
  refine Rx.eq2 rfl rfl ⟨by omega, by omega⟩ ⟨by omega, by omega⟩ (fun b29 => by omega) (fun b29 => ?_)
  refine Rx.walk 3 (pc' := 40) (L' := [some (.ref 0), some (.int (iz 4)), some (.int (iz 1)), some (.int (iz 2)), some (.int (iz 2)), some (.int (iz 1))]) (st' := [.int (iz 2), .int (iz 2), .int (iz 1)]) (h' := cmH z zl (uf f 22 od) fl tx) rfl ?_
  refine Rx.callx (m' := m_X12_has) (as := [.int (iz 2), .int (iz 2)]) (rest := [.int (iz 1)]) rfl (n_has_2_2 _ (cmH z zl (uf f 22 od) fl tx)   ) (fun v30 h31 q32 => ?_)
  obtain ⟨rfl, rfl⟩ := q32
  refine Rx.walk 0 (pc' := 43) (L' := [some (.ref 0), some (.int (iz 4)), some (.int (iz 1)), some (.int (iz 2)), some (.int (iz 2)), some (.int (iz 1))]) (st' := [.int (iz 0), .int (iz 1)]) (h' := cmH z zl (uf f 22 od) fl tx) rfl ?_
  refine Rx.eq1 rfl rfl ⟨by omega, by omega⟩ (fun b33 => ?_) (fun b33 => by omega)
  refine Rx.walk 1 (pc' := 51) (L' := [some (.ref 0), some (.int (iz 4)), some (.int (iz 1)), some (.int (iz 2)), some (.int (iz 2)), some (.int (iz 1))]) (st' := [.int (iz 1), .int (iz 1)]) (h' := cmH z zl (uf f 22 od) fl tx) rfl ?_
  refine Rx.iadd rfl ?_
  refine Rx.walk 0 (pc' := 52) (L' := [some (.ref 0), some (.int (iz 4)), some (.int (iz 1)), some (.int (iz 2)), some (.int (iz 2)), some (.int (iz 1))]) (st' := [.int (iz 2)]) (h' := cmH z zl (uf f 22 od) fl tx) rfl ?_
  refine Rx.walk 3 (pc' := 55) (L' := [some (.ref 0), some (.int (iz 4)), some (.int (iz 2)), some (.int (iz 2)), some (.int (iz 2)), some (.int (iz 1))]) (st' := [.int (iz 1), .int (iz 2)]) (h' := cmH z zl (uf f 22 od) fl tx) rfl ?_
  refine Rx.iadd rfl ?_
  refine Rx.walk 0 (pc' := 56) (L' := [some (.ref 0), some (.int (iz 4)), some (.int (iz 2)), some (.int (iz 2)), some (.int (iz 2)), some (.int (iz 1))]) (st' := [.int (iz 3)]) (h' := cmH z zl (uf f 22 od) fl tx) rfl ?_
  refine Rx.walk 1 (pc' := 57) (L' := [some (.ref 0), some (.int (iz 4)), some (.int (iz 2)), some (.int (iz 2)), some (.int (iz 2)), some (.int (iz 1))]) (st' := [.int (iz 4), .int (iz 3)]) (h' := cmH z zl (uf f 22 od) fl tx) rfl ?_
  refine Rx.irem rfl ⟨by omega, by omega⟩ ⟨by omega, by omega⟩ (by omega) (by omega) ?_
  refine Rx.walk 4 (pc' := 19) (L' := [some (.ref 0), some (.int (iz 4)), some (.int (iz 2)), some (.int (iz 3)), some (.int (iz 2)), some (.int (iz 1))]) (st' := [.int (iz 3), .int (iz 2)]) (h' := cmH z zl (uf f 22 od) fl tx) rfl ?_
  refine Rx.callx (m' := m_X12_has) (as := [.int (iz 2), .int (iz 3)]) (rest := []) rfl (n_has_2_3 _ (cmH z zl (uf f 22 od) fl tx)   ) (fun v34 h35 q36 => ?_)
  obtain ⟨rfl, rfl⟩ := q36
  refine Rx.walk 0 (pc' := 22) (L' := [some (.ref 0), some (.int (iz 4)), some (.int (iz 2)), some (.int (iz 3)), some (.int (iz 2)), some (.int (iz 1))]) (st' := [.int (iz 0)]) (h' := cmH z zl (uf f 22 od) fl tx) rfl ?_
  refine Rx.ne1 rfl rfl ⟨by omega, by omega⟩ (fun b37 => by omega) (fun b37 => ?_)
  refine Rx.walk 4 (pc' := 32) (L' := [some (.ref 0), some (.int (iz 4)), some (.int (iz 2)), some (.int (iz 3)), some (.int (iz 2)), some (.int (iz 1))]) (st' := [.int (iz 1), .ref 22, .int (iz 3)]) (h' := cmH z zl (uf f 22 od) fl tx) rfl ?_
  refine Rx.ial (g := od) rfl rfl (by omega) (by omega) (by omega) ?_
  rw [show (od 1) = 0 from h1]
  refine Rx.eq2 rfl rfl ⟨by omega, by omega⟩ ⟨by omega, by omega⟩ (fun b38 => by omega) (fun b38 => ?_)
  refine Rx.walk 3 (pc' := 40) (L' := [some (.ref 0), some (.int (iz 4)), some (.int (iz 2)), some (.int (iz 3)), some (.int (iz 2)), some (.int (iz 1))]) (st' := [.int (iz 3), .int (iz 2), .int (iz 2)]) (h' := cmH z zl (uf f 22 od) fl tx) rfl ?_
  refine Rx.callx (m' := m_X12_has) (as := [.int (iz 2), .int (iz 3)]) (rest := [.int (iz 2)]) rfl (n_has_2_3 _ (cmH z zl (uf f 22 od) fl tx)   ) (fun v39 h40 q41 => ?_)
  obtain ⟨rfl, rfl⟩ := q41
  refine Rx.walk 0 (pc' := 43) (L' := [some (.ref 0), some (.int (iz 4)), some (.int (iz 2)), some (.int (iz 3)), some (.int (iz 2)), some (.int (iz 1))]) (st' := [.int (iz 0), .int (iz 2)]) (h' := cmH z zl (uf f 22 od) fl tx) rfl ?_
  refine Rx.eq1 rfl rfl ⟨by omega, by omega⟩ (fun b42 => ?_) (fun b42 => by omega)
  refine Rx.walk 1 (pc' := 51) (L' := [some (.ref 0), some (.int (iz 4)), some (.int (iz 2)), some (.int (iz 3)), some (.int (iz 2)), some (.int (iz 1))]) (st' := [.int (iz 1), .int (iz 2)]) (h' := cmH z zl (uf f 22 od) fl tx) rfl ?_
  refine Rx.iadd rfl ?_
  refine Rx.walk 0 (pc' := 52) (L' := [some (.ref 0), some (.int (iz 4)), some (.int (iz 2)), some (.int (iz 3)), some (.int (iz 2)), some (.int (iz 1))]) (st' := [.int (iz 3)]) (h' := cmH z zl (uf f 22 od) fl tx) rfl ?_
  refine Rx.walk 3 (pc' := 55) (L' := [some (.ref 0), some (.int (iz 4)), some (.int (iz 3)), some (.int (iz 3)), some (.int (iz 2)), some (.int (iz 1))]) (st' := [.int (iz 1), .int (iz 3)]) (h' := cmH z zl (uf f 22 od) fl tx) rfl ?_
  refine Rx.iadd rfl ?_
  refine Rx.walk 0 (pc' := 56) (L' := [some (.ref 0), some (.int (iz 4)), some (.int (iz 3)), some (.int (iz 3)), some (.int (iz 2)), some (.int (iz 1))]) (st' := [.int (iz 4)]) (h' := cmH z zl (uf f 22 od) fl tx) rfl ?_
  refine Rx.walk 1 (pc' := 57) (L' := [some (.ref 0), some (.int (iz 4)), some (.int (iz 3)), some (.int (iz 3)), some (.int (iz 2)), some (.int (iz 1))]) (st' := [.int (iz 4), .int (iz 4)]) (h' := cmH z zl (uf f 22 od) fl tx) rfl ?_
  refine Rx.irem rfl ⟨by omega, by omega⟩ ⟨by omega, by omega⟩ (by omega) (by omega) ?_
  refine Rx.walk 4 (pc' := 19) (L' := [some (.ref 0), some (.int (iz 4)), some (.int (iz 3)), some (.int (iz 0)), some (.int (iz 2)), some (.int (iz 1))]) (st' := [.int (iz 0), .int (iz 2)]) (h' := cmH z zl (uf f 22 od) fl tx) rfl ?_
  refine Rx.callx (m' := m_X12_has) (as := [.int (iz 2), .int (iz 0)]) (rest := []) rfl (n_has_2_0 _ (cmH z zl (uf f 22 od) fl tx)   ) (fun v43 h44 q45 => ?_)
  obtain ⟨rfl, rfl⟩ := q45
  refine Rx.walk 0 (pc' := 22) (L' := [some (.ref 0), some (.int (iz 4)), some (.int (iz 3)), some (.int (iz 0)), some (.int (iz 2)), some (.int (iz 1))]) (st' := [.int (iz 0)]) (h' := cmH z zl (uf f 22 od) fl tx) rfl ?_
  refine Rx.ne1 rfl rfl ⟨by omega, by omega⟩ (fun b46 => by omega) (fun b46 => ?_)
  refine Rx.walk 4 (pc' := 32) (L' := [some (.ref 0), some (.int (iz 4)), some (.int (iz 3)), some (.int (iz 0)), some (.int (iz 2)), some (.int (iz 1))]) (st' := [.int (iz 1), .ref 22, .int (iz 0)]) (h' := cmH z zl (uf f 22 od) fl tx) rfl ?_
  refine Rx.ial (g := od) rfl rfl (by omega) (by omega) (by omega) ?_
  rw [show (od 1) = 0 from h1]
  refine Rx.eq2 rfl rfl ⟨by omega, by omega⟩ ⟨by omega, by omega⟩ (fun b47 => ?_) (fun b47 => by omega)
  refine Rx.walk 3 (pc' := 66) (L' := [some (.ref 0), some (.int (iz 4)), some (.int (iz 3)), some (.int (iz 0)), some (.int (iz 2)), some (.int (iz 1))]) (st' := [.int (iz 0), .int (iz 1), .int (iz 2)]) (h' := cmH z zl (uf f 22 od) fl tx) rfl ?_
  refine Rx.ishl (c := 1) rfl (by decide) ?_
  refine Rx.ior (c := 3) rfl (by decide) ?_
  refine Rx.walk 1 (pc' := 70) (L' := [some (.ref 0), some (.int (iz 4)), some (.int (iz 3)), some (.int (iz 0)), some (.int (iz 3)), some (.int (iz 1))]) (st' := []) (h' := cmH z zl (uf f 22 od) fl tx) rfl ?_
  refine Rx.iinc (b := 1) rfl rfl rfl ?_
  refine Rx.walk 0 (pc' := 73) (L' := [some (.ref 0), some (.int (iz 4)), some (.int (iz 3)), some (.int (iz 0)), some (.int (iz 3)), some (.int (iz 2))]) (st' := []) (h' := cmH z zl (uf f 22 od) fl tx) rfl ?_
  refine Rx.walk 3 (pc' := 13) (L' := [some (.ref 0), some (.int (iz 4)), some (.int (iz 3)), some (.int (iz 0)), some (.int (iz 3)), some (.int (iz 2))]) (st' := [.int (iz 4), .int (iz 2)]) (h' := cmH z zl (uf f 22 od) fl tx) rfl ?_
  refine Rx.ge2 rfl rfl ⟨by omega, by omega⟩ ⟨by omega, by omega⟩ (fun b48 => by omega) (fun b48 => ?_)
  refine Rx.walk 2 (pc' := 19) (L' := [some (.ref 0), some (.int (iz 4)), some (.int (iz 3)), some (.int (iz 0)), some (.int (iz 3)), some (.int (iz 2))]) (st' := [.int (iz 0), .int (iz 3)]) (h' := cmH z zl (uf f 22 od) fl tx) rfl ?_
  refine Rx.callx (m' := m_X12_has) (as := [.int (iz 3), .int (iz 0)]) (rest := []) rfl (n_has_3_0 _ (cmH z zl (uf f 22 od) fl tx)   ) (fun v49 h50 q51 => ?_)
  obtain ⟨rfl, rfl⟩ := q51
  refine Rx.walk 0 (pc' := 22) (L' := [some (.ref 0), some (.int (iz 4)), some (.int (iz 3)), some (.int (iz 0)), some (.int (iz 3)), some (.int (iz 2))]) (st' := [.int (iz 1)]) (h' := cmH z zl (uf f 22 od) fl tx) rfl ?_
  refine Rx.ne1 rfl rfl ⟨by omega, by omega⟩ (fun b52 => ?_) (fun b52 => by omega)
  refine Rx.walk 3 (pc' := 40) (L' := [some (.ref 0), some (.int (iz 4)), some (.int (iz 3)), some (.int (iz 0)), some (.int (iz 3)), some (.int (iz 2))]) (st' := [.int (iz 0), .int (iz 3), .int (iz 3)]) (h' := cmH z zl (uf f 22 od) fl tx) rfl ?_
  refine Rx.callx (m' := m_X12_has) (as := [.int (iz 3), .int (iz 0)]) (rest := [.int (iz 3)]) rfl (n_has_3_0 _ (cmH z zl (uf f 22 od) fl tx)   ) (fun v53 h54 q55 => ?_)
  obtain ⟨rfl, rfl⟩ := q55
  refine Rx.walk 0 (pc' := 43) (L' := [some (.ref 0), some (.int (iz 4)), some (.int (iz 3)), some (.int (iz 0)), some (.int (iz 3)), some (.int (iz 2))]) (st' := [.int (iz 1), .int (iz 3)]) (h' := cmH z zl (uf f 22 od) fl tx) rfl ?_
  refine Rx.eq1 rfl rfl ⟨by omega, by omega⟩ (fun b56 => by omega) (fun b56 => ?_)
  refine Rx.walk 2 (pc' := 51) (L' := [some (.ref 0), some (.int (iz 4)), some (.int (iz 3)), some (.int (iz 0)), some (.int (iz 3)), some (.int (iz 2))]) (st' := [.int (iz 0), .int (iz 3)]) (h' := cmH z zl (uf f 22 od) fl tx) rfl ?_
  refine Rx.iadd rfl ?_
  refine Rx.walk 0 (pc' := 52) (L' := [some (.ref 0), some (.int (iz 4)), some (.int (iz 3)), some (.int (iz 0)), some (.int (iz 3)), some (.int (iz 2))]) (st' := [.int (iz 3)]) (h' := cmH z zl (uf f 22 od) fl tx) rfl ?_
  refine Rx.walk 3 (pc' := 55) (L' := [some (.ref 0), some (.int (iz 4)), some (.int (iz 3)), some (.int (iz 0)), some (.int (iz 3)), some (.int (iz 2))]) (st' := [.int (iz 1), .int (iz 0)]) (h' := cmH z zl (uf f 22 od) fl tx) rfl ?_
  refine Rx.iadd rfl ?_
  refine Rx.walk 0 (pc' := 56) (L' := [some (.ref 0), some (.int (iz 4)), some (.int (iz 3)), some (.int (iz 0)), some (.int (iz 3)), some (.int (iz 2))]) (st' := [.int (iz 1)]) (h' := cmH z zl (uf f 22 od) fl tx) rfl ?_
  refine Rx.walk 1 (pc' := 57) (L' := [some (.ref 0), some (.int (iz 4)), some (.int (iz 3)), some (.int (iz 0)), some (.int (iz 3)), some (.int (iz 2))]) (st' := [.int (iz 4), .int (iz 1)]) (h' := cmH z zl (uf f 22 od) fl tx) rfl ?_
  refine Rx.irem rfl ⟨by omega, by omega⟩ ⟨by omega, by omega⟩ (by omega) (by omega) ?_
  refine Rx.walk 4 (pc' := 19) (L' := [some (.ref 0), some (.int (iz 4)), some (.int (iz 3)), some (.int (iz 1)), some (.int (iz 3)), some (.int (iz 2))]) (st' := [.int (iz 1), .int (iz 3)]) (h' := cmH z zl (uf f 22 od) fl tx) rfl ?_
  refine Rx.callx (m' := m_X12_has) (as := [.int (iz 3), .int (iz 1)]) (rest := []) rfl (n_has_3_1 _ (cmH z zl (uf f 22 od) fl tx)   ) (fun v57 h58 q59 => ?_)
  obtain ⟨rfl, rfl⟩ := q59
  refine Rx.walk 0 (pc' := 22) (L' := [some (.ref 0), some (.int (iz 4)), some (.int (iz 3)), some (.int (iz 1)), some (.int (iz 3)), some (.int (iz 2))]) (st' := [.int (iz 1)]) (h' := cmH z zl (uf f 22 od) fl tx) rfl ?_
  refine Rx.ne1 rfl rfl ⟨by omega, by omega⟩ (fun b60 => ?_) (fun b60 => by omega)
  refine Rx.walk 3 (pc' := 40) (L' := [some (.ref 0), some (.int (iz 4)), some (.int (iz 3)), some (.int (iz 1)), some (.int (iz 3)), some (.int (iz 2))]) (st' := [.int (iz 1), .int (iz 3), .int (iz 3)]) (h' := cmH z zl (uf f 22 od) fl tx) rfl ?_
  refine Rx.callx (m' := m_X12_has) (as := [.int (iz 3), .int (iz 1)]) (rest := [.int (iz 3)]) rfl (n_has_3_1 _ (cmH z zl (uf f 22 od) fl tx)   ) (fun v61 h62 q63 => ?_)
  obtain ⟨rfl, rfl⟩ := q63
  refine Rx.walk 0 (pc' := 43) (L' := [some (.ref 0), some (.int (iz 4)), some (.int (iz 3)), some (.int (iz 1)), some (.int (iz 3)), some (.int (iz 2))]) (st' := [.int (iz 1), .int (iz 3)]) (h' := cmH z zl (uf f 22 od) fl tx) rfl ?_
  refine Rx.eq1 rfl rfl ⟨by omega, by omega⟩ (fun b64 => by omega) (fun b64 => ?_)
  refine Rx.walk 2 (pc' := 51) (L' := [some (.ref 0), some (.int (iz 4)), some (.int (iz 3)), some (.int (iz 1)), some (.int (iz 3)), some (.int (iz 2))]) (st' := [.int (iz 0), .int (iz 3)]) (h' := cmH z zl (uf f 22 od) fl tx) rfl ?_
  refine Rx.iadd rfl ?_
  refine Rx.walk 0 (pc' := 52) (L' := [some (.ref 0), some (.int (iz 4)), some (.int (iz 3)), some (.int (iz 1)), some (.int (iz 3)), some (.int (iz 2))]) (st' := [.int (iz 3)]) (h' := cmH z zl (uf f 22 od) fl tx) rfl ?_
  refine Rx.walk 3 (pc' := 55) (L' := [some (.ref 0), some (.int (iz 4)), some (.int (iz 3)), some (.int (iz 1)), some (.int (iz 3)), some (.int (iz 2))]) (st' := [.int (iz 1), .int (iz 1)]) (h' := cmH z zl (uf f 22 od) fl tx) rfl ?_
  refine Rx.iadd rfl ?_
  refine Rx.walk 0 (pc' := 56) (L' := [some (.ref 0), some (.int (iz 4)), some (.int (iz 3)), some (.int (iz 1)), some (.int (iz 3)), some (.int (iz 2))]) (st' := [.int (iz 2)]) (h' := cmH z zl (uf f 22 od) fl tx) rfl ?_
  refine Rx.walk 1 (pc' := 57) (L' := [some (.ref 0), some (.int (iz 4)), some (.int (iz 3)), some (.int (iz 1)), some (.int (iz 3)), some (.int (iz 2))]) (st' := [.int (iz 4), .int (iz 2)]) (h' := cmH z zl (uf f 22 od) fl tx) rfl ?_
  refine Rx.irem rfl ⟨by omega, by omega⟩ ⟨by omega, by omega⟩ (by omega) (by omega) ?_
  refine Rx.walk 4 (pc' := 19) (L' := [some (.ref 0), some (.int (iz 4)), some (.int (iz 3)), some (.int (iz 2)), some (.int (iz 3)), some (.int (iz 2))]) (st' := [.int (iz 2), .int (iz 3)]) (h' := cmH z zl (uf f 22 od) fl tx) rfl ?_
  refine Rx.callx (m' := m_X12_has) (as := [.int (iz 3), .int (iz 2)]) (rest := []) rfl (n_has_3_2 _ (cmH z zl (uf f 22 od) fl tx)   ) (fun v65 h66 q67 => ?_)
  obtain ⟨rfl, rfl⟩ := q67
  refine Rx.walk 0 (pc' := 22) (L' := [some (.ref 0), some (.int (iz 4)), some (.int (iz 3)), some (.int (iz 2)), some (.int (iz 3)), some (.int (iz 2))]) (st' := [.int (iz 0)]) (h' := cmH z zl (uf f 22 od) fl tx) rfl ?_
  refine Rx.ne1 rfl rfl ⟨by omega, by omega⟩ (fun b68 => by omega) (fun b68 => ?_)
  refine Rx.walk 4 (pc' := 32) (L' := [some (.ref 0), some (.int (iz 4)), some (.int (iz 3)), some (.int (iz 2)), some (.int (iz 3)), some (.int (iz 2))]) (st' := [.int (iz 2), .ref 22, .int (iz 2)]) (h' := cmH z zl (uf f 22 od) fl tx) rfl ?_
  refine Rx.ial (g := od) rfl rfl (by omega) (by omega) (by omega) ?_
  rw [show (od 2) = 3 from h2]
  refine Rx.eq2 rfl rfl ⟨by omega, by omega⟩ ⟨by omega, by omega⟩ (fun b69 => by omega) (fun b69 => ?_)
  refine Rx.walk 3 (pc' := 40) (L' := [some (.ref 0), some (.int (iz 4)), some (.int (iz 3)), some (.int (iz 2)), some (.int (iz 3)), some (.int (iz 2))]) (st' := [.int (iz 2), .int (iz 3), .int (iz 3)]) (h' := cmH z zl (uf f 22 od) fl tx) rfl ?_
  refine Rx.callx (m' := m_X12_has) (as := [.int (iz 3), .int (iz 2)]) (rest := [.int (iz 3)]) rfl (n_has_3_2 _ (cmH z zl (uf f 22 od) fl tx)   ) (fun v70 h71 q72 => ?_)
  obtain ⟨rfl, rfl⟩ := q72
  refine Rx.walk 0 (pc' := 43) (L' := [some (.ref 0), some (.int (iz 4)), some (.int (iz 3)), some (.int (iz 2)), some (.int (iz 3)), some (.int (iz 2))]) (st' := [.int (iz 0), .int (iz 3)]) (h' := cmH z zl (uf f 22 od) fl tx) rfl ?_
  refine Rx.eq1 rfl rfl ⟨by omega, by omega⟩ (fun b73 => ?_) (fun b73 => by omega)
  refine Rx.walk 1 (pc' := 51) (L' := [some (.ref 0), some (.int (iz 4)), some (.int (iz 3)), some (.int (iz 2)), some (.int (iz 3)), some (.int (iz 2))]) (st' := [.int (iz 1), .int (iz 3)]) (h' := cmH z zl (uf f 22 od) fl tx) rfl ?_
  refine Rx.iadd rfl ?_
  refine Rx.walk 0 (pc' := 52) (L' := [some (.ref 0), some (.int (iz 4)), some (.int (iz 3)), some (.int (iz 2)), some (.int (iz 3)), some (.int (iz 2))]) (st' := [.int (iz 4)]) (h' := cmH z zl (uf f 22 od) fl tx) rfl ?_
  refine Rx.walk 3 (pc' := 55) (L' := [some (.ref 0), some (.int (iz 4)), some (.int (iz 4)), some (.int (iz 2)), some (.int (iz 3)), some (.int (iz 2))]) (st' := [.int (iz 1), .int (iz 2)]) (h' := cmH z zl (uf f 22 od) fl tx) rfl ?_
  refine Rx.iadd rfl ?_
  refine Rx.walk 0 (pc' := 56) (L' := [some (.ref 0), some (.int (iz 4)), some (.int (iz 4)), some (.int (iz 2)), some (.int (iz 3)), some (.int (iz 2))]) (st' := [.int (iz 3)]) (h' := cmH z zl (uf f 22 od) fl tx) rfl ?_
  refine Rx.walk 1 (pc' := 57) (L' := [some (.ref 0), some (.int (iz 4)), some (.int (iz 4)), some (.int (iz 2)), some (.int (iz 3)), some (.int (iz 2))]) (st' := [.int (iz 4), .int (iz 3)]) (h' := cmH z zl (uf f 22 od) fl tx) rfl ?_
  refine Rx.irem rfl ⟨by omega, by omega⟩ ⟨by omega, by omega⟩ (by omega) (by omega) ?_
  refine Rx.walk 4 (pc' := 19) (L' := [some (.ref 0), some (.int (iz 4)), some (.int (iz 4)), some (.int (iz 3)), some (.int (iz 3)), some (.int (iz 2))]) (st' := [.int (iz 3), .int (iz 3)]) (h' := cmH z zl (uf f 22 od) fl tx) rfl ?_
  refine Rx.callx (m' := m_X12_has) (as := [.int (iz 3), .int (iz 3)]) (rest := []) rfl (n_has_3_3 _ (cmH z zl (uf f 22 od) fl tx)   ) (fun v74 h75 q76 => ?_)
  obtain ⟨rfl, rfl⟩ := q76
  refine Rx.walk 0 (pc' := 22) (L' := [some (.ref 0), some (.int (iz 4)), some (.int (iz 4)), some (.int (iz 3)), some (.int (iz 3)), some (.int (iz 2))]) (st' := [.int (iz 0)]) (h' := cmH z zl (uf f 22 od) fl tx) rfl ?_
  refine Rx.ne1 rfl rfl ⟨by omega, by omega⟩ (fun b77 => by omega) (fun b77 => ?_)
  refine Rx.walk 4 (pc' := 32) (L' := [some (.ref 0), some (.int (iz 4)), some (.int (iz 4)), some (.int (iz 3)), some (.int (iz 3)), some (.int (iz 2))]) (st' := [.int (iz 2), .ref 22, .int (iz 3)]) (h' := cmH z zl (uf f 22 od) fl tx) rfl ?_
  refine Rx.ial (g := od) rfl rfl (by omega) (by omega) (by omega) ?_
  rw [show (od 2) = 3 from h2]
  refine Rx.eq2 rfl rfl ⟨by omega, by omega⟩ ⟨by omega, by omega⟩ (fun b78 => ?_) (fun b78 => by omega)
  refine Rx.walk 3 (pc' := 66) (L' := [some (.ref 0), some (.int (iz 4)), some (.int (iz 4)), some (.int (iz 3)), some (.int (iz 3)), some (.int (iz 2))]) (st' := [.int (iz 3), .int (iz 1), .int (iz 3)]) (h' := cmH z zl (uf f 22 od) fl tx) rfl ?_
  refine Rx.ishl (c := 8) rfl (by decide) ?_
  refine Rx.ior (c := 11) rfl (by decide) ?_
  refine Rx.walk 1 (pc' := 70) (L' := [some (.ref 0), some (.int (iz 4)), some (.int (iz 4)), some (.int (iz 3)), some (.int (iz 11)), some (.int (iz 2))]) (st' := []) (h' := cmH z zl (uf f 22 od) fl tx) rfl ?_
  refine Rx.iinc (b := 1) rfl rfl rfl ?_
  refine Rx.walk 0 (pc' := 73) (L' := [some (.ref 0), some (.int (iz 4)), some (.int (iz 4)), some (.int (iz 3)), some (.int (iz 11)), some (.int (iz 3))]) (st' := []) (h' := cmH z zl (uf f 22 od) fl tx) rfl ?_
  refine Rx.walk 3 (pc' := 13) (L' := [some (.ref 0), some (.int (iz 4)), some (.int (iz 4)), some (.int (iz 3)), some (.int (iz 11)), some (.int (iz 3))]) (st' := [.int (iz 4), .int (iz 3)]) (h' := cmH z zl (uf f 22 od) fl tx) rfl ?_
  refine Rx.ge2 rfl rfl ⟨by omega, by omega⟩ ⟨by omega, by omega⟩ (fun b79 => by omega) (fun b79 => ?_)
  refine Rx.walk 2 (pc' := 19) (L' := [some (.ref 0), some (.int (iz 4)), some (.int (iz 4)), some (.int (iz 3)), some (.int (iz 11)), some (.int (iz 3))]) (st' := [.int (iz 3), .int (iz 11)]) (h' := cmH z zl (uf f 22 od) fl tx) rfl ?_
  refine Rx.callx (m' := m_X12_has) (as := [.int (iz 11), .int (iz 3)]) (rest := []) rfl (n_has_11_3 _ (cmH z zl (uf f 22 od) fl tx)   ) (fun v80 h81 q82 => ?_)
  obtain ⟨rfl, rfl⟩ := q82
  refine Rx.walk 0 (pc' := 22) (L' := [some (.ref 0), some (.int (iz 4)), some (.int (iz 4)), some (.int (iz 3)), some (.int (iz 11)), some (.int (iz 3))]) (st' := [.int (iz 1)]) (h' := cmH z zl (uf f 22 od) fl tx) rfl ?_
  refine Rx.ne1 rfl rfl ⟨by omega, by omega⟩ (fun b83 => ?_) (fun b83 => by omega)
  refine Rx.walk 3 (pc' := 40) (L' := [some (.ref 0), some (.int (iz 4)), some (.int (iz 4)), some (.int (iz 3)), some (.int (iz 11)), some (.int (iz 3))]) (st' := [.int (iz 3), .int (iz 11), .int (iz 4)]) (h' := cmH z zl (uf f 22 od) fl tx) rfl ?_
  refine Rx.callx (m' := m_X12_has) (as := [.int (iz 11), .int (iz 3)]) (rest := [.int (iz 4)]) rfl (n_has_11_3 _ (cmH z zl (uf f 22 od) fl tx)   ) (fun v84 h85 q86 => ?_)
  obtain ⟨rfl, rfl⟩ := q86
  refine Rx.walk 0 (pc' := 43) (L' := [some (.ref 0), some (.int (iz 4)), some (.int (iz 4)), some (.int (iz 3)), some (.int (iz 11)), some (.int (iz 3))]) (st' := [.int (iz 1), .int (iz 4)]) (h' := cmH z zl (uf f 22 od) fl tx) rfl ?_
  refine Rx.eq1 rfl rfl ⟨by omega, by omega⟩ (fun b87 => by omega) (fun b87 => ?_)
  refine Rx.walk 2 (pc' := 51) (L' := [some (.ref 0), some (.int (iz 4)), some (.int (iz 4)), some (.int (iz 3)), some (.int (iz 11)), some (.int (iz 3))]) (st' := [.int (iz 0), .int (iz 4)]) (h' := cmH z zl (uf f 22 od) fl tx) rfl ?_
  refine Rx.iadd rfl ?_
  refine Rx.walk 0 (pc' := 52) (L' := [some (.ref 0), some (.int (iz 4)), some (.int (iz 4)), some (.int (iz 3)), some (.int (iz 11)), some (.int (iz 3))]) (st' := [.int (iz 4)]) (h' := cmH z zl (uf f 22 od) fl tx) rfl ?_
  refine Rx.walk 3 (pc' := 55) (L' := [some (.ref 0), some (.int (iz 4)), some (.int (iz 4)), some (.int (iz 3)), some (.int (iz 11)), some (.int (iz 3))]) (st' := [.int (iz 1), .int (iz 3)]) (h' := cmH z zl (uf f 22 od) fl tx) rfl ?_
  refine Rx.iadd rfl ?_
  refine Rx.walk 0 (pc' := 56) (L' := [some (.ref 0), some (.int (iz 4)), some (.int (iz 4)), some (.int (iz 3)), some (.int (iz 11)), some (.int (iz 3))]) (st' := [.int (iz 4)]) (h' := cmH z zl (uf f 22 od) fl tx) rfl ?_
  refine Rx.walk 1 (pc' := 57) (L' := [some (.ref 0), some (.int (iz 4)), some (.int (iz 4)), some (.int (iz 3)), some (.int (iz 11)), some (.int (iz 3))]) (st' := [.int (iz 4), .int (iz 4)]) (h' := cmH z zl (uf f 22 od) fl tx) rfl ?_
  refine Rx.irem rfl ⟨by omega, by omega⟩ ⟨by omega, by omega⟩ (by omega) (by omega) ?_
  refine Rx.walk 4 (pc' := 19) (L' := [some (.ref 0), some (.int (iz 4)), some (.int (iz 4)), some (.int (iz 0)), some (.int (iz 11)), some (.int (iz 3))]) (st' := [.int (iz 0), .int (iz 11)]) (h' := cmH z zl (uf f 22 od) fl tx) rfl ?_
  refine Rx.callx (m' := m_X12_has) (as := [.int (iz 11), .int (iz 0)]) (rest := []) rfl (n_has_11_0 _ (cmH z zl (uf f 22 od) fl tx)   ) (fun v88 h89 q90 => ?_)
  obtain ⟨rfl, rfl⟩ := q90
  refine Rx.walk 0 (pc' := 22) (L' := [some (.ref 0), some (.int (iz 4)), some (.int (iz 4)), some (.int (iz 0)), some (.int (iz 11)), some (.int (iz 3))]) (st' := [.int (iz 1)]) (h' := cmH z zl (uf f 22 od) fl tx) rfl ?_
  refine Rx.ne1 rfl rfl ⟨by omega, by omega⟩ (fun b91 => ?_) (fun b91 => by omega)
  refine Rx.walk 3 (pc' := 40) (L' := [some (.ref 0), some (.int (iz 4)), some (.int (iz 4)), some (.int (iz 0)), some (.int (iz 11)), some (.int (iz 3))]) (st' := [.int (iz 0), .int (iz 11), .int (iz 4)]) (h' := cmH z zl (uf f 22 od) fl tx) rfl ?_
  refine Rx.callx (m' := m_X12_has) (as := [.int (iz 11), .int (iz 0)]) (rest := [.int (iz 4)]) rfl (n_has_11_0 _ (cmH z zl (uf f 22 od) fl tx)   ) (fun v92 h93 q94 => ?_)
  obtain ⟨rfl, rfl⟩ := q94
  refine Rx.walk 0 (pc' := 43) (L' := [some (.ref 0), some (.int (iz 4)), some (.int (iz 4)), some (.int (iz 0)), some (.int (iz 11)), some (.int (iz 3))]) (st' := [.int (iz 1), .int (iz 4)]) (h' := cmH z zl (uf f 22 od) fl tx) rfl ?_
  refine Rx.eq1 rfl rfl ⟨by omega, by omega⟩ (fun b95 => by omega) (fun b95 => ?_)
  refine Rx.walk 2 (pc' := 51) (L' := [some (.ref 0), some (.int (iz 4)), some (.int (iz 4)), some (.int (iz 0)), some (.int (iz 11)), some (.int (iz 3))]) (st' := [.int (iz 0), .int (iz 4)]) (h' := cmH z zl (uf f 22 od) fl tx) rfl ?_
  refine Rx.iadd rfl ?_
  refine Rx.walk 0 (pc' := 52) (L' := [some (.ref 0), some (.int (iz 4)), some (.int (iz 4)), some (.int (iz 0)), some (.int (iz 11)), some (.int (iz 3))]) (st' := [.int (iz 4)]) (h' := cmH z zl (uf f 22 od) fl tx) rfl ?_
  refine Rx.walk 3 (pc' := 55) (L' := [some (.ref 0), some (.int (iz 4)), some (.int (iz 4)), some (.int (iz 0)), some (.int (iz 11)), some (.int (iz 3))]) (st' := [.int (iz 1), .int (iz 0)]) (h' := cmH z zl (uf f 22 od) fl tx) rfl ?_
  refine Rx.iadd rfl ?_
  refine Rx.walk 0 (pc' := 56) (L' := [some (.ref 0), some (.int (iz 4)), some (.int (iz 4)), some (.int (iz 0)), some (.int (iz 11)), some (.int (iz 3))]) (st' := [.int (iz 1)]) (h' := cmH z zl (uf f 22 od) fl tx) rfl ?_
  refine Rx.walk 1 (pc' := 57) (L' := [some (.ref 0), some (.int (iz 4)), some (.int (iz 4)), some (.int (iz 0)), some (.int (iz 11)), some (.int (iz 3))]) (st' := [.int (iz 4), .int (iz 1)]) (h' := cmH z zl (uf f 22 od) fl tx) rfl ?_
  refine Rx.irem rfl ⟨by omega, by omega⟩ ⟨by omega, by omega⟩ (by omega) (by omega) ?_
  refine Rx.walk 4 (pc' := 19) (L' := [some (.ref 0), some (.int (iz 4)), some (.int (iz 4)), some (.int (iz 1)), some (.int (iz 11)), some (.int (iz 3))]) (st' := [.int (iz 1), .int (iz 11)]) (h' := cmH z zl (uf f 22 od) fl tx) rfl ?_
  refine Rx.callx (m' := m_X12_has) (as := [.int (iz 11), .int (iz 1)]) (rest := []) rfl (n_has_11_1 _ (cmH z zl (uf f 22 od) fl tx)   ) (fun v96 h97 q98 => ?_)
  obtain ⟨rfl, rfl⟩ := q98
  refine Rx.walk 0 (pc' := 22) (L' := [some (.ref 0), some (.int (iz 4)), some (.int (iz 4)), some (.int (iz 1)), some (.int (iz 11)), some (.int (iz 3))]) (st' := [.int (iz 1)]) (h' := cmH z zl (uf f 22 od) fl tx) rfl ?_
  refine Rx.ne1 rfl rfl ⟨by omega, by omega⟩ (fun b99 => ?_) (fun b99 => by omega)
  refine Rx.walk 3 (pc' := 40) (L' := [some (.ref 0), some (.int (iz 4)), some (.int (iz 4)), some (.int (iz 1)), some (.int (iz 11)), some (.int (iz 3))]) (st' := [.int (iz 1), .int (iz 11), .int (iz 4)]) (h' := cmH z zl (uf f 22 od) fl tx) rfl ?_
  refine Rx.callx (m' := m_X12_has) (as := [.int (iz 11), .int (iz 1)]) (rest := [.int (iz 4)]) rfl (n_has_11_1 _ (cmH z zl (uf f 22 od) fl tx)   ) (fun v100 h101 q102 => ?_)
  obtain ⟨rfl, rfl⟩ := q102
  refine Rx.walk 0 (pc' := 43) (L' := [some (.ref 0), some (.int (iz 4)), some (.int (iz 4)), some (.int (iz 1)), some (.int (iz 11)), some (.int (iz 3))]) (st' := [.int (iz 1), .int (iz 4)]) (h' := cmH z zl (uf f 22 od) fl tx) rfl ?_
  refine Rx.eq1 rfl rfl ⟨by omega, by omega⟩ (fun b103 => by omega) (fun b103 => ?_)
  refine Rx.walk 2 (pc' := 51) (L' := [some (.ref 0), some (.int (iz 4)), some (.int (iz 4)), some (.int (iz 1)), some (.int (iz 11)), some (.int (iz 3))]) (st' := [.int (iz 0), .int (iz 4)]) (h' := cmH z zl (uf f 22 od) fl tx) rfl ?_
  refine Rx.iadd rfl ?_
  refine Rx.walk 0 (pc' := 52) (L' := [some (.ref 0), some (.int (iz 4)), some (.int (iz 4)), some (.int (iz 1)), some (.int (iz 11)), some (.int (iz 3))]) (st' := [.int (iz 4)]) (h' := cmH z zl (uf f 22 od) fl tx) rfl ?_
  refine Rx.walk 3 (pc' := 55) (L' := [some (.ref 0), some (.int (iz 4)), some (.int (iz 4)), some (.int (iz 1)), some (.int (iz 11)), some (.int (iz 3))]) (st' := [.int (iz 1), .int (iz 1)]) (h' := cmH z zl (uf f 22 od) fl tx) rfl ?_
  refine Rx.iadd rfl ?_
  refine Rx.walk 0 (pc' := 56) (L' := [some (.ref 0), some (.int (iz 4)), some (.int (iz 4)), some (.int (iz 1)), some (.int (iz 11)), some (.int (iz 3))]) (st' := [.int (iz 2)]) (h' := cmH z zl (uf f 22 od) fl tx) rfl ?_
  refine Rx.walk 1 (pc' := 57) (L' := [some (.ref 0), some (.int (iz 4)), some (.int (iz 4)), some (.int (iz 1)), some (.int (iz 11)), some (.int (iz 3))]) (st' := [.int (iz 4), .int (iz 2)]) (h' := cmH z zl (uf f 22 od) fl tx) rfl ?_
  refine Rx.irem rfl ⟨by omega, by omega⟩ ⟨by omega, by omega⟩ (by omega) (by omega) ?_
  refine Rx.walk 4 (pc' := 19) (L' := [some (.ref 0), some (.int (iz 4)), some (.int (iz 4)), some (.int (iz 2)), some (.int (iz 11)), some (.int (iz 3))]) (st' := [.int (iz 2), .int (iz 11)]) (h' := cmH z zl (uf f 22 od) fl tx) rfl ?_
  refine Rx.callx (m' := m_X12_has) (as := [.int (iz 11), .int (iz 2)]) (rest := []) rfl (n_has_11_2 _ (cmH z zl (uf f 22 od) fl tx)   ) (fun v104 h105 q106 => ?_)
  obtain ⟨rfl, rfl⟩ := q106
  refine Rx.walk 0 (pc' := 22) (L' := [some (.ref 0), some (.int (iz 4)), some (.int (iz 4)), some (.int (iz 2)), some (.int (iz 11)), some (.int (iz 3))]) (st' := [.int (iz 0)]) (h' := cmH z zl (uf f 22 od) fl tx) rfl ?_
  refine Rx.ne1 rfl rfl ⟨by omega, by omega⟩ (fun b107 => by omega) (fun b107 => ?_)
  refine Rx.walk 4 (pc' := 32) (L' := [some (.ref 0), some (.int (iz 4)), some (.int (iz 4)), some (.int (iz 2)), some (.int (iz 11)), some (.int (iz 3))]) (st' := [.int (iz 3), .ref 22, .int (iz 2)]) (h' := cmH z zl (uf f 22 od) fl tx) rfl ?_
  refine Rx.ial (g := od) rfl rfl (by omega) (by omega) (by omega) ?_
  rw [show (od 3) = 2 from h3]
  refine Rx.eq2 rfl rfl ⟨by omega, by omega⟩ ⟨by omega, by omega⟩ (fun b108 => ?_) (fun b108 => by omega)
  refine Rx.walk 3 (pc' := 66) (L' := [some (.ref 0), some (.int (iz 4)), some (.int (iz 4)), some (.int (iz 2)), some (.int (iz 11)), some (.int (iz 3))]) (st' := [.int (iz 2), .int (iz 1), .int (iz 11)]) (h' := cmH z zl (uf f 22 od) fl tx) rfl ?_
  refine Rx.ishl (c := 4) rfl (by decide) ?_
  refine Rx.ior (c := 15) rfl (by decide) ?_
  refine Rx.walk 1 (pc' := 70) (L' := [some (.ref 0), some (.int (iz 4)), some (.int (iz 4)), some (.int (iz 2)), some (.int (iz 15)), some (.int (iz 3))]) (st' := []) (h' := cmH z zl (uf f 22 od) fl tx) rfl ?_
  refine Rx.iinc (b := 1) rfl rfl rfl ?_
  refine Rx.walk 0 (pc' := 73) (L' := [some (.ref 0), some (.int (iz 4)), some (.int (iz 4)), some (.int (iz 2)), some (.int (iz 15)), some (.int (iz 4))]) (st' := []) (h' := cmH z zl (uf f 22 od) fl tx) rfl ?_
  refine Rx.walk 3 (pc' := 13) (L' := [some (.ref 0), some (.int (iz 4)), some (.int (iz 4)), some (.int (iz 2)), some (.int (iz 15)), some (.int (iz 4))]) (st' := [.int (iz 4), .int (iz 4)]) (h' := cmH z zl (uf f 22 od) fl tx) rfl ?_
  refine Rx.ge2 rfl rfl ⟨by omega, by omega⟩ ⟨by omega, by omega⟩ (fun b109 => ?_) (fun b109 => by omega)
  refine Rx.walk 1 (pc' := 77) (L' := [some (.ref 0), some (.int (iz 4)), some (.int (iz 4)), some (.int (iz 2)), some (.int (iz 15)), some (.int (iz 4))]) (st' := [.int (iz 4)]) (h' := cmH z zl (uf f 22 od) fl tx) rfl ?_
  refine Rx.ret rfl ?_
  exact ⟨rfl, rfl⟩
set_option maxRecDepth 100000 in
set_option maxHeartbeats 4000000 in
theorem n_has_6_3 (d : Nat) (h0 : AmH)   : Rx (d) m_X12_has 0 (am_ent [.int (iz 6), .int (iz 3)] 2) [] (h0) (fun rv h => rv = some (.int (iz 0)) ∧ h0 = h) := ⟨_, _, ⟨100, rfl⟩, rfl, rfl⟩
set_option maxRecDepth 100000 in
set_option maxHeartbeats 4000000 in
theorem n_has_7_0 (d : Nat) (h0 : AmH)   : Rx (d) m_X12_has 0 (am_ent [.int (iz 7), .int (iz 0)] 2) [] (h0) (fun rv h => rv = some (.int (iz 1)) ∧ h0 = h) := ⟨_, _, ⟨100, rfl⟩, rfl, rfl⟩
set_option maxRecDepth 100000 in
set_option maxHeartbeats 4000000 in
theorem m_stepsOf4_8 (d : Nat) (z : Nat → Int) (zl : Nat → Int) (f : Nat → Int → Int) (fl : Nat → Int → Int) (tx : Nat)  (od : Int → Int) (h0 : od 0 = 1) (h1 : od 1 = 2) (h2 : od 2 = 0) (h3 : od 3 = 3) : Rx (d + 1) m_X12_stepsOf 0 (am_ent [.ref 0, .int (iz 4)] 6) [] (cmH z zl (uf f 22 od) fl tx) (fun rv h => rv = some (.int (iz 2)) ∧ h = cmH z zl (uf f 22 od) fl tx) := by
  refine Rx.walk 0 (pc' := 0) (L' := [some (.ref 0), some (.int (iz 4)), none, none, none, none]) (st' := []) (h' := cmH z zl (uf f 22 od) fl tx) rfl ?_
  refine Rx.walk 10 (pc' := 13) (L' := [some (.ref 0), some (.int (iz 4)), some (.int (iz 0)), some (.int (iz 0)), some (.int (iz 0)), some (.int (iz 0))]) (st' := [.int (iz 4), .int (iz 0)]) (h' := cmH z zl (uf f 22 od) fl tx) rfl ?_
  refine Rx.ge2 rfl rfl ⟨by omega, by omega⟩ ⟨by omega, by omega⟩ (fun b1 => by omega) (fun b1 => ?_)
  refine Rx.walk 2 (pc' := 19) (L' := [some (.ref 0), some (.int (iz 4)), some (.int (iz 0)), some (.int (iz 0)), some (.int (iz 0)), some (.int (iz 0))]) (st' := [.int (iz 0), .int (iz 0)]) (h' := cmH z zl (uf f 22 od) fl tx) rfl ?_
  refine Rx.callx (m' := m_X12_has) (as := [.int (iz 0), .int (iz 0)]) (rest := []) rfl (n_has_0_0 _ (cmH z zl (uf f 22 od) fl tx)   ) (fun v2 h3 q4 => ?_)
  obtain ⟨rfl, rfl⟩ := q4
  refine Rx.walk 0 (pc' := 22) (L' := [some (.ref 0), some (.int (iz 4)), some (.int (iz 0)), some (.int (iz 0)), some (.int (iz 0)), some (.int (iz 0))]) (st' := [.int (iz 0)]) (h' := cmH z zl (uf f 22 od) fl tx) rfl ?_
  refine Rx.ne1 rfl rfl ⟨by omega, by omega⟩ (fun b5 => by omega) (fun b5 => ?_)
  refine Rx.walk 4 (pc' := 32) (L' := [some (.ref 0), some (.int (iz 4)), some (.int (iz 0)), some (.int (iz 0)), some (.int (iz 0)), some (.int (iz 0))]) (st' := [.int (iz 0), .ref 22, .int (iz 0)]) (h' := cmH z zl (uf f 22 od) fl tx) rfl ?_
  refine Rx.ial (g := od) rfl rfl (by omega) (by omega) (by omega) ?_
  rw [show (od 0) = 1 from h0]
  refine Rx.eq2 rfl rfl ⟨by omega, by omega⟩ ⟨by omega, by omega⟩ (fun b6 => by omega) (fun b6 => ?_)
  refine Rx.walk 3 (pc' := 40) (L' := [some (.ref 0), some (.int (iz 4)), some (.int (iz 0)), some (.int (iz 0)), some (.int (iz 0)), some (.int (iz 0))]) (st' := [.int (iz 0), .int (iz 0), .int (iz 0)]) (h' := cmH z zl (uf f 22 od) fl tx) rfl ?_
  refine Rx.callx (m' := m_X12_has) (as := [.int (iz 0), .int (iz 0)]) (rest := [.int (iz 0)]) rfl (n_has_0_0 _ (cmH z zl (uf f 22 od) fl tx)   ) (fun v7 h8 q9 => ?_)
  obtain ⟨rfl, rfl⟩ := q9
  refine Rx.walk 0 (pc' := 43) (L' := [some (.ref 0), some (.int (iz 4)), some (.int (iz 0)), some (.int (iz 0)), some (.int (iz 0)), some (.int (iz 0))]) (st' := [.int (iz 0), .int (iz 0)]) (h' := cmH z zl (uf f 22 od) fl tx) rfl ?_
  refine Rx.eq1 rfl rfl ⟨by omega, by omega⟩ (fun b10 => ?_) (fun b10 => by omega)
  refine Rx.walk 1 (pc' := 51) (L' := [some (.ref 0), some (.int (iz 4)), some (.int (iz 0)), some (.int (iz 0)), some (.int (iz 0)), some (.int (iz 0))]) (st' := [.int (iz 1), .int (iz 0)]) (h' := cmH z zl (uf f 22 od) fl tx) rfl ?_
  refine Rx.iadd rfl ?_
  refine Rx.walk 0 (pc' := 52) (L' := [some (.ref 0), some (.int (iz 4)), some (.int (iz 0)), some (.int (iz 0)), some (.int (iz 0)), some (.int (iz 0))]) (st' := [.int (iz 1)]) (h' := cmH z zl (uf f 22 od) fl tx) rfl ?_
  refine Rx.walk 3 (pc' := 55) (L' := [some (.ref 0), some (.int (iz 4)), some (.int (iz 1)), some (.int (iz 0)), some (.int (iz 0)), some (.int (iz 0))]) (st' := [.int (iz 1), .int (iz 0)]) (h' := cmH z zl (uf f 22 od) fl tx) rfl ?_
  refine Rx.iadd rfl ?_
  refine Rx.walk 0 (pc' := 56) (L' := [some (.ref 0), some (.int (iz 4)), some (.int (iz 1)), some (.int (iz 0)), some (.int (iz 0)), some (.int (iz 0))]) (st' := [.int (iz 1)]) (h' := cmH z zl (uf f 22 od) fl tx) rfl ?_
  refine Rx.walk 1 (pc' := 57) (L' := [some (.ref 0), some (.int (iz 4)), some (.int (iz 1)), some (.int (iz 0)), some (.int (iz 0)), some (.int (iz 0))]) (st' := [.int (iz 4), .int (iz 1)]) (h' := cmH z zl (uf f 22 od) fl tx) rfl ?_
  refine Rx.irem rfl ⟨by omega, by omega⟩ ⟨by omega, by omega⟩ (by omega) (by omega) ?_
  refine Rx.walk 4 (pc' := 19) (L' := [some (.ref 0), some (.int (iz 4)), some (.int (iz 1)), some (.int (iz 1)), some (.int (iz 0)), some (.int (iz 0))]) (st' := [.int (iz 1), .int (iz 0)]) (h' := cmH z zl (uf f 22 od) fl tx) rfl ?_
  refine Rx.callx (m' := m_X12_has) (as := [.int (iz 0), .int (iz 1)]) (rest := []) rfl (n_has_0_1 _ (cmH z zl (uf f 22 od) fl tx)   ) (fun v11 h12 q13 => ?_)
  obtain ⟨rfl, rfl⟩ := q13
  refine Rx.walk 0 (pc' := 22) (L' := [some (.ref 0), some (.int (iz 4)), some (.int (iz 1)), some (.int (iz 1)), some (.int (iz 0)), some (.int (iz 0))]) (st' := [.int (iz 0)]) (h' := cmH z zl (uf f 22 od) fl tx) rfl ?_
  refine Rx.ne1 rfl rfl ⟨by omega, by omega⟩ (fun b14 => by omega) (fun b14 => ?_)
  refine Rx.walk 4 (pc' := 32) (L' := [some (.ref 0), some (.int (iz 4)), some (.int (iz 1)), some (.int (iz 1)), some (.int (iz 0)), some (.int (iz 0))]) (st' := [.int (iz 0), .ref 22, .int (iz 1)]) (h' := cmH z zl (uf f 22 od) fl tx) rfl ?_
  refine Rx.ial (g := od) rfl rfl (by omega) (by omega) (by omega) ?_
  rw [show (od 0) = 1 from h0]
  refine Rx.eq2 rfl rfl ⟨by omega, by omega⟩ ⟨by omega, by omega⟩ (fun b15 => ?_) (fun b15 => by omega)
  refine Rx.walk 3 (pc' := 66) (L' := [some (.ref 0), some (.int (iz 4)), some (.int (iz 1)), some (.int (iz 1)), some (.int (iz 0)), some (.int (iz 0))]) (st' := [.int (iz 1), .int (iz 1), .int (iz 0)]) (h' := cmH z zl (uf f 22 od) fl tx) rfl ?_
  refine Rx.ishl (c := 2) rfl (by decide) ?_
  refine Rx.ior (c := 2) rfl (by decide) ?_
  refine Rx.walk 1 (pc' := 70) (L' := [some (.ref 0), some (.int (iz 4)), some (.int (iz 1)), some (.int (iz 1)), some (.int (iz 2)), some (.int (iz 0))]) (st' := []) (h' := cmH z zl (uf f 22 od) fl tx) rfl ?_
  refine Rx.iinc (b := 1) rfl rfl rfl ?_
  refine Rx.walk 0 (pc' := 73) (L' := [some (.ref 0), some (.int (iz 4)), some (.int (iz 1)), some (.int (iz 1)), some (.int (iz 2)), some (.int (iz 1))]) (st' := []) (h' := cmH z zl (uf f 22 od) fl tx) rfl ?_
  refine Rx.walk 3 (pc' := 13) (L' := [some (.ref 0), some (.int (iz 4)), some (.int (iz 1)), some (.int (iz 1)), some (.int (iz 2)), some (.int (iz 1))]) (st' := [.int (iz 4), .int (iz 1)]) (h' := cmH z zl (uf f 22 od) fl tx) rfl ?_
  refine Rx.ge2 rfl rfl ⟨by omega, by omega⟩ ⟨by omega, by omega⟩ (fun b16 => by omega) (fun b16 => ?_)
  refine Rx.walk 2 (pc' := 19) (L' := [some (.ref 0), some (.int (iz 4)), some (.int (iz 1)), some (.int (iz 1)), some (.int (iz 2)), some (.int (iz 1))]) (st' := [.int (iz 1), .int (iz 2)]) (h' := cmH z zl (uf f 22 od) fl tx) rfl ?_
  refine Rx.callx (m' := m_X12_has) (as := [.int (iz 2), .int (iz 1)]) (rest := []) rfl (n_has_2_1 _ (cmH z zl (uf f 22 od) fl tx)   ) (fun v17 h18 q19 => ?_)
  obtain ⟨rfl, rfl⟩ := q19
  refine Rx.walk 0 (pc' := 22) (L' := [some (.ref 0), some (.int (iz 4)), some (.int (iz 1)), some (.int (iz 1)), some (.int (iz 2)), some (.int (iz 1))]) (st' := [.int (iz 1)]) (h' := cmH z zl (uf f 22 od) fl tx) rfl ?_
  refine Rx.ne1 rfl rfl ⟨by omega, by omega⟩ (fun b20 => ?_) (fun b20 => by omega)
  refine Rx.walk 3 (pc' := 40) (L' := [some (.ref 0), some (.int (iz 4)), some (.int (iz 1)), some (.int (iz 1)), some (.int (iz 2)), some (.int (iz 1))]) (st' := [.int (iz 1), .int (iz 2), .int (iz 1)]) (h' := cmH z zl (uf f 22 od) fl tx) rfl ?_
  refine Rx.callx (m' := m_X12_has) (as := [.int (iz 2), .int (iz 1)]) (rest := [.int (iz 1)]) rfl (n_has_2_1 _ (cmH z zl (uf f 22 od) fl tx)   ) (fun v21 h22 q23 => ?_)
  obtain ⟨rfl, rfl⟩ := q23
  refine Rx.walk 0 (pc' := 43) (L' := [some (.ref 0), some (.int (iz 4)), some (.int (iz 1)), some (.int (iz 1)), some (.int (iz 2)), some (.int (iz 1))]) (st' := [.int (iz 1), .int (iz 1)]) (h' := cmH z zl (uf f 22 od) fl tx) rfl ?_
  refine Rx.eq1 rfl rfl ⟨by omega, by omega⟩ (fun b24 => by omega) (fun b24 => ?_)
  refine Rx.walk 2 (pc' := 51) (L' := [some (.ref 0), some (.int (iz 4)), some (.int (iz 1)), some (.int (iz 1)), some (.int (iz 2)), some (.int (iz 1))]) (st' := [.int (iz 0), .int (iz 1)]) (h' := cmH z zl (uf f 22 od) fl tx) rfl ?_
  refine Rx.iadd rfl ?_
  refine Rx.walk 0 (pc' := 52) (L' := [some (.ref 0), some (.int (iz 4)), some (.int (iz 1)), some (.int (iz 1)), some (.int (iz 2)), some (.int (iz 1))]) (st' := [.int (iz 1)]) (h' := cmH z zl (uf f 22 od) fl tx) rfl ?_
  refine Rx.walk 3 (pc' := 55) (L' := [some (.ref 0), some (.int (iz 4)), some (.int (iz 1)), some (.int (iz 1)), some (.int (iz 2)), some (.int (iz 1))]) (st' := [.int (iz 1), .int (iz 1)]) (h' := cmH z zl (uf f 22 od) fl tx) rfl ?_
  refine Rx.iadd rfl ?_
  refine Rx.walk 0 (pc' := 56) (L' := [some (.ref 0), some (.int (iz 4)), some (.int (iz 1)), some (.int (iz 1)), some (.int (iz 2)), some (.int (iz 1))]) (st' := [.int (iz 2)]) (h' := cmH z zl (uf f 22 od) fl tx) rfl ?_
  refine Rx.walk 1 (pc' := 57) (L' := [some (.ref 0), some (.int (iz 4)), some (.int (iz 1)), some (.int (iz 1)), some (.int (iz 2)), some (.int (iz 1))]) (st' := [.int (iz 4), .int (iz 2)]) (h' := cmH z zl (uf f 22 od) fl tx) rfl ?_
  refine Rx.irem rfl ⟨by omega, by omega⟩ ⟨by omega, by omega⟩ (by omega) (by omega) ?_
  refine Rx.walk 4 (pc' := 19) (L' := [some (.ref 0), some (.int (iz 4)), some (.int (iz 1)), some (.int (iz 2)), some (.int (iz 2)), some (.int (iz 1))]) (st' := [.int (iz 2), .int (iz 2)]) (h' := cmH z zl (uf f 22 od) fl tx) rfl ?_
  refine Rx.callx (m' := m_X12_has) (as := [.int (iz 2), .int (iz 2)]) (rest := []) rfl (n_has_2_2 _ (cmH z zl (uf f 22 od) fl tx)   ) (fun v25 h26 q27 => ?_)
  obtain ⟨rfl, rfl⟩ := q27
  refine Rx.walk 0 (pc' := 22) (L' := [some (.ref 0), some (.int (iz 4)), some (.int (iz 1)), some (.int (iz 2)), some (.int (iz 2)), some (.int (iz 1))]) (st' := [.int (iz 0)]) (h' := cmH z zl (uf f 22 od) fl tx) rfl ?_
  refine Rx.ne1 rfl rfl ⟨by omega, by omega⟩ (fun b28 => by omega) (fun b28 => ?_)
  refine Rx.walk 4 (pc' := 32) (L' := [some (.ref 0), some (.int (iz 4)), some (.int (iz 1)), some (.int (iz 2)), some (.int (iz 2)), some (.int (iz 1))]) (st' := [.int (iz 1), .ref 22, .int (iz 2)]) (h' := cmH z zl (uf f 22 od) fl tx) rfl ?_
  refine Rx.ial (g := od) rfl rfl (by omega) (by omega) (by omega) ?_
  rw [show (od 1) = 2 from h1]
  refine Rx.eq2 rfl rfl ⟨by omega, by omega⟩ ⟨by omega, by omega⟩ (fun b29 => ?_) (fun b29 => by omega)
  refine Rx.walk 3 (pc' := 66) (L' := [some (.ref 0), some (.int (iz 4)), some (.int (iz 1)), some (.int (iz 2)), some (.int (iz 2)), some (.int (iz 1))]) (st' := [.int (iz 2), .int (iz 1), .int (iz 2)]) (h' := cmH z zl (uf f 22 od) fl tx) rfl ?_
  refine Rx.ishl (c := 4) rfl (by decide) ?_
  refine Rx.ior (c := 6) rfl (by decide) ?_
  refine Rx.walk 1 (pc' := 70) (L' := [some (.ref 0), some (.int (iz 4)), some (.int (iz 1)), some (.int (iz 2)), some (.int (iz 6)), some (.int (iz 1))]) (st' := []) (h' := cmH z zl (uf f 22 od) fl tx) rfl ?_
  refine Rx.iinc (b := 1) rfl rfl rfl ?_
  refine Rx.walk 0 (pc' := 73) (L' := [some (.ref 0), some (.int (iz 4)), some (.int (iz 1)), some (.int (iz 2)), some (.int (iz 6)), some (.int (iz 2))]) (st' := []) (h' := cmH z zl (uf f 22 od) fl tx) rfl ?_
  refine Rx.walk 3 (pc' := 13) (L' := [some (.ref 0), some (.int (iz 4)), some (.int (iz 1)), some (.int (iz 2)), some (.int (iz 6)), some (.int (iz 2))]) (st' := [.int (iz 4), .int (iz 2)]) (h' := cmH z zl (uf f 22 od) fl tx) rfl ?_
  refine Rx.ge2 rfl rfl ⟨by omega, by omega⟩ ⟨by omega, by omega⟩ (fun b30 => by omega) (fun b30 => ?_)
  refine Rx.walk 2 (pc' := 19) (L' := [some (.ref 0), some (.int (iz 4)), some (.int (iz 1)), some (.int (iz 2)), some (.int (iz 6)), some (.int (iz 2))]) (st' := [.int (iz 2), .int (iz 6)]) (h' := cmH z zl (uf f 22 od) fl tx) rfl ?_
  refine Rx.callx (m' := m_X12_has) (as := [.int (iz 6), .int (iz 2)]) (rest := []) rfl (n_has_6_2 _ (cmH z zl (uf f 22 od) fl tx)   ) (fun v31 h32 q33 => ?_)
  obtain ⟨rfl, rfl⟩ := q33
  refine Rx.walk 0 (pc' := 22) (L' := [some (.ref 0), some (.int (iz 4)), some (.int (iz 1)), some (.int (iz 2)), some (.int (iz 6)), some (.int (iz 2))]) (st' := [.int (iz 1)]) (h' := cmH z zl (uf f 22 od) fl tx) rfl ?_
  refine Rx.ne1 rfl rfl ⟨by omega, by omega⟩ (fun b34 => ?_) (fun b34 => by omega)
  refine Rx.walk 3 (pc' := 40) (L' := [some (.ref 0), some (.int (iz 4)), some (.int (iz 1)), some (.int (iz 2)), some (.int (iz 6)), some (.int (iz 2))]) (st' := [.int (iz 2), .int (iz 6), .int (iz 1)]) (h' := cmH z zl (uf f 22 od) fl tx) rfl ?_
  refine Rx.callx (m' := m_X12_has) (as := [.int (iz 6), .int (iz 2)]) (rest := [.int (iz 1)]) rfl (n_has_6_2 _ (cmH z zl (uf f 22 od) fl tx)   ) (fun v35 h36 q37 => ?_)
  obtain ⟨rfl, rfl⟩ := q37
  refine Rx.walk 0 (pc' := 43) (L' := [some (.ref 0), some (.int (iz 4)), some (.int (iz 1)), some (.int (iz 2)), some (.int (iz 6)), some (.int (iz 2))]) (st' := [.int (iz 1), .int (iz 1)]) (h' := cmH z zl (uf f 22 od) fl tx) rfl ?_
  refine Rx.eq1 rfl rfl ⟨by omega, by omega⟩ (fun b38 => by omega) (fun b38 => ?_)
  refine Rx.walk 2 (pc' := 51) (L' := [some (.ref 0), some (.int (iz 4)), some (.int (iz 1)), some (.int (iz 2)), some (.int (iz 6)), some (.int (iz 2))]) (st' := [.int (iz 0), .int (iz 1)]) (h' := cmH z zl (uf f 22 od) fl tx) rfl ?_
  refine Rx.iadd rfl ?_
  refine Rx.walk 0 (pc' := 52) (L' := [some (.ref 0), some (.int (iz 4)), some (.int (iz 1)), some (.int (iz 2)), some (.int (iz 6)), some (.int (iz 2))]) (st' := [.int (iz 1)]) (h' := cmH z zl (uf f 22 od) fl tx) rfl ?_
  refine Rx.walk 3 (pc' := 55) (L' := [some (.ref 0), some (.int (iz 4)), some (.int (iz 1)), some (.int (iz 2)), some (.int (iz 6)), some (.int (iz 2))]) (st' := [.int (iz 1), .int (iz 2)]) (h' := cmH z zl (uf f 22 od) fl tx) rfl ?_
  refine Rx.iadd rfl ?_
  refine Rx.walk 0 (pc' := 56) (L' := [some (.ref 0), some (.int (iz 4)), some (.int (iz 1)), some (.int (iz 2)), some (.int (iz 6)), some (.int (iz 2))]) (st' := [.int (iz 3)]) (h' := cmH z zl (uf f 22 od) fl tx) rfl ?_
  refine Rx.walk 1 (pc' := 57) (L' := [some (.ref 0), some (.int (iz 4)), some (.int (iz 1)), some (.int (iz 2)), some (.int (iz 6)), some (.int (iz 2))]) (st' := [.int (iz 4), .int (iz 3)]) (h' := cmH z zl (uf f 22 od) fl tx) rfl ?_
  refine Rx.irem rfl ⟨by omega, by omega⟩ ⟨by omega, by omega⟩ (by omega) (by omega) ?_
  refine Rx.walk 4 (pc' := 19) (L' := [some (.ref 0), some (.int (iz 4)), some (.int (iz 1)), some (.int (iz 3)), some (.int (iz 6)), some (.int (iz 2))]) (st' := [.int (iz 3), .int (iz 6)]) (h' := cmH z zl (uf f 22 od) fl tx) rfl ?_
  refine Rx.callx (m' := m_X12_has) (as := [.int (iz 6), .int (iz 3)]) (rest := []) rfl (n_has_6_3 _ (cmH z zl (uf f 22 od) fl tx)   ) (fun v39 h40 q41 => ?_)
  obtain ⟨rfl, rfl⟩ := q41
  refine Rx.walk 0 (pc' := 22) (L' := [some (.ref 0), some (.int (iz 4)), some (.int (iz 1)), some (.int (iz 3)), some (.int (iz 6)), some (.int (iz 2))]) (st' := [.int (iz 0)]) (h' := cmH z zl (uf f 22 od) fl tx) rfl ?_
  refine Rx.ne1 rfl rfl ⟨by omega, by omega⟩ (fun b42 => by omega) (fun b42 => ?_)
  refine Rx.walk 4 (pc' := 32) (L' := [some (.ref 0), some (.int (iz 4)), some (.int (iz 1)), some (.int (iz 3)), some (.int (iz 6)), some (.int (iz 2))]) (st' := [.int (iz 2), .ref 22, .int (iz 3)]) (h' := cmH z zl (uf f 22 od) fl tx) rfl ?_
  refine Rx.ial (g := od) rfl rfl (by omega) (by omega) (by omega) ?_
  rw [show (od 2) = 0 from h2]
  refine Rx.eq2 rfl rfl ⟨by omega, by omega⟩ ⟨by omega, by omega⟩ (fun b43 => by omega) (fun b43 => ?_)
  refine Rx.walk 3 (pc' := 40) (L' := [some (.ref 0), some (.int (iz 4)), some (.int (iz 1)), some (.int (iz 3)), some (.int (iz 6)), some (.int (iz 2))]) (st' := [.int (iz 3), .int (iz 6), .int (iz 1)]) (h' := cmH z zl (uf f 22 od) fl tx) rfl ?_
  refine Rx.callx (m' := m_X12_has) (as := [.int (iz 6), .int (iz 3)]) (rest := [.int (iz 1)]) rfl (n_has_6_3 _ (cmH z zl (uf f 22 od) fl tx)   ) (fun v44 h45 q46 => ?_)
  obtain ⟨rfl, rfl⟩ := q46
  refine Rx.walk 0 (pc' := 43) (L' := [some (.ref 0), some (.int (iz 4)), some (.int (iz 1)), some (.int (iz 3)), some (.int (iz 6)), some (.int (iz 2))]) (st' := [.int (iz 0), .int (iz 1)]) (h' := cmH z zl (uf f 22 od) fl tx) rfl ?_
  refine Rx.eq1 rfl rfl ⟨by omega, by omega⟩ (fun b47 => ?_) (fun b47 => by omega)
  refine Rx.walk 1 (pc' := 51) (L' := [some (.ref 0), some (.int (iz 4)), some (.int (iz 1)), some (.int (iz 3)), some (.int (iz 6)), some (.int (iz 2))]) (st' := [.int (iz 1), .int (iz 1)]) (h' := cmH z zl (uf f 22 od) fl tx) rfl ?_
  refine Rx.iadd rfl ?_
  refine Rx.walk 0 (pc' := 52) (L' := [some (.ref 0), some (.int (iz 4)), some (.int (iz 1)), some (.int (iz 3)), some (.int (iz 6)), some (.int (iz 2))]) (st' := [.int (iz 2)]) (h' := cmH z zl (uf f 22 od) fl tx) rfl ?_
  refine Rx.walk 3 (pc' := 55) (L' := [some (.ref 0), some (.int (iz 4)), some (.int (iz 2)), some (.int (iz 3)), some (.int (iz 6)), some (.int (iz 2))]) (st' := [.int (iz 1), .int (iz 3)]) (h' := cmH z zl (uf f 22 od) fl tx) rfl ?_
  refine Rx.iadd rfl ?_
  refine Rx.walk 0 (pc' := 56) (L' := [some (.ref 0), some (.int (iz 4)), some (.int (iz 2)), some (.int (iz 3)), some (.int (iz 6)), some (.int (iz 2))]) (st' := [.int (iz 4)]) (h' := cmH z zl (uf f 22 od) fl tx) rfl ?_
  refine Rx.walk 1 (pc' := 57) (L' := [some (.ref 0), some (.int (iz 4)), some (.int (iz 2)), some (.int (iz 3)), some (.int (iz 6)), some (.int (iz 2))]) (st' := [.int (iz 4), .int (iz 4)]) (h' := cmH z zl (uf f 22 od) fl tx) rfl ?_
  refine Rx.irem rfl ⟨by omega, by omega⟩ ⟨by omega, by omega⟩ (by omega) (by omega) ?_
  refine Rx.walk 4 (pc' := 19) (L' := [some (.ref 0), some (.int (iz 4)), some (.int (iz 2)), some (.int (iz 0)), some (.int (iz 6)), some (.int (iz 2))]) (st' := [.int (iz 0), .int (iz 6)]) (h' := cmH z zl (uf f 22 od) fl tx) rfl ?_
  refine Rx.callx (m' := m_X12_has) (as := [.int (iz 6), .int (iz 0)]) (rest := []) rfl (n_has_6_0 _ (cmH z zl (uf f 22 od) fl tx)   ) (fun v48 h49 q50 => ?_)
  obtain ⟨rfl, rfl⟩ := q50
  refine Rx.walk 0 (pc' := 22) (L' := [some (.ref 0), some (.int (iz 4)), some (.int (iz 2)), some (.int (iz 0)), some (.int (iz 6)), some (.int (iz 2))]) (st' := [.int (iz 0)]) (h' := cmH z zl (uf f 22 od) fl tx) rfl ?_
  refine Rx.ne1 rfl rfl ⟨by omega, by omega⟩ (fun b51 => by omega) (fun b51 => ?_)
  refine Rx.walk 4 (pc' := 32) (L' := [some (.ref 0), some (.int (iz 4)), some (.int (iz 2)), some (.int (iz 0)), some (.int (iz 6)), some (.int (iz 2))]) (st' := [.int (iz 2), .ref 22, .int (iz 0)]) (h' := cmH z zl (uf f 22 od) fl tx) rfl ?_
  refine Rx.ial (g := od) rfl rfl (by omega) (by omega) (by omega) ?_
  rw [show (od 2) = 0 from h2]
  refine Rx.eq2 rfl rfl ⟨by omega, by omega⟩ ⟨by omega, by omega⟩ (fun b52 => ?_) (fun b52 => by omega)
  refine Rx.walk 3 (pc' := 66) (L' := [some (.ref 0), some (.int (iz 4)), some (.int (iz 2)), some (.int (iz 0)), some (.int (iz 6)), some (.int (iz 2))]) (st' := [.int (iz 0), .int (iz 1), .int (iz 6)]) (h' := cmH z zl (uf f 22 od) fl tx) rfl ?_
  refine Rx.ishl (c := 1) rfl (by decide) ?_
  refine Rx.ior (c := 7) rfl (by decide) ?_
  refine Rx.walk 1 (pc' := 70) (L' := [some (.ref 0), some (.int (iz 4)), some (.int (iz 2)), some (.int (iz 0)), some (.int (iz 7)), some (.int (iz 2))]) (st' := []) (h' := cmH z zl (uf f 22 od) fl tx) rfl ?_
  refine Rx.iinc (b := 1) rfl rfl rfl ?_
  refine Rx.walk 0 (pc' := 73) (L' := [some (.ref 0), some (.int (iz 4)), some (.int (iz 2)), some (.int (iz 0)), some (.int (iz 7)), some (.int (iz 3))]) (st' := []) (h' := cmH z zl (uf f 22 od) fl tx) rfl ?_
  refine Rx.walk 3 (pc' := 13) (L' := [some (.ref 0), some (.int (iz 4)), some (.int (iz 2)), some (.int (iz 0)), some (.int (iz 7)), some (.int (iz 3))]) (st' := [.int (iz 4), .int (iz 3)]) (h' := cmH z zl (uf f 22 od) fl tx) rfl ?_
  refine Rx.ge2 rfl rfl ⟨by omega, by omega⟩ ⟨by omega, by omega⟩ (fun b53 => by omega) (fun b53 => ?_)
  refine Rx.walk 2 (pc' := 19) (L' := [some (.ref 0), some (.int (iz 4)), some (.int (iz 2)), some (.int (iz 0)), some (.int (iz 7)), some (.int (iz 3))]) (st' := [.int (iz 0), .int (iz 7)]) (h' := cmH z zl (uf f 22 od) fl tx) rfl ?_
  refine Rx.callx (m' := m_X12_has) (as := [.int (iz 7), .int (iz 0)]) (rest := []) rfl (n_has_7_0 _ (cmH z zl (uf f 22 od) fl tx)   ) (fun v54 h55 q56 => ?_)
  obtain ⟨rfl, rfl⟩ := q56
  refine Rx.walk 0 (pc' := 22) (L' := [some (.ref 0), some (.int (iz 4)), some (.int (iz 2)), some (.int (iz 0)), some (.int (iz 7)), some (.int (iz 3))]) (st' := [.int (iz 1)]) (h' := cmH z zl (uf f 22 od) fl tx) rfl ?_
  refine Rx.ne1 rfl rfl ⟨by omega, by omega⟩ (fun b57 => ?_) (fun b57 => by omega)
  refine Rx.walk 3 (pc' := 40) (L' := [some (.ref 0), some (.int (iz 4)), some (.int (iz 2)), some (.int (iz 0)), some (.int (iz 7)), some (.int (iz 3))]) (st' := [.int (iz 0), .int (iz 7), .int (iz 2)]) (h' := cmH z zl (uf f 22 od) fl tx) rfl ?_
  refine Rx.callx (m' := m_X12_has) (as := [.int (iz 7), .int (iz 0)]) (rest := [.int (iz 2)]) rfl (n_has_7_0 _ (cmH z zl (uf f 22 od) fl tx)   ) (fun v58 h59 q60 => ?_)
  obtain ⟨rfl, rfl⟩ := q60
  refine Rx.walk 0 (pc' := 43) (L' := [some (.ref 0), some (.int (iz 4)), some (.int (iz 2)), some (.int (iz 0)), some (.int (iz 7)), some (.int (iz 3))]) (st' := [.int (iz 1), .int (iz 2)]) (h' := cmH z zl (uf f 22 od) fl tx) rfl ?_
  refine Rx.eq1 rfl rfl ⟨by omega, by omega⟩ (fun b61 => by omega) (fun b61 => ?_)
  refine Rx.walk 2 (pc' := 51) (L' := [some (.ref 0), some (.int (iz 4)), some (.int (iz 2)), some (.int (iz 0)), some (.int (iz 7)), some (.int (iz 3))]) (st' := [.int (iz 0), .int (iz 2)]) (h' := cmH z zl (uf f 22 od) fl tx) rfl ?_
  refine Rx.iadd rfl ?_
  refine Rx.walk 0 (pc' := 52) (L' := [some (.ref 0), some (.int (iz 4)), some (.int (iz 2)), some (.int (iz 0)), some (.int (iz 7)), some (.int (iz 3))]) (st' := [.int (iz 2)]) (h' := cmH z zl (uf f 22 od) fl tx) rfl ?_
  refine Rx.walk 3 (pc' := 55) (L' := [some (.ref 0), some (.int (iz 4)), some (.int (iz 2)), some (.int (iz 0)), some (.int (iz 7)), some (.int (iz 3))]) (st' := [.int (iz 1), .int (iz 0)]) (h' := cmH z zl (uf f 22 od) fl tx) rfl ?_
  refine Rx.iadd rfl ?_
  refine Rx.walk 0 (pc' := 56) (L' := [some (.ref 0), some (.int (iz 4)), some (.int (iz 2)), some (.int (iz 0)), some (.int (iz 7)), some (.int (iz 3))]) (st' := [.int (iz 1)]) (h' := cmH z zl (uf f 22 od) fl tx) rfl ?_
  refine Rx.walk 1 (pc' := 57) (L' := [some (.ref 0), some (.int (iz 4)), some (.int (iz 2)), some (.int (iz 0)), some (.int (iz 7)), some (.int (iz 3))]) (st' := [.int (iz 4), .int (iz 1)]) (h' := cmH z zl (uf f 22 od) fl tx) rfl ?_
  refine Rx.irem rfl ⟨by omega, by omega⟩ ⟨by omega, by omega⟩ (by omega) (by omega) ?_
  refine Rx.walk 4 (pc' := 19) (L' := [some (.ref 0), some (.int (iz 4)), some (.int (iz 2)), some (.int (iz 1)), some (.int (iz 7)), some (.int (iz 3))]) (st' := [.int (iz 1), .int (iz 7)]) (h' := cmH z zl (uf f 22 od) fl tx) rfl ?_
  refine Rx.callx (m' := m_X12_has) (as := [.int (iz 7), .int (iz 1)]) (rest := []) rfl (n_has_7_1 _ (cmH z zl (uf f 22 od) fl tx)   ) (fun v62 h63 q64 => ?_)
  obtain ⟨rfl, rfl⟩ := q64
  refine Rx.walk 0 (pc' := 22) (L' := [some (.ref 0), some (.int (iz 4)), some (.int (iz 2)), some (.int (iz 1)), some (.int (iz 7)), some (.int (iz 3))]) (st' := [.int (iz 1)]) (h' := cmH z zl (uf f 22 od) fl tx) rfl ?_
  refine Rx.ne1 rfl rfl ⟨by omega, by omega⟩ (fun b65 => ?_) (fun b65 => by omega)
  refine Rx.walk 3 (pc' := 40) (L' := [some (.ref 0), some (.int (iz 4)), some (.int (iz 2)), some (.int (iz 1)), some (.int (iz 7)), some (.int (iz 3))]) (st' := [.int (iz 1), .int (iz 7), .int (iz 2)]) (h' := cmH z zl (uf f 22 od) fl tx) rfl ?_
  refine Rx.callx (m' := m_X12_has) (as := [.int (iz 7), .int (iz 1)]) (rest := [.int (iz 2)]) rfl (n_has_7_1 _ (cmH z zl (uf f 22 od) fl tx)   ) (fun v66 h67 q68 => ?_)
  obtain ⟨rfl, rfl⟩ := q68
  refine Rx.walk 0 (pc' := 43) (L' := [some (.ref 0), some (.int (iz 4)), some (.int (iz 2)), some (.int (iz 1)), some (.int (iz 7)), some (.int (iz 3))]) (st' := [.int (iz 1), .int (iz 2)]) (h' := cmH z zl (uf f 22 od) fl tx) rfl ?_
  refine Rx.eq1 rfl rfl ⟨by omega, by omega⟩ (fun b69 => by omega) (fun b69 => ?_)
  refine Rx.walk 2 (pc' := 51) (L' := [some (.ref 0), some (.int (iz 4)), some (.int (iz 2)), some (.int (iz 1)), some (.int (iz 7)), some (.int (iz 3))]) (st' := [.int (iz 0), .int (iz 2)]) (h' := cmH z zl (uf f 22 od) fl tx) rfl ?_
  refine Rx.iadd rfl ?_
  refine Rx.walk 0 (pc' := 52) (L' := [some (.ref 0), some (.int (iz 4)), some (.int (iz 2)), some (.int (iz 1)), some (.int (iz 7)), some (.int (iz 3))]) (st' := [.int (iz 2)]) (h' := cmH z zl (uf f 22 od) fl tx) rfl ?_
  refine Rx.walk 3 (pc' := 55) (L' := [some (.ref 0), some (.int (iz 4)), some (.int (iz 2)), some (.int (iz 1)), some (.int (iz 7)), some (.int (iz 3))]) (st' := [.int (iz 1), .int (iz 1)]) (h' := cmH z zl (uf f 22 od) fl tx) rfl ?_
  refine Rx.iadd rfl ?_
  refine Rx.walk 0 (pc' := 56) (L' := [some (.ref 0), some (.int (iz 4)), some (.int (iz 2)), some (.int (iz 1)), some (.int (iz 7)), some (.int (iz 3))]) (st' := [.int (iz 2)]) (h' := cmH z zl (uf f 22 od) fl tx) rfl ?_
  refine Rx.walk 1 (pc' := 57) (L' := [some (.ref 0), some (.int (iz 4)), some (.int (iz 2)), some (.int (iz 1)), some (.int (iz 7)), some (.int (iz 3))]) (st' := [.int (iz 4), .int (iz 2)]) (h' := cmH z zl (uf f 22 od) fl tx) rfl ?_
  refine Rx.irem rfl ⟨by omega, by omega⟩ ⟨by omega, by omega⟩ (by omega) (by omega) ?_
  refine Rx.walk 4 (pc' := 19) (L' := [some (.ref 0), some (.int (iz 4)), some (.int (iz 2)), some (.int (iz 2)), some (.int (iz 7)), some (.int (iz 3))]) (st' := [.int (iz 2), .int (iz 7)]) (h' := cmH z zl (uf f 22 od) fl tx) rfl ?_
  refine Rx.callx (m' := m_X12_has) (as := [.int (iz 7), .int (iz 2)]) (rest := []) rfl (n_has_7_2 _ (cmH z zl (uf f 22 od) fl tx)   ) (fun v70 h71 q72 => ?_)
  obtain ⟨rfl, rfl⟩ := q72
  refine Rx.walk 0 (pc' := 22) (L' := [some (.ref 0), some (.int (iz 4)), some (.int (iz 2)), some (.int (iz 2)), some (.int (iz 7)), some (.int (iz 3))]) (st' := [.int (iz 1)]) (h' := cmH z zl (uf f 22 od) fl tx) rfl ?_
  refine Rx.ne1 rfl rfl ⟨by omega, by omega⟩ (fun b73 => ?_) (fun b73 => by omega)
  refine Rx.walk 3 (pc' := 40) (L' := [some (.ref 0), some (.int (iz 4)), some (.int (iz 2)), some (.int (iz 2)), some (.int (iz 7)), some (.int (iz 3))]) (st' := [.int (iz 2), .int (iz 7), .int (iz 2)]) (h' := cmH z zl (uf f 22 od) fl tx) rfl ?_
  refine Rx.callx (m' := m_X12_has) (as := [.int (iz 7), .int (iz 2)]) (rest := [.int (iz 2)]) rfl (n_has_7_2 _ (cmH z zl (uf f 22 od) fl tx)   ) (fun v74 h75 q76 => ?_)
  obtain ⟨rfl, rfl⟩ := q76
  refine Rx.walk 0 (pc' := 43) (L' := [some (.ref 0), some (.int (iz 4)), some (.int (iz 2)), some (.int (iz 2)), some (.int (iz 7)), some (.int (iz 3))]) (st' := [.int (iz 1), .int (iz 2)]) (h' := cmH z zl (uf f 22 od) fl tx) rfl ?_
  refine Rx.eq1 rfl rfl ⟨by omega, by omega⟩ (fun b77 => by omega) (fun b77 => ?_)
  refine Rx.walk 2 (pc' := 51) (L' := [some (.ref 0), some (.int (iz 4)), some (.int (iz 2)), some (.int (iz 2)), some (.int (iz 7)), some (.int (iz 3))]) (st' := [.int (iz 0), .int (iz 2)]) (h' := cmH z zl (uf f 22 od) fl tx) rfl ?_
  refine Rx.iadd rfl ?_
  refine Rx.walk 0 (pc' := 52) (L' := [some (.ref 0), some (.int (iz 4)), some (.int (iz 2)), some (.int (iz 2)), some (.int (iz 7)), some (.int (iz 3))]) (st' := [.int (iz 2)]) (h' := cmH z zl (uf f 22 od) fl tx) rfl ?_
  refine Rx.walk 3 (pc' := 55) (L' := [some (.ref 0), some (.int (iz 4)), some (.int (iz 2)), some (.int (iz 2)), some (.int (iz 7)), some (.int (iz 3))]) (st' := [.int (iz 1), .int (iz 2)]) (h' := cmH z zl (uf f 22 od) fl tx) rfl ?_
  refine Rx.iadd rfl ?_
  refine Rx.walk 0 (pc' := 56) (L' := [some (.ref 0), some (.int (iz 4)), some (.int (iz 2)), some (.int (iz 2)), some (.int (iz 7)), some (.int (iz 3))]) (st' := [.int (iz 3)]) (h' := cmH z zl (uf f 22 od) fl tx) rfl ?_
  refine Rx.walk 1 (pc' := 57) (L' := [some (.ref 0), some (.int (iz 4)), some (.int (iz 2)), some (.int (iz 2)), some (.int (iz 7)), some (.int (iz 3))]) (st' := [.int (iz 4), .int (iz 3)]) (h' := cmH z zl (uf f 22 od) fl tx) rfl ?_
  refine Rx.irem rfl ⟨by omega, by omega⟩ ⟨by omega, by omega⟩ (by omega) (by omega) ?_
  refine Rx.walk 4 (pc' := 19) (L' := [some (.ref 0), some (.int (iz 4)), some (.int (iz 2)), some (.int (iz 3)), some (.int (iz 7)), some (.int (iz 3))]) (st' := [.int (iz 3), .int (iz 7)]) (h' := cmH z zl (uf f 22 od) fl tx) rfl ?_
  refine Rx.callx (m' := m_X12_has) (as := [.int (iz 7), .int (iz 3)]) (rest := []) rfl (n_has_7_3 _ (cmH z zl (uf f 22 od) fl tx)   ) (fun v78 h79 q80 => ?_)
  obtain ⟨rfl, rfl⟩ := q80
  refine Rx.walk 0 (pc' := 22) (L' := [some (.ref 0), some (.int (iz 4)), some (.int (iz 2)), some (.int (iz 3)), some (.int (iz 7)), some (.int (iz 3))]) (st' := [.int (iz 0)]) (h' := cmH z zl (uf f 22 od) fl tx) rfl ?_
  refine Rx.ne1 rfl rfl ⟨by omega, by omega⟩ (fun b81 => by omega) (fun b81 => ?_)
  refine Rx.walk 4 (pc' := 32) (L' := [some (.ref 0), some (.int (iz 4)), some (.int (iz 2)), some (.int (iz 3)), some (.int (iz 7)), some (.int (iz 3))]) (st' := [.int (iz 3), .ref 22, .int (iz 3)]) (h' := cmH z zl (uf f 22 od) fl tx) rfl ?_
  refine Rx.ial (g := od) rfl rfl (by omega) (by omega) (by omega) ?_
  rw [show (od 3) = 3 from h3]
  refine Rx.eq2 rfl rfl ⟨by omega, by omega⟩ ⟨by omega, by omega⟩ (fun b82 => ?_) (fun b82 => by omega)
  refine Rx.walk 3 (pc' := 66) (L' := [some (.ref 0), some (.int (iz 4)), some (.int (iz 2)), some (.int (iz 3)), some (.int (iz 7)), some (.int (iz 3))]) (st' := [.int (iz 3), .int (iz 1), .int (iz 7)]) (h' := cmH z zl (uf f 22 od) fl tx) rfl ?_
  refine Rx.ishl (c := 8) rfl (by decide) ?_
  refine Rx.ior (c := 15) rfl (by decide) ?_
  refine Rx.walk 1 (pc' := 70) (L' := [some (.ref 0), some (.int (iz 4)), some (.int (iz 2)), some (.int (iz 3)), some (.int (iz 15)), some (.int (iz 3))]) (st' := []) (h' := cmH z zl (uf f 22 od) fl tx) rfl ?_
  refine Rx.iinc (b := 1) rfl rfl rfl ?_
  refine Rx.walk 0 (pc' := 73) (L' := [some (.ref 0), some (.int (iz 4)), some (.int (iz 2)), some (.int (iz 3)), some (.int (iz 15)), some (.int (iz 4))]) (st' := []) (h' := cmH z zl (uf f 22 od) fl tx) rfl ?_
  refine Rx.walk 3 (pc' := 13) (L' := [some (.ref 0), some (.int (iz 4)), some (.int (iz 2)), some (.int (iz 3)), some (.int (iz 15)), some (.int (iz 4))]) (st' := [.int (iz 4), .int (iz 4)]) (h' := cmH z zl (uf f 22 od) fl tx) rfl ?_
  refine Rx.ge2 rfl rfl ⟨by omega, by omega⟩ ⟨by omega, by omega⟩ (fun b83 => ?_) (fun b83 => by omega)
  refine Rx.walk 1 (pc' := 77) (L' := [some (.ref 0), some (.int (iz 4)), some (.int (iz 2)), some (.int (iz 3)), some (.int (iz 15)), some (.int (iz 4))]) (st' := [.int (iz 2)]) (h' := cmH z zl (uf f 22 od) fl tx) rfl ?_
  refine Rx.ret rfl ?_
  exact ⟨rfl, rfl⟩
set_option maxRecDepth 100000 in
set_option maxHeartbeats 4000000 in
theorem n_has_14_3 (d : Nat) (h0 : AmH)   : Rx (d) m_X12_has 0 (am_ent [.int (iz 14), .int (iz 3)] 2) [] (h0) (fun rv h => rv = some (.int (iz 1)) ∧ h0 = h) := ⟨_, _, ⟨100, rfl⟩, rfl, rfl⟩
set_option maxRecDepth 100000 in
set_option maxHeartbeats 4000000 in
theorem n_has_14_0 (d : Nat) (h0 : AmH)   : Rx (d) m_X12_has 0 (am_ent [.int (iz 14), .int (iz 0)] 2) [] (h0) (fun rv h => rv = some (.int (iz 0)) ∧ h0 = h) := ⟨_, _, ⟨100, rfl⟩, rfl, rfl⟩
set_option maxRecDepth 100000 in
set_option maxHeartbeats 4000000 in
theorem m_stepsOf4_9 (d : Nat) (z : Nat → Int) (zl : Nat → Int) (f : Nat → Int → Int) (fl : Nat → Int → Int) (tx : Nat)  (od : Int → Int) (h0 : od 0 = 1) (h1 : od 1 = 2) (h2 : od 2 = 3) (h3 : od 3 = 0) : Rx (d + 1) m_X12_stepsOf 0 (am_ent [.ref 0, .int (iz 4)] 6) [] (cmH z zl (uf f 22 od) fl tx) (fun rv h => rv = some (.int (iz 1)) ∧ h = cmH z zl (uf f 22 od) fl tx) := by
  refine Rx.walk 0 (pc' := 0) (L' := [some (.ref 0), some (.int (iz 4)), none, none, none, none]) (st' := []) (h' := cmH z zl (uf f 22 od) fl tx) rfl ?_
  refine Rx.walk 10 (pc' := 13) (L' := [some (.ref 0), some (.int (iz 4)), some (.int (iz 0)), some (.int (iz 0)), some (.int (iz 0)), some (.int (iz 0))]) (st' := [.int (iz 4), .int (iz 0)]) (h' := cmH z zl (uf f 22 od) fl tx) rfl ?_
  refine Rx.ge2 rfl rfl ⟨by omega, by omega⟩ ⟨by omega, by omega⟩ (fun b1 => by omega) (fun b1 => ?_)
  refine Rx.walk 2 (pc' := 19) (L' := [some (.ref 0), some (.int (iz 4)), some (.int (iz 0)), some (.int (iz 0)), some (.int (iz 0)), some (.int (iz 0))]) (st' := [.int (iz 0), .int (iz 0)]) (h' := cmH z zl (uf f 22 od) fl tx) rfl ?_
  refine Rx.callx (m' := m_X12_has) (as := [.int (iz 0), .int (iz 0)]) (rest := []) rfl (n_has_0_0 _ (cmH z zl (uf f 22 od) fl tx)   ) (fun v2 h3 q4 => ?_)
  obtain ⟨rfl, rfl⟩ := q4
  refine Rx.walk 0 (pc' := 22) (L' := [some (.ref 0), some (.int (iz 4)), some (.int (iz 0)), some (.int (iz 0)), some (.int (iz 0)), some (.int (iz 0))]) (st' := [.int (iz 0)]) (h' := cmH z zl (uf f 22 od) fl tx) rfl ?_
  refine Rx.ne1 rfl rfl ⟨by omega, by omega⟩ (fun b5 => by omega) (fun b5 => ?_)
  refine Rx.walk 4 (pc' := 32) (L' := [some (.ref 0), some (.int (iz 4)), some (.int (iz 0)), some (.int (iz 0)), some (.int (iz 0)), some (.int (iz 0))]) (st' := [.int (iz 0), .ref 22, .int (iz 0)]) (h' := cmH z zl (uf f 22 od) fl tx) rfl ?_
  refine Rx.ial (g := od) rfl rfl (by omega) (by omega) (by omega) ?_
  rw [show (od 0) = 1 from h0]
  refine Rx.eq2 rfl rfl ⟨by omega, by omega⟩ ⟨by omega, by omega⟩ (fun b6 => by omega) (fun b6 => ?_)
  refine Rx.walk 3 (pc' := 40) (L' := [some (.ref 0), some (.int (iz 4)), some (.int (iz 0)), some (.int (iz 0)), some (.int (iz 0)), some (.int (iz 0))]) (st' := [.int (iz 0), .int (iz 0), .int (iz 0)]) (h' := cmH z zl (uf f 22 od) fl tx) rfl ?_
  refine Rx.callx (m' := m_X12_has) (as := [.int (iz 0), .int (iz 0)]) (rest := [.int (iz 0)]) rfl (n_has_0_0 _ (cmH z zl (uf f 22 od) fl tx)   ) (fun v7 h8 q9 => ?_)
  obtain ⟨rfl, rfl⟩ := q9
  refine Rx.walk 0 (pc' := 43) (L' := [some (.ref 0), some (.int (iz 4)), some (.int (iz 0)), some (.int (iz 0)), some (.int (iz 0)), some (.int (iz 0))]) (st' := [.int (iz 0), .int (iz 0)]) (h' := cmH z zl (uf f 22 od) fl tx) rfl ?_
  refine Rx.eq1 rfl rfl ⟨by omega, by omega⟩ (fun b10 => ?_) (fun b10 => by omega)
  refine Rx.walk 1 (pc' := 51) (L' := [some (.ref 0), some (.int (iz 4)), some (.int (iz 0)), some (.int (iz 0)), some (.int (iz 0)), some (.int (iz 0))]) (st' := [.int (iz 1), .int (iz 0)]) (h' := cmH z zl (uf f 22 od) fl tx) rfl ?_
  refine Rx.iadd rfl ?_
  refine Rx.walk 0 (pc' := 52) (L' := [some (.ref 0), some (.int (iz 4)), some (.int (iz 0)), some (.int (iz 0)), some (.int (iz 0)), some (.int (iz 0))]) (st' := [.int (iz 1)]) (h' := cmH z zl (uf f 22 od) fl tx) rfl ?_
  refine Rx.walk 3 (pc' := 55) (L' := [some (.ref 0), some (.int (iz 4)), some (.int (iz 1)), some (.int (iz 0)), some (.int (iz 0)), some (.int (iz 0))]) (st' := [.int (iz 1), .int (iz 0)]) (h' := cmH z zl (uf f 22 od) fl tx) rfl ?_
  refine Rx.iadd rfl ?_
  refine Rx.walk 0 (pc' := 56) (L' := [some (.ref 0), some (.int (iz 4)), some (.int (iz 1)), some (.int (iz 0)), some (.int (iz 0)), some (.int (iz 0))]) (st' := [.int (iz 1)]) (h' := cmH z zl (uf f 22 od) fl tx) rfl ?_
  refine Rx.walk 1 (pc' := 57) (L' := [some (.ref 0), some (.int (iz 4)), some (.int (iz 1)), some (.int (iz 0)), some (.int (iz 0)), some (.int (iz 0))]) (st' := [.int (iz 4), .int (iz 1)]) (h' := cmH z zl (uf f 22 od) fl tx) rfl ?_
  refine Rx.irem rfl ⟨by omega, by omega⟩ ⟨by omega, by omega⟩ (by omega) (by omega) ?_
  refine Rx.walk 4 (pc' := 19) (L' := [some (.ref 0), some (.int (iz 4)), some (.int (iz 1)), some (.int (iz 1)), some (.int (iz 0)), some (.int (iz 0))]) (st' := [.int (iz 1), .int (iz 0)]) (h' := cmH z zl (uf f 22 od) fl tx) rfl ?_
  refine Rx.callx (m' := m_X12_has) (as := [.int (iz 0), .int (iz 1)]) (rest := []) rfl (n_has_0_1 _ (cmH z zl (uf f 22 od) fl tx)   ) (fun v11 h12 q13 => ?_)
  obtain ⟨rfl, rfl⟩ := q13
  refine Rx.walk 0 (pc' := 22) (L' := [some (.ref 0), some (.int (iz 4)), some (.int (iz 1)), some (.int (iz 1)), some (.int (iz 0)), some (.int (iz 0))]) (st' := [.int (iz 0)]) (h' := cmH z zl (uf f 22 od) fl tx) rfl ?_
  refine Rx.ne1 rfl rfl ⟨by omega, by omega⟩ (fun b14 => by omega) (fun b14 => ?_)
  refine Rx.walk 4 (pc' := 32) (L' := [some (.ref 0), some (.int (iz 4)), some (.int (iz 1)), some (.int (iz 1)), some (.int (iz 0)), some (.int (iz 0))]) (st' := [.int (iz 0), .ref 22, .int (iz 1)]) (h' := cmH z zl (uf f 22 od) fl tx) rfl ?_
  refine Rx.ial (g := od) rfl rfl (by omega) (by omega) (by omega) ?_
  rw [show (od 0) = 1 from h0]
  refine Rx.eq2 rfl rfl ⟨by omega, by omega⟩ ⟨by omega, by omega⟩ (fun b15 => ?_) (fun b15 => by omega)
  refine Rx.walk 3 (pc' := 66) (L' := [some (.ref 0), some (.int (iz 4)), some (.int (iz 1)), some (.int (iz 1)), some (.int (iz 0)), some (.int (iz 0))]) (st' := [.int (iz 1), .int (iz 1), .int (iz 0)]) (h' := cmH z zl (uf f 22 od) fl tx) rfl ?_
  refine Rx.ishl (c := 2) rfl (by decide) ?_
  refine Rx.ior (c := 2) rfl (by decide) ?_
  refine Rx.walk 1 (pc' := 70) (L' := [some (.ref 0), some (.int (iz 4)), some (.int (iz 1)), some (.int (iz 1)), some (.int (iz 2)), some (.int (iz 0))]) (st' := []) (h' := cmH z zl (uf f 22 od) fl tx) rfl ?_
  refine Rx.iinc (b := 1) rfl rfl rfl ?_
  refine Rx.walk 0 (pc' := 73) (L' := [some (.ref 0), some (.int (iz 4)), some (.int (iz 1)), some (.int (iz 1)), some (.int (iz 2)), some (.int (iz 1))]) (st' := []) (h' := cmH z zl (uf f 22 od) fl tx) rfl ?_
  refine Rx.walk 3 (pc' := 13) (L' := [some (.ref 0), some (.int (iz 4)), some (.int (iz 1)), some (.int (iz 1)), some (.int (iz 2)), some (.int (iz 1))]) (st' := [.int (iz 4), .int (iz 1)]) (h' := cmH z zl (uf f 22 od) fl tx) rfl ?_
  refine Rx.ge2 rfl rfl ⟨by omega, by omega⟩ ⟨by omega, by omega⟩ (fun b16 => by omega) (fun b16 => ?_)
  refine Rx.walk 2 (pc' := 19) (L' := [some (.ref 0), some (.int (iz 4)), some (.int (iz 1)), some (.int (iz 1)), some (.int (iz 2)), some (.int (iz 1))]) (st' := [.int (iz 1), .int (iz 2)]) (h' := cmH z zl (uf f 22 od) fl tx) rfl ?_
  refine Rx.callx (m' := m_X12_has) (as := [.int (iz 2), .int (iz 1)]) (rest := []) rfl (n_has_2_1 _ (cmH z zl (uf f 22 od) fl tx)   ) (fun v17 h18 q19 => ?_)
  obtain ⟨rfl, rfl⟩ := q19
  refine Rx.walk 0 (pc' := 22) (L' := [some (.ref 0), some (.int (iz 4)), some (.int (iz 1)), some (.int (iz 1)), some (.int (iz 2)), some (.int (iz 1))]) (st' := [.int (iz 1)]) (h' := cmH z zl (uf f 22 od) fl tx) rfl ?_
  refine Rx.ne1 rfl rfl ⟨by omega, by omega⟩ (fun b20 => ?_) (fun b20 => by omega)
  refine Rx.walk 3 (pc' := 40) (L' := [some (.ref 0), some (.int (iz 4)), some (.int (iz 1)), some (.int (iz 1)), some (.int (iz 2)), some (.int (iz 1))]) (st' := [.int (iz 1), .int (iz 2), .int (iz 1)]) (h' := cmH z zl (uf f 22 od) fl tx) rfl ?_
  refine Rx.callx (m' := m_X12_has) (as := [.int (iz 2), .int (iz 1)]) (rest := [.int (iz 1)]) rfl (n_has_2_1 _ (cmH z zl (uf f 22 od) fl tx)   ) (fun v21 h22 q23 => ?_)
  obtain ⟨rfl, rfl⟩ := q23
  refine Rx.walk 0 (pc' := 43) (L' := [some (.ref 0), some (.int (iz 4)), some (.int (iz 1)), some (.int (iz 1)), some (.int (iz 2)), some (.int (iz 1))]) (st' := [.int (iz 1), .int (iz 1)]) (h' := cmH z zl (uf f 22 od) fl tx) rfl ?_
  refine Rx.eq1 rfl rfl ⟨by omega, by omega⟩ (fun b24 => by omega) (fun b24 => ?_)
  refine Rx.walk 2 (pc' := 51) (L' := [some (.ref 0), some (.int (iz 4)), some (.int (iz 1)), some (.int (iz 1)), some (.int (iz 2)), some (.int (iz 1))]) (st' := [.int (iz 0), .int (iz 1)]) (h' := cmH z zl (uf f 22 od) fl tx) rfl ?_
  refine Rx.iadd rfl ?_
  refine Rx.walk 0 (pc' := 52) (L' := [some (.ref 0), some (.int (iz 4)), some (.int (iz 1)), some (.int (iz 1)), some (.int (iz 2)), some (.int (iz 1))]) (st' := [.int (iz 1)]) (h' := cmH z zl (uf f 22 od) fl tx) rfl ?_
  refine Rx.walk 3 (pc' := 55) (L' := [some (.ref 0), some (.int (iz 4)), some (.int (iz 1)), some (.int (iz 1)), some (.int (iz 2)), some (.int (iz 1))]) (st' := [.int (iz 1), .int (iz 1)]) (h' := cmH z zl (uf f 22 od) fl tx) rfl ?_
  refine Rx.iadd rfl ?_
  refine Rx.walk 0 (pc' := 56) (L' := [some (.ref 0), some (.int (iz 4)), some (.int (iz 1)), some (.int (iz 1)), some (.int (iz 2)), some (.int (iz 1))]) (st' := [.int (iz 2)]) (h' := cmH z zl (uf f 22 od) fl tx) rfl ?_
  refine Rx.walk 1 (pc' := 57) (L' := [some (.ref 0), some (.int (iz 4)), some (.int (iz 1)), some (.int (iz 1)), some (.int (iz 2)), some (.int (iz 1))]) (st' := [.int (iz 4), .int (iz 2)]) (h' := cmH z zl (uf f 22 od) fl tx) rfl ?_
  refine Rx.irem rfl ⟨by omega, by omega⟩ ⟨by omega, by omega⟩ (by omega) (by omega) ?_
  refine Rx.walk 4 (pc' := 19) (L' := [some (.ref 0), some (.int (iz 4)), some (.int (iz 1)), some (.int (iz 2)), some (.int (iz 2)), some (.int (iz 1))]) (st' := [.int (iz 2), .int (iz 2)]) (h' := cmH z zl (uf f 22 od) fl tx) rfl ?_
  refine Rx.callx (m' := m_X12_has) (as := [.int (iz 2), .int (iz 2)]) (rest := []) rfl (n_has_2_2 _ (cmH z zl (uf f 22 od) fl tx)   ) (fun v25 h26 q27 => ?_)
  obtain ⟨rfl, rfl⟩ := q27
  refine Rx.walk 0 (pc' := 22) (L' := [some (.ref 0), some (.int (iz 4)), some (.int (iz 1)), some (.int (iz 2)), some (.int (iz 2)), some (.int (iz 1))]) (st' := [.int (iz 0)]) (h' := cmH z zl (uf f 22 od) fl tx) rfl ?_
  refine Rx.ne1 rfl rfl ⟨by omega, by omega⟩ (fun b28 => by omega) (fun b28 => ?_)
  refine Rx.walk 4 (pc' := 32) (L' := [some (.ref 0), some (.int (iz 4)), some (.int (iz 1)), some (.int (iz 2)), some (.int (iz 2)), some (.int (iz 1))]) (st' := [.int (iz 1), .ref 22, .int (iz 2)]) (h' := cmH z zl (uf f 22 od) fl tx) rfl ?_
  refine Rx.ial (g := od) rfl rfl (by omega) (by omega) (by omega) ?_
  rw [show (od 1) = 2 from h1]
  refine Rx.eq2 rfl rfl ⟨by omega, by omega⟩ ⟨by omega, by omega⟩ (fun b29 => ?_) (fun b29 => by omega)
  refine Rx.walk 3 (pc' := 66) (L' := [some (.ref 0), some (.int (iz 4)), some (.int (iz 1)), some (.int (iz 2)), some (.int (iz 2)), some (.int (iz 1))]) (st' := [.int (iz 2), .int (iz 1), .int (iz 2)]) (h' := cmH z zl (uf f 22 od) fl tx) rfl ?_
  refine Rx.ishl (c := 4) rfl (by decide) ?_
  refine Rx.ior (c := 6) rfl (by decide) ?_
  refine Rx.walk 1 (pc' := 70) (L' := [some (.ref 0), some (.int (iz 4)), some (.int (iz 1)), some (.int (iz 2)), some (.int (iz 6)), some (.int (iz 1))]) (st' := []) (h' := cmH z zl (uf f 22 od) fl tx) rfl ?_
  refine Rx.iinc (b := 1) rfl rfl rfl ?_
  refine Rx.walk 0 (pc' := 73) (L' := [some (.ref 0), some (.int (iz 4)), some (.int (iz 1)), some (.int (iz 2)), some (.int (iz 6)), some (.int (iz 2))]) (st' := []) (h' := cmH z zl (uf f 22 od) fl tx) rfl ?_
  refine Rx.walk 3 (pc' := 13) (L' := [some (.ref 0), some (.int (iz 4)), some (.int (iz 1)), some (.int (iz 2)), some (.int (iz 6)), some (.int (iz 2))]) (st' := [.int (iz 4), .int (iz 2)]) (h' := cmH z zl (uf f 22 od) fl tx) rfl ?_
  refine Rx.ge2 rfl rfl ⟨by omega, by omega⟩ ⟨by omega, by omega⟩ (fun b30 => by omega) (fun b30 => ?_)
  refine Rx.walk 2 (pc' := 19) (L' := [some (.ref 0), some (.int (iz 4)), some (.int (iz 1)), some (.int (iz 2)), some (.int (iz 6)), some (.int (iz 2))]) (st' := [.int (iz 2), .int (iz 6)]) (h' := cmH z zl (uf f 22 od) fl tx) rfl ?_
  refine Rx.callx (m' := m_X12_has) (as := [.int (iz 6), .int (iz 2)]) (rest := []) rfl (n_has_6_2 _ (cmH z zl (uf f 22 od) fl tx)   ) (fun v31 h32 q33 => ?_)
  obtain ⟨rfl, rfl⟩ := q33
  refine Rx.walk 0 (pc' := 22) (L' := [some (.ref 0), some (.int (iz 4)), some (.int (iz 1)), some (.int (iz 2)), some (.int (iz 6)), some (.int (iz 2))]) (st' := [.int (iz 1)]) (h' := cmH z zl (uf f 22 od) fl tx) rfl ?_
  refine Rx.ne1 rfl rfl ⟨by omega, by omega⟩ (fun b34 => ?_) (fun b34 => by omega)
  refine Rx.walk 3 (pc' := 40) (L' := [some (.ref 0), some (.int (iz 4)), some (.int (iz 1)), some (.int (iz 2)), some (.int (iz 6)), some (.int (iz 2))]) (st' := [.int (iz 2), .int (iz 6), .int (iz 1)]) (h' := cmH z zl (uf f 22 od) fl tx) rfl ?_
  refine Rx.callx (m' := m_X12_has) (as := [.int (iz 6), .int (iz 2)]) (rest := [.int (iz 1)]) rfl (n_has_6_2 _ (cmH z zl (uf f 22 od) fl tx)   ) (fun v35 h36 q37 => ?_)
  obtain ⟨rfl, rfl⟩ := q37
  refine Rx.walk 0 (pc' := 43) (L' := [some (.ref 0), some (.int (iz 4)), some (.int (iz 1)), some (.int (iz 2)), some (.int (iz 6)), some (.int (iz 2))]) (st' := [.int (iz 1), .int (iz 1)]) (h' := cmH z zl (uf f 22 od) fl tx) rfl ?_
  refine Rx.eq1 rfl rfl ⟨by omega, by omega⟩ (fun b38 => by omega) (fun b38 => ?_)
  refine Rx.walk 2 (pc' := 51) (L' := [some (.ref 0), some (.int (iz 4)), some (.int (iz 1)), some (.int (iz 2)), some (.int (iz 6)), some (.int (iz 2))]) (st' := [.int (iz 0), .int (iz 1)]) (h' := cmH z zl (uf f 22 od) fl tx) rfl ?_
  refine Rx.iadd rfl ?_
  refine Rx.walk 0 (pc' := 52) (L' := [some (.ref 0), some (.int (iz 4)), some (.int (iz 1)), some (.int (iz 2)), some (.int (iz 6)), some (.int (iz 2))]) (st' := [.int (iz 1)]) (h' := cmH z zl (uf f 22 od) fl tx) rfl ?_
  refine Rx.walk 3 (pc' := 55) (L' := [some (.ref 0), some (.int (iz 4)), some (.int (iz 1)), some (.int (iz 2)), some (.int (iz 6)), some (.int (iz 2))]) (st' := [.int (iz 1), .int (iz 2)]) (h' := cmH z zl (uf f 22 od) fl tx) rfl ?_
  refine Rx.iadd rfl ?_
  refine Rx.walk 0 (pc' := 56) (L' := [some (.ref 0), some (.int (iz 4)), some (.int (iz 1)), some (.int (iz 2)), some (.int (iz 6)), some (.int (iz 2))]) (st' := [.int (iz 3)]) (h' := cmH z zl (uf f 22 od) fl tx) rfl ?_
  refine Rx.walk 1 (pc' := 57) (L' := [some (.ref 0), some (.int (iz 4)), some (.int (iz 1)), some (.int (iz 2)), some (.int (iz 6)), some (.int (iz 2))]) (st' := [.int (iz 4), .int (iz 3)]) (h' := cmH z zl (uf f 22 od) fl tx) rfl ?_
  refine Rx.irem rfl ⟨by omega, by omega⟩ ⟨by omega, by omega⟩ (by omega) (by omega) ?_
  refine Rx.walk 4 (pc' := 19) (L' := [some (.ref 0), some (.int (iz 4)), some (.int (iz 1)), some (.int (iz 3)), some (.int (iz 6)), some (.int (iz 2))]) (st' := [.int (iz 3), .int (iz 6)]) (h' := cmH z zl (uf f 22 od) fl tx) rfl ?_
  refine Rx.callx (m' := m_X12_has) (as := [.int (iz 6), .int (iz 3)]) (rest := []) rfl (n_has_6_3 _ (cmH z zl (uf f 22 od) fl tx)   ) (fun v39 h40 q41 => ?_)
  obtain ⟨rfl, rfl⟩ := q41
  refine Rx.walk 0 (pc' := 22) (L' := [some (.ref 0), some (.int (iz 4)), some (.int (iz 1)), some (.int (iz 3)), some (.int (iz 6)), some (.int (iz 2))]) (st' := [.int (iz 0)]) (h' := cmH z zl (uf f 22 od) fl tx) rfl ?_
  refine Rx.ne1 rfl rfl ⟨by omega, by omega⟩ (fun b42 => by omega) (fun b42 => ?_)
  refine Rx.walk 4 (pc' := 32) (L' := [some (.ref 0), some (.int (iz 4)), some (.int (iz 1)), some (.int (iz 3)), some (.int (iz 6)), some (.int (iz 2))]) (st' := [.int (iz 2), .ref 22, .int (iz 3)]) (h' := cmH z zl (uf f 22 od) fl tx) rfl ?_
  refine Rx.ial (g := od) rfl rfl (by omega) (by omega) (by omega) ?_
  rw [show (od 2) = 3 from h2]
  refine Rx.eq2 rfl rfl ⟨by omega, by omega⟩ ⟨by omega, by omega⟩ (fun b43 => ?_) (fun b43 => by omega)
  refine Rx.walk 3 (pc' := 66) (L' := [some (.ref 0), some (.int (iz 4)), some (.int (iz 1)), some (.int (iz 3)), some (.int (iz 6)), some (.int (iz 2))]) (st' := [.int (iz 3), .int (iz 1), .int (iz 6)]) (h' := cmH z zl (uf f 22 od) fl tx) rfl ?_
  refine Rx.ishl (c := 8) rfl (by decide) ?_
  refine Rx.ior (c := 14) rfl (by decide) ?_
  refine Rx.walk 1 (pc' := 70) (L' := [some (.ref 0), some (.int (iz 4)), some (.int (iz 1)), some (.int (iz 3)), some (.int (iz 14)), some (.int (iz 2))]) (st' := []) (h' := cmH z zl (uf f 22 od) fl tx) rfl ?_
  refine Rx.iinc (b := 1) rfl rfl rfl ?_
  refine Rx.walk 0 (pc' := 73) (L' := [some (.ref 0), some (.int (iz 4)), some (.int (iz 1)), some (.int (iz 3)), some (.int (iz 14)), some (.int (iz 3))]) (st' := []) (h' := cmH z zl (uf f 22 od) fl tx) rfl ?_
  refine Rx.walk 3 (pc' := 13) (L' := [some (.ref 0), some (.int (iz 4)), some (.int (iz 1)), some (.int (iz 3)), some (.int (iz 14)), some (.int (iz 3))]) (st' := [.int (iz 4), .int (iz 3)]) (h' := cmH z zl (uf f 22 od) fl tx) rfl ?_
  refine Rx.ge2 rfl rfl ⟨by omega, by omega⟩ ⟨by omega, by omega⟩ (fun b44 => by omega) (fun b44 => ?_)
  refine Rx.walk 2 (pc' := 19) (L' := [some (.ref 0), some (.int (iz 4)), some (.int (iz 1)), some (.int (iz 3)), some (.int (iz 14)), some (.int (iz 3))]) (st' := [.int (iz 3), .int (iz 14)]) (h' := cmH z zl (uf f 22 od) fl tx) rfl ?_
  refine Rx.callx (m' := m_X12_has) (as := [.int (iz 14), .int (iz 3)]) (rest := []) rfl (n_has_14_3 _ (cmH z zl (uf f 22 od) fl tx)   ) (fun v45 h46 q47 => ?_)
  obtain ⟨rfl, rfl⟩ := q47
  refine Rx.walk 0 (pc' := 22) (L' := [some (.ref 0), some (.int (iz 4)), some (.int (iz 1)), some (.int (iz 3)), some (.int (iz 14)), some (.int (iz 3))]) (st' := [.int (iz 1)]) (h' := cmH z zl (uf f 22 od) fl tx) rfl ?_
  refine Rx.ne1 rfl rfl ⟨by omega, by omega⟩ (fun b48 => ?_) (fun b48 => by omega)
  refine Rx.walk 3 (pc' := 40) (L' := [some (.ref 0), some (.int (iz 4)), some (.int (iz 1)), some (.int (iz 3)), some (.int (iz 14)), some (.int (iz 3))]) (st' := [.int (iz 3), .int (iz 14), .int (iz 1)]) (h' := cmH z zl (uf f 22 od) fl tx) rfl ?_
  refine Rx.callx (m' := m_X12_has) (as := [.int (iz 14), .int (iz 3)]) (rest := [.int (iz 1)]) rfl (n_has_14_3 _ (cmH z zl (uf f 22 od) fl tx)   ) (fun v49 h50 q51 => ?_)
  obtain ⟨rfl, rfl⟩ := q51
  refine Rx.walk 0 (pc' := 43) (L' := [some (.ref 0), some (.int (iz 4)), some (.int (iz 1)), some (.int (iz 3)), some (.int (iz 14)), some (.int (iz 3))]) (st' := [.int (iz 1), .int (iz 1)]) (h' := cmH z zl (uf f 22 od) fl tx) rfl ?_
  refine Rx.eq1 rfl rfl ⟨by omega, by omega⟩ (fun b52 => by omega) (fun b52 => ?_)
  refine Rx.walk 2 (pc' := 51) (L' := [some (.ref 0), some (.int (iz 4)), some (.int (iz 1)), some (.int (iz 3)), some (.int (iz 14)), some (.int (iz 3))]) (st' := [.int (iz 0), .int (iz 1)]) (h' := cmH z zl (uf f 22 od) fl tx) rfl ?_
  refine Rx.iadd rfl ?_
  refine Rx.walk 0 (pc' := 52) (L' := [some (.ref 0), some (.int (iz 4)), some (.int (iz 1)), some (.int (iz 3)), some (.int (iz 14)), some (.int (iz 3))]) (st' := [.int (iz 1)]) (h' := cmH z zl (uf f 22 od) fl tx) rfl ?_
  refine Rx.walk 3 (pc' := 55) (L' := [some (.ref 0), some (.int (iz 4)), some (.int (iz 1)), some (.int (iz 3)), some (.int (iz 14)), some (.int (iz 3))]) (st' := [.int (iz 1), .int (iz 3)]) (h' := cmH z zl (uf f 22 od) fl tx) rfl ?_
  refine Rx.iadd rfl ?_
  refine Rx.walk 0 (pc' := 56) (L' := [some (.ref 0), some (.int (iz 4)), some (.int (iz 1)), some (.int (iz 3)), some (.int (iz 14)), some (.int (iz 3))]) (st' := [.int (iz 4)]) (h' := cmH z zl (uf f 22 od) fl tx) rfl ?_
  refine Rx.walk 1 (pc' := 57) (L' := [some (.ref 0), some (.int (iz 4)), some (.int (iz 1)), some (.int (iz 3)), some (.int (iz 14)), some (.int (iz 3))]) (st' := [.int (iz 4), .int (iz 4)]) (h' := cmH z zl (uf f 22 od) fl tx) rfl ?_
  refine Rx.irem rfl ⟨by omega, by omega⟩ ⟨by omega, by omega⟩ (by omega) (by omega) ?_
  refine Rx.walk 4 (pc' := 19) (L' := [some (.ref 0), some (.int (iz 4)), some (.int (iz 1)), some (.int (iz 0)), some (.int (iz 14)), some (.int (iz 3))]) (st' := [.int (iz 0), .int (iz 14)]) (h' := cmH z zl (uf f 22 od) fl tx) rfl ?_
  refine Rx.callx (m' := m_X12_has) (as := [.int (iz 14), .int (iz 0)]) (rest := []) rfl (n_has_14_0 _ (cmH z zl (uf f 22 od) fl tx)   ) (fun v53 h54 q55 => ?_)
  obtain ⟨rfl, rfl⟩ := q55
  refine Rx.walk 0 (pc' := 22) (L' := [some (.ref 0), some (.int (iz 4)), some (.int (iz 1)), some (.int (iz 0)), some (.int (iz 14)), some (.int (iz 3))]) (st' := [.int (iz 0)]) (h' := cmH z zl (uf f 22 od) fl tx) rfl ?_
  refine Rx.ne1 rfl rfl ⟨by omega, by omega⟩ (fun b56 => by omega) (fun b56 => ?_)
  refine Rx.walk 4 (pc' := 32) (L' := [some (.ref 0), some (.int (iz 4)), some (.int (iz 1)), some (.int (iz 0)), some (.int (iz 14)), some (.int (iz 3))]) (st' := [.int (iz 3), .ref 22, .int (iz 0)]) (h' := cmH z zl (uf f 22 od) fl tx) rfl ?_
  refine Rx.ial (g := od) rfl rfl (by omega) (by omega) (by omega) ?_
  rw [show (od 3) = 0 from h3]
  refine Rx.eq2 rfl rfl ⟨by omega, by omega⟩ ⟨by omega, by omega⟩ (fun b57 => ?_) (fun b57 => by omega)
  refine Rx.walk 3 (pc' := 66) (L' := [some (.ref 0), some (.int (iz 4)), some (.int (iz 1)), some (.int (iz 0)), some (.int (iz 14)), some (.int (iz 3))]) (st' := [.int (iz 0), .int (iz 1), .int (iz 14)]) (h' := cmH z zl (uf f 22 od) fl tx) rfl ?_
  refine Rx.ishl (c := 1) rfl (by decide) ?_
  refine Rx.ior (c := 15) rfl (by decide) ?_
  refine Rx.walk 1 (pc' := 70) (L' := [some (.ref 0), some (.int (iz 4)), some (.int (iz 1)), some (.int (iz 0)), some (.int (iz 15)), some (.int (iz 3))]) (st' := []) (h' := cmH z zl (uf f 22 od) fl tx) rfl ?_
  refine Rx.iinc (b := 1) rfl rfl rfl ?_
  refine Rx.walk 0 (pc' := 73) (L' := [some (.ref 0), some (.int (iz 4)), some (.int (iz 1)), some (.int (iz 0)), some (.int (iz 15)), some (.int (iz 4))]) (st' := []) (h' := cmH z zl (uf f 22 od) fl tx) rfl ?_
  refine Rx.walk 3 (pc' := 13) (L' := [some (.ref 0), some (.int (iz 4)), some (.int (iz 1)), some (.int (iz 0)), some (.int (iz 15)), some (.int (iz 4))]) (st' := [.int (iz 4), .int (iz 4)]) (h' := cmH z zl (uf f 22 od) fl tx) rfl ?_
  refine Rx.ge2 rfl rfl ⟨by omega, by omega⟩ ⟨by omega, by omega⟩ (fun b58 => ?_) (fun b58 => by omega)
  refine Rx.walk 1 (pc' := 77) (L' := [some (.ref 0), some (.int (iz 4)), some (.int (iz 1)), some (.int (iz 0)), some (.int (iz 15)), some (.int (iz 4))]) (st' := [.int (iz 1)]) (h' := cmH z zl (uf f 22 od) fl tx) rfl ?_
  refine Rx.ret rfl ?_
  exact ⟨rfl, rfl⟩
set_option maxRecDepth 100000 in
set_option maxHeartbeats 4000000 in
theorem n_has_10_3 (d : Nat) (h0 : AmH)   : Rx (d) m_X12_has 0 (am_ent [.int (iz 10), .int (iz 3)] 2) [] (h0) (fun rv h => rv = some (.int (iz 1)) ∧ h0 = h) := ⟨_, _, ⟨100, rfl⟩, rfl, rfl⟩
set_option maxRecDepth 100000 in
set_option maxHeartbeats 4000000 in
theorem n_has_10_0 (d : Nat) (h0 : AmH)   : Rx (d) m_X12_has 0 (am_ent [.int (iz 10), .int (iz 0)] 2) [] (h0) (fun rv h => rv = some (.int (iz 0)) ∧ h0 = h) := ⟨_, _, ⟨100, rfl⟩, rfl, rfl⟩
set_option maxRecDepth 100000 in
set_option maxHeartbeats 4000000 in
theorem m_stepsOf4_10 (d : Nat) (z : Nat → Int) (zl : Nat → Int) (f : Nat → Int → Int) (fl : Nat → Int → Int) (tx : Nat)  (od : Int → Int) (h0 : od 0 = 1) (h1 : od 1 = 3) (h2 : od 2 = 0) (h3 : od 3 = 2) : Rx (d + 1) m_X12_stepsOf 0 (am_ent [.ref 0, .int (iz 4)] 6) [] (cmH z zl (uf f 22 od) fl tx) (fun rv h => rv = some (.int (iz 2)) ∧ h = cmH z zl (uf f 22 od) fl tx) := by
  refine Rx.walk 0 (pc' := 0) (L' := [some (.ref 0), some (.int (iz 4)), none, none, none, none]) (st' := []) (h' := cmH z zl (uf f 22 od) fl tx) rfl ?_
  refine Rx.walk 10 (pc' := 13) (L' := [some (.ref 0), some (.int (iz 4)), some (.int (iz 0)), some (.int (iz 0)), some (.int (iz 0)), some (.int (iz 0))]) (st' := [.int (iz 4), .int (iz 0)]) (h' := cmH z zl (uf f 22 od) fl tx) rfl ?_
  refine Rx.ge2 rfl rfl ⟨by omega, by omega⟩ ⟨by omega, by omega⟩ (fun b1 => by omega) (fun b1 => ?_)
  refine Rx.walk 2 (pc' := 19) (L' := [some (.ref 0), some (.int (iz 4)), some (.int (iz 0)), some (.int (iz 0)), some (.int (iz 0)), some (.int (iz 0))]) (st' := [.int (iz 0), .int (iz 0)]) (h' := cmH z zl (uf f 22 od) fl tx) rfl ?_
  refine Rx.callx (m' := m_X12_has) (as := [.int (iz 0), .int (iz 0)]) (rest := []) rfl (n_has_0_0 _ (cmH z zl (uf f 22 od) fl tx)   ) (fun v2 h3 q4 => ?_)
  obtain ⟨rfl, rfl⟩ := q4
  refine Rx.walk 0 (pc' := 22) (L' := [some (.ref 0), some (.int (iz 4)), some (.int (iz 0)), some (.int (iz 0)), some (.int (iz 0)), some (.int (iz 0))]) (st' := [.int (iz 0)]) (h' := cmH z zl (uf f 22 od) fl tx) rfl ?_
  refine Rx.ne1 rfl rfl ⟨by omega, by omega⟩ (fun b5 => by omega) (fun b5 => ?_)
  refine Rx.walk 4 (pc' := 32) (L' := [some (.ref 0), some (.int (iz 4)), some (.int (iz 0)), some (.int (iz 0)), some (.int (iz 0)), some (.int (iz 0))]) (st' := [.int (iz 0), .ref 22, .int (iz 0)]) (h' := cmH z zl (uf f 22 od) fl tx) rfl ?_
  refine Rx.ial (g := od) rfl rfl (by omega) (by omega) (by omega) ?_
  rw [show (od 0) = 1 from h0]
  refine Rx.eq2 rfl rfl ⟨by omega, by omega⟩ ⟨by omega, by omega⟩ (fun b6 => by omega) (fun b6 => ?_)
  refine Rx.walk 3 (pc' := 40) (L' := [some (.ref 0), some (.int (iz 4)), some (.int (iz 0)), some (.int (iz 0)), some (.int (iz 0)), some (.int (iz 0))]) (st' := [.int (iz 0), .int (iz 0), .int (iz 0)]) (h' := cmH z zl (uf f 22 od) fl tx) rfl ?_
  refine Rx.callx (m' := m_X12_has) (as := [.int (iz 0), .int (iz 0)]) (rest := [.int (iz 0)]) rfl (n_has_0_0 _ (cmH z zl (uf f 22 od) fl tx)   ) (fun v7 h8 q9 => ?_)
  obtain ⟨rfl, rfl⟩ := q9
  refine Rx.walk 0 (pc' := 43) (L' := [some (.ref 0), some (.int (iz 4)), some (.int (iz 0)), some (.int (iz 0)), some (.int (iz 0)), some (.int (iz 0))]) (st' := [.int (iz 0), .int (iz 0)]) (h' := cmH z zl (uf f 22 od) fl tx) rfl ?_
  refine Rx.eq1 rfl rfl ⟨by omega, by omega⟩ (fun b10 => ?_) (fun b10 => by omega)
  refine Rx.walk 1 (pc' := 51) (L' := [some (.ref 0), some (.int (iz 4)), some (.int (iz 0)), some (.int (iz 0)), some (.int (iz 0)), some (.int (iz 0))]) (st' := [.int (iz 1), .int (iz 0)]) (h' := cmH z zl (uf f 22 od) fl tx) rfl ?_
  refine Rx.iadd rfl ?_
  refine Rx.walk 0 (pc' := 52) (L' := [some (.ref 0), some (.int (iz 4)), some (.int (iz 0)), some (.int (iz 0)), some (.int (iz 0)), some (.int (iz 0))]) (st' := [.int (iz 1)]) (h' := cmH z zl (uf f 22 od) fl tx) rfl ?_
  refine Rx.walk 3 (pc' := 55) (L' := [some (.ref 0), some (.int (iz 4)), some (.int (iz 1)), some (.int (iz 0)), some (.int (iz 0)), some (.int (iz 0))]) (st' := [.int (iz 1), .int (iz 0)]) (h' := cmH z zl (uf f 22 od) fl tx) rfl ?_
  refine Rx.iadd rfl ?_
  refine Rx.walk 0 (pc' := 56) (L' := [some (.ref 0), some (.int (iz 4)), some (.int (iz 1)), some (.int (iz 0)), some (.int (iz 0)), some (.int (iz 0))]) (st' := [.int (iz 1)]) (h' := cmH z zl (uf f 22 od) fl tx) rfl ?_
  refine Rx.walk 1 (pc' := 57) (L' := [some (.ref 0), some (.int (iz 4)), some (.int (iz 1)), some (.int (iz 0)), some (.int (iz 0)), some (.int (iz 0))]) (st' := [.int (iz 4), .int (iz 1)]) (h' := cmH z zl (uf f 22 od) fl tx) rfl ?_
  refine Rx.irem rfl ⟨by omega, by omega⟩ ⟨by omega, by omega⟩ (by omega) (by omega) ?_
  refine Rx.walk 4 (pc' := 19) (L' := [some (.ref 0), some (.int (iz 4)), some (.int (iz 1)), some (.int (iz 1)), some (.int (iz 0)), some (.int (iz 0))]) (st' := [.int (iz 1), .int (iz 0)]) (h' := cmH z zl (uf f 22 od) fl tx) rfl ?_
  refine Rx.callx (m' := m_X12_has) (as := [.int (iz 0), .int (iz 1)]) (rest := []) rfl (n_has_0_1 _ (cmH z zl (uf f 22 od) fl tx)   ) (fun v11 h12 q13 => ?_)
  obtain ⟨rfl, rfl⟩ := q13
  refine Rx.walk 0 (pc' := 22) (L' := [some (.ref 0), some (.int (iz 4)), some (.int (iz 1)), some (.int (iz 1)), some (.int (iz 0)), some (.int (iz 0))]) (st' := [.int (iz 0)]) (h' := cmH z zl (uf f 22 od) fl tx) rfl ?_
  refine Rx.ne1 rfl rfl ⟨by omega, by omega⟩ (fun b14 => by omega) (fun b14 => ?_)
  refine Rx.walk 4 (pc' := 32) (L' := [some (.ref 0), some (.int (iz 4)), some (.int (iz 1)), some (.int (iz 1)), some (.int (iz 0)), some (.int (iz 0))]) (st' := [.int (iz 0), .ref 22, .int (iz 1)]) (h' := cmH z zl (uf f 22 od) fl tx) rfl ?_
  refine Rx.ial (g := od) rfl rfl (by omega) (by omega) (by omega) ?_
  rw [show (od 0) = 1 from h0]
  refine Rx.eq2 rfl rfl ⟨by omega, by omega⟩ ⟨by omega, by omega⟩ (fun b15 => ?_) (fun b15 => by omega)
  refine Rx.walk 3 (pc' := 66) (L' := [some (.ref 0), some (.int (iz 4)), some (.int (iz 1)), some (.int (iz 1)), some (.int (iz 0)), some (.int (iz 0))]) (st' := [.int (iz 1), .int (iz 1), .int (iz 0)]) (h' := cmH z zl (uf f 22 od) fl tx) rfl ?_
  refine Rx.ishl (c := 2) rfl (by decide) ?_
  refine Rx.ior (c := 2) rfl (by decide) ?_
  refine Rx.walk 1 (pc' := 70) (L' := [some (.ref 0), some (.int (iz 4)), some (.int (iz 1)), some (.int (iz 1)), some (.int (iz 2)), some (.int (iz 0))]) (st' := []) (h' := cmH z zl (uf f 22 od) fl tx) rfl ?_
  refine Rx.iinc (b := 1) rfl rfl rfl ?_
  refine Rx.walk 0 (pc' := 73) (L' := [some (.ref 0), some (.int (iz 4)), some (.int (iz 1)), some (.int (iz 1)), some (.int (iz 2)), some (.int (iz 1))]) (st' := []) (h' := cmH z zl (uf f 22 od) fl tx) rfl ?_
  refine Rx.walk 3 (pc' := 13) (L' := [some (.ref 0), some (.int (iz 4)), some (.int (iz 1)), some (.int (iz 1)), some (.int (iz 2)), some (.int (iz 1))]) (st' := [.int (iz 4), .int (iz 1)]) (h' := cmH z zl (uf f 22 od) fl tx) rfl ?_
  refine Rx.ge2 rfl rfl ⟨by omega, by omega⟩ ⟨by omega, by omega⟩ (fun b16 => by omega) (fun b16 => ?_)
  refine Rx.walk 2 (pc' := 19) (L' := [some (.ref 0), some (.int (iz 4)), some (.int (iz 1)), some (.int (iz 1)), some (.int (iz 2)), some (.int (iz 1))]) (st' := [.int (iz 1), .int (iz 2)]) (h' := cmH z zl (uf f 22 od) fl tx) rfl ?_
  refine Rx.callx (m' := m_X12_has) (as := [.int (iz 2), .int (iz 1)]) (rest := []) rfl (n_has_2_1 _ (cmH z zl (uf f 22 od) fl tx)   ) (fun v17 h18 q19 => ?_)
  obtain ⟨rfl, rfl⟩ := q19
  refine Rx.walk 0 (pc' := 22) (L' := [some (.ref 0), some (.int (iz 4)), some (.int (iz 1)), some (.int (iz 1)), some (.int (iz 2)), some (.int (iz 1))]) (st' := [.int (iz 1)]) (h' := cmH z zl (uf f 22 od) fl tx) rfl ?_
  refine Rx.ne1 rfl rfl ⟨by omega, by omega⟩ (fun b20 => ?_) (fun b20 => by omega)
  refine Rx.walk 3 (pc' := 40) (L' := [some (.ref 0), some (.int (iz 4)), some (.int (iz 1)), some (.int (iz 1)), some (.int (iz 2)), some (.int (iz 1))]) (st' := [.int (iz 1), .int (iz 2), .int (iz 1)]) (h' := cmH z zl (uf f 22 od) fl tx) rfl ?_
  refine Rx.callx (m' := m_X12_has) (as := [.int (iz 2), .int (iz 1)]) (rest := [.int (iz 1)]) rfl (n_has_2_1 _ (cmH z zl (uf f 22 od) fl tx)   ) (fun v21 h22 q23 => ?_)
  obtain ⟨rfl, rfl⟩ := q23
  refine Rx.walk 0 (pc' := 43) (L' := [some (.ref 0), some (.int (iz 4)), some (.int (iz 1)), some (.int (iz 1)), some (.int (iz 2)), some (.int (iz 1))]) (st' := [.int (iz 1), .int (iz 1)]) (h' := cmH z zl (uf f 22 od) fl tx) rfl ?_
  refine Rx.eq1 rfl rfl ⟨by omega, by omega⟩ (fun b24 => by omega) (fun b24 => ?_)
  refine Rx.walk 2 (pc' := 51) (L' := [some (.ref 0), some (.int (iz 4)), some (.int (iz 1)), some (.int (iz 1)), some (.int (iz 2)), some (.int (iz 1))]) (st' := [.int (iz 0), .int (iz 1)]) (h' := cmH z zl (uf f 22 od) fl tx) rfl ?_
  refine Rx.iadd rfl ?_
  refine Rx.walk 0 (pc' := 52) (L' := [some (.ref 0), some (.int (iz 4)), some (.int (iz 1)), some (.int (iz 1)), some (.int (iz 2)), some (.int (iz 1))]) (st' := [.int (iz 1)]) (h' := cmH z zl (uf f 22 od) fl tx) rfl ?_
  refine Rx.walk 3 (pc' := 55) (L' := [some (.ref 0), some (.int (iz 4)), some (.int (iz 1)), some (.int (iz 1)), some (.int (iz 2)), some (.int (iz 1))]) (st' := [.int (iz 1), .int (iz 1)]) (h' := cmH z zl (uf f 22 od) fl tx) rfl ?_
  refine Rx.iadd rfl ?_
  refine Rx.walk 0 (pc' := 56) (L' := [some (.ref 0), some (.int (iz 4)), some (.int (iz 1)), some (.int (iz 1)), some (.int (iz 2)), some (.int (iz 1))]) (st' := [.int (iz 2)]) (h' := cmH z zl (uf f 22 od) fl tx) rfl ?_
  refine Rx.walk 1 (pc' := 57) (L' := [some (.ref 0), some (.int (iz 4)), some (.int (iz 1)), some (.int (iz 1)), some (.int (iz 2)), some (.int (iz 1))]) (st' := [.int (iz 4), .int (iz 2)]) (h' := cmH z zl (uf f 22 od) fl tx) rfl ?_
  refine Rx.irem rfl ⟨by omega, by omega⟩ ⟨by omega, by omega⟩ (by omega) (by omega) ?_
  refine Rx.walk 4 (pc' := 19) (L' := [some (.ref 0), some (.int (iz 4)), some (.int (iz 1)), some (.int (iz 2)), some (.int (iz 2)), some (.int (iz 1))]) (st' := [.int (iz 2), .int (iz 2)]) (h' := cmH z zl (uf f 22 od) fl tx) rfl ?_
  refine Rx.callx (m' := m_X12_has) (as := [.int (iz 2), .int (iz 2)]) (rest := []) rfl (n_has_2_2 _ (cmH z zl (uf f 22 od) fl tx)   ) (fun v25 h26 q27 => ?_)
  obtain ⟨rfl, rfl⟩ := q27
  refine Rx.walk 0 (pc' := 22) (L' := [some (.ref 0), some (.int (iz 4)), some (.int (iz 1)), some (.int (iz 2)), some (.int (iz 2)), some (.int (iz 1))]) (st' := [.int (iz 0)]) (h' := cmH z zl (uf f 22 od) fl tx) rfl ?_
  refine Rx.ne1 rfl rfl ⟨by omega, by omega⟩ (fun b28 => by omega) (fun b28 => ?_)
  refine Rx.walk 4 (pc' := 32) (L' := [some (.ref 0), some (.int (iz 4)), some (.int (iz 1)), some (.int (iz 2)), some (.int (iz 2)), some (.int (iz 1))]) (st' := [.int (iz 1), .ref 22, .int (iz 2)]) (h' := cmH z zl (uf f 22 od) fl tx) rfl ?_
  refine Rx.ial (g := od) rfl rfl (by omega) (by omega) (by omega) ?_
  rw [show (od 1) = 3 from h1]
  refine Rx.eq2 rfl rfl ⟨by omega, by omega⟩ ⟨by omega, by omega⟩ (fun b29 => by omega) (fun b29 => ?_)
  refine Rx.walk 3 (pc' := 40) (L' := [some (.ref 0), some (.int (iz 4)), some (.int (iz 1)), some (.int (iz 2)), some (.int (iz 2)), some (.int (iz 1))]) (st' := [.int (iz 2), .int (iz 2), .int (iz 1)]) (h' := cmH z zl (uf f 22 od) fl tx) rfl ?_
  refine Rx.callx (m' := m_X12_has) (as := [.int (iz 2), .int (iz 2)]) (rest := [.int (iz 1)]) rfl (n_has_2_2 _ (cmH z zl (uf f 22 od) fl tx)   ) (fun v30 h31 q32 => ?_)
  obtain ⟨rfl, rfl⟩ := q32
  refine Rx.walk 0 (pc' := 43) (L' := [some (.ref 0), some (.int (iz 4)), some (.int (iz 1)), some (.int (iz 2)), some (.int (iz 2)), some (.int (iz 1))]) (st' := [.int (iz 0), .int (iz 1)]) (h' := cmH z zl (uf f 22 od) fl tx) rfl ?_
  refine Rx.eq1 rfl rfl ⟨by omega, by omega⟩ (fun b33 => ?_) (fun b33 => by omega)
  refine Rx.walk 1 (pc' := 51) (L' := [some (.ref 0), some (.int (iz 4)), some (.int (iz 1)), some (.int (iz 2)), some (.int (iz 2)), some (.int (iz 1))]) (st' := [.int (iz 1), .int (iz 1)]) (h' := cmH z zl (uf f 22 od) fl tx) rfl ?_
  refine Rx.iadd rfl ?_
  refine Rx.walk 0 (pc' := 52) (L' := [some (.ref 0), some (.int (iz 4)), some (.int (iz 1)), some (.int (iz 2)), some (.int (iz 2)), some (.int (iz 1))]) (st' := [.int (iz 2)]) (h' := cmH z zl (uf f 22 od) fl tx) rfl ?_
  refine Rx.walk 3 (pc' := 55) (L' := [some (.ref 0), some (.int (iz 4)), some (.int (iz 2)), some (.int (iz 2)), some (.int (iz 2)), some (.int (iz 1))]) (st' := [.int (iz 1), .int (iz 2)]) (h' := cmH z zl (uf f 22 od) fl tx) rfl ?_
  refine Rx.iadd rfl ?_
  refine Rx.walk 0 (pc' := 56) (L' := [some (.ref 0), some (.int (iz 4)), some (.int (iz 2)), some (.int (iz 2)), some (.int (iz 2)), some (.int (iz 1))]) (st' := [.int (iz 3)]) (h' := cmH z zl (uf f 22 od) fl tx) rfl ?_
  refine Rx.walk 1 (pc' := 57) (L' := [some (.ref 0), some (.int (iz 4)), some (.int (iz 2)), some (.int (iz 2)), some (.int (iz 2)), some (.int (iz 1))]) (st' := [.int (iz 4), .int (iz 3)]) (h' := cmH z zl (uf f 22 od) fl tx) rfl ?_
  refine Rx.irem rfl ⟨by omega, by omega⟩ ⟨by omega, by omega⟩ (by omega) (by omega) ?_
  refine Rx.walk 4 (pc' := 19) (L' := [some (.ref 0), some (.int (iz 4)), some (.int (iz 2)), some (.int (iz 3)), some (.int (iz 2)), some (.int (iz 1))]) (st' := [.int (iz 3), .int (iz 2)]) (h' := cmH z zl (uf f 22 od) fl tx) rfl ?_
  refine Rx.callx (m' := m_X12_has) (as := [.int (iz 2), .int (iz 3)]) (rest := []) rfl (n_has_2_3 _ (cmH z zl (uf f 22 od) fl tx)   ) (fun v34 h35 q36 => ?_)
  obtain ⟨rfl, rfl⟩ := q36
  refine Rx.walk 0 (pc' := 22) (L' := [some (.ref 0), some (.int (iz 4)), some (.int (iz 2)), some (.int (iz 3)), some (.int (iz 2)), some (.int (iz 1))]) (st' := [.int (iz 0)]) (h' := cmH z zl (uf f 22 od) fl tx) rfl ?_
  refine Rx.ne1 rfl rfl ⟨by omega, by omega⟩ (fun b37 => by omega) (fun b37 => ?_)
  refine Rx.walk 4 (pc' := 32) (L' := [some (.ref 0), some (.int (iz 4)), some (.int (iz 2)), some (.int (iz 3)), some (.int (iz 2)), some (.int (iz 1))]) (st' := [.int (iz 1), .ref 22, .int (iz 3)]) (h' := cmH z zl (uf f 22 od) fl tx) rfl ?_
  refine Rx.ial (g := od) rfl rfl (by omega) (by omega) (by omega) ?_
  rw [show (od 1) = 3 from h1]
  refine Rx.eq2 rfl rfl ⟨by omega, by omega⟩ ⟨by omega, by omega⟩ (fun b38 => ?_) (fun b38 => by omega)
  refine Rx.walk 3 (pc' := 66) (L' := [some (.ref 0), some (.int (iz 4)), some (.int (iz 2)), some (.int (iz 3)), some (.int (iz 2)), some (.int (iz 1))]) (st' := [.int (iz 3), .int (iz 1), .int (iz 2)]) (h' := cmH z zl (uf f 22 od) fl tx) rfl ?_
  refine Rx.ishl (c := 8) rfl (by decide) ?_
  refine Rx.ior (c := 10) rfl (by decide) ?_
  refine Rx.walk 1 (pc' := 70) (L' := [some (.ref 0), some (.int (iz 4)), some (.int (iz 2)), some (.int (iz 3)), some (.int (iz 10)), some (.int (iz 1))]) (st' := []) (h' := cmH z zl (uf f 22 od) fl tx) rfl ?_
  refine Rx.iinc (b := 1) rfl rfl rfl ?_
  refine Rx.walk 0 (pc' := 73) (L' := [some (.ref 0), some (.int (iz 4)), some (.int (iz 2)), some (.int (iz 3)), some (.int (iz 10)), some (.int (iz 2))]) (st' := []) (h' := cmH z zl (uf f 22 od) fl tx) rfl ?_
  refine Rx.walk 3 (pc' := 13) (L' := [some (.ref 0), some (.int (iz 4)), some (.int (iz 2)), some (.int (iz 3)), some (.int (iz 10)), some (.int (iz 2))]) (st' := [.int (iz 4), .int (iz 2)]) (h' := cmH z zl (uf f 22 od) fl tx) rfl ?_
  refine Rx.ge2 rfl rfl ⟨by omega, by omega⟩ ⟨by omega, by omega⟩ (fun b39 => by omega) (fun b39 => ?_)
  refine Rx.walk 2 (pc' := 19) (L' := [some (.ref 0), some (.int (iz 4)), some (.int (iz 2)), some (.int (iz 3)), some (.int (iz 10)), some (.int (iz 2))]) (st' := [.int (iz 3), .int (iz 10)]) (h' := cmH z zl (uf f 22 od) fl tx) rfl ?_
  refine Rx.callx (m' := m_X12_has) (as := [.int (iz 10), .int (iz 3)]) (rest := []) rfl (n_has_10_3 _ (cmH z zl (uf f 22 od) fl tx)   ) (fun v40 h41 q42 => ?_)
  obtain ⟨rfl, rfl⟩ := q42
  refine Rx.walk 0 (pc' := 22) (L' := [some (.ref 0), some (.int (iz 4)), some (.int (iz 2)), some (.int (iz 3)), some (.int (iz 10)), some (.int (iz 2))]) (st' := [.int (iz 1)]) (h' := cmH z zl (uf f 22 od) fl tx) rfl ?_
  refine Rx.ne1 rfl rfl ⟨by omega, by omega⟩ (fun b43 => ?_) (fun b43 => by omega)
  refine Rx.walk 3 (pc' := 40) (L' := [some (.ref 0), some (.int (iz 4)), some (.int (iz 2)), some (.int (iz 3)), some (.int (iz 10)), some (.int (iz 2))]) (st' := [.int (iz 3), .int (iz 10), .int (iz 2)]) (h' := cmH z zl (uf f 22 od) fl tx) rfl ?_
  refine Rx.callx (m' := m_X12_has) (as := [.int (iz 10), .int (iz 3)]) (rest := [.int (iz 2)]) rfl (n_has_10_3 _ (cmH z zl (uf f 22 od) fl tx)   ) (fun v44 h45 q46 => ?_)
  obtain ⟨rfl, rfl⟩ := q46
  refine Rx.walk 0 (pc' := 43) (L' := [some (.ref 0), some (.int (iz 4)), some (.int (iz 2)), some (.int (iz 3)), some (.int (iz 10)), some (.int (iz 2))]) (st' := [.int (iz 1), .int (iz 2)]) (h' := cmH z zl (uf f 22 od) fl tx) rfl ?_
  refine Rx.eq1 rfl rfl ⟨by omega, by omega⟩ (fun b47 => by omega) (fun b47 => ?_)
  refine Rx.walk 2 (pc' := 51) (L' := [some (.ref 0), some (.int (iz 4)), some (.int (iz 2)), some (.int (iz 3)), some (.int (iz 10)), some (.int (iz 2))]) (st' := [.int (iz 0), .int (iz 2)]) (h' := cmH z zl (uf f 22 od) fl tx) rfl ?_
  refine Rx.iadd rfl ?_
  refine Rx.walk 0 (pc' := 52) (L' := [some (.ref 0), some (.int (iz 4)), some (.int (iz 2)), some (.int (iz 3)), some (.int (iz 10)), some (.int (iz 2))]) (st' := [.int (iz 2)]) (h' := cmH z zl (uf f 22 od) fl tx) rfl ?_
  refine Rx.walk 3 (pc' := 55) (L' := [some (.ref 0), some (.int (iz 4)), some (.int (iz 2)), some (.int (iz 3)), some (.int (iz 10)), some (.int (iz 2))]) (st' := [.int (iz 1), .int (iz 3)]) (h' := cmH z zl (uf f 22 od) fl tx) rfl ?_
  refine Rx.iadd rfl ?_
  refine Rx.walk 0 (pc' := 56) (L' := [some (.ref 0), some (.int (iz 4)), some (.int (iz 2)), some (.int (iz 3)), some (.int (iz 10)), some (.int (iz 2))]) (st' := [.int (iz 4)]) (h' := cmH z zl (uf f 22 od) fl tx) rfl ?_
  refine Rx.walk 1 (pc' := 57) (L' := [some (.ref 0), some (.int (iz 4)), some (.int (iz 2)), some (.int (iz 3)), some (.int (iz 10)), some (.int (iz 2))]) (st' := [.int (iz 4), .int (iz 4)]) (h' := cmH z zl (uf f 22 od) fl tx) rfl ?_
  refine Rx.irem rfl ⟨by omega, by omega⟩ ⟨by omega, by omega⟩ (by omega) (by omega) ?_
  refine Rx.walk 4 (pc' := 19) (L' := [some (.ref 0), some (.int (iz 4)), some (.int (iz 2)), some (.int (iz 0)), some (.int (iz 10)), some (.int (iz 2))]) (st' := [.int (iz 0), .int (iz 10)]) (h' := cmH z zl (uf f 22 od) fl tx) rfl ?_
  refine Rx.callx (m' := m_X12_has) (as := [.int (iz 10), .int (iz 0)]) (rest := []) rfl (n_has_10_0 _ (cmH z zl (uf f 22 od) fl tx)   ) (fun v48 h49 q50 => ?_)
  obtain ⟨rfl, rfl⟩ := q50
  refine Rx.walk 0 (pc' := 22) (L' := [some (.ref 0), some (.int (iz 4)), some (.int (iz 2)), some (.int (iz 0)), some (.int (iz 10)), some (.int (iz 2))]) (st' := [.int (iz 0)]) (h' := cmH z zl (uf f 22 od) fl tx) rfl ?_
  refine Rx.ne1 rfl rfl ⟨by omega, by omega⟩ (fun b51 => by omega) (fun b51 => ?_)
  refine Rx.walk 4 (pc' := 32) (L' := [some (.ref 0), some (.int (iz 4)), some (.int (iz 2)), some (.int (iz 0)), some (.int (iz 10)), some (.int (iz 2))]) (st' := [.int (iz 2), .ref 22, .int (iz 0)]) (h' := cmH z zl (uf f 22 od) fl tx) rfl ?_
  refine Rx.ial (g := od) rfl rfl (by omega) (by omega) (by omega) ?_
  rw [show (od 2) = 0 from h2]
  refine Rx.eq2 rfl rfl ⟨by omega, by omega⟩ ⟨by omega, by omega⟩ (fun b52 => ?_) (fun b52 => by omega)
  refine Rx.walk 3 (pc' := 66) (L' := [some (.ref 0), some (.int (iz 4)), some (.int (iz 2)), some (.int (iz 0)), some (.int (iz 10)), some (.int (iz 2))]) (st' := [.int (iz 0), .int (iz 1), .int (iz 10)]) (h' := cmH z zl (uf f 22 od) fl tx) rfl ?_
  refine Rx.ishl (c := 1) rfl (by decide) ?_
  refine Rx.ior (c := 11) rfl (by decide) ?_
  refine Rx.walk 1 (pc' := 70) (L' := [some (.ref 0), some (.int (iz 4)), some (.int (iz 2)), some (.int (iz 0)), some (.int (iz 11)), some (.int (iz 2))]) (st' := []) (h' := cmH z zl (uf f 22 od) fl tx) rfl ?_
  refine Rx.iinc (b := 1) rfl rfl rfl ?_
  refine Rx.walk 0 (pc' := 73) (L' := [some (.ref 0), some (.int (iz 4)), some (.int (iz 2)), some (.int (iz 0)), some (.int (iz 11)), some (.int (iz 3))]) (st' := []) (h' := cmH z zl (uf f 22 od) fl tx) rfl ?_
  refine Rx.walk 3 (pc' := 13) (L' := [some (.ref 0), some (.int (iz 4)), some (.int (iz 2)), some (.int (iz 0)), some (.int (iz 11)), some (.int (iz 3))]) (st' := [.int (iz 4), .int (iz 3)]) (h' := cmH z zl (uf f 22 od) fl tx) rfl ?_
  refine Rx.ge2 rfl rfl ⟨by omega, by omega⟩ ⟨by omega, by omega⟩ (fun b53 => by omega) (fun b53 => ?_)
  refine Rx.walk 2 (pc' := 19) (L' := [some (.ref 0), some (.int (iz 4)), some (.int (iz 2)), some (.int (iz 0)), some (.int (iz 11)), some (.int (iz 3))]) (st' := [.int (iz 0), .int (iz 11)]) (h' := cmH z zl (uf f 22 od) fl tx) rfl ?_
  refine Rx.callx (m' := m_X12_has) (as := [.int (iz 11), .int (iz 0)]) (rest := []) rfl (n_has_11_0 _ (cmH z zl (uf f 22 od) fl tx)   ) (fun v54 h55 q56 => ?_)
  obtain ⟨rfl, rfl⟩ := q56
  refine Rx.walk 0 (pc' := 22) (L' := [some (.ref 0), some (.int (iz 4)), some (.int (iz 2)), some (.int (iz 0)), some (.int (iz 11)), some (.int (iz 3))]) (st' := [.int (iz 1)]) (h' := cmH z zl (uf f 22 od) fl tx) rfl ?_
  refine Rx.ne1 rfl rfl ⟨by omega, by omega⟩ (fun b57 => ?_) (fun b57 => by omega)
  refine Rx.walk 3 (pc' := 40) (L' := [some (.ref 0), some (.int (iz 4)), some (.int (iz 2)), some (.int (iz 0)), some (.int (iz 11)), some (.int (iz 3))]) (st' := [.int (iz 0), .int (iz 11), .int (iz 2)]) (h' := cmH z zl (uf f 22 od) fl tx) rfl ?_
  refine Rx.callx (m' := m_X12_has) (as := [.int (iz 11), .int (iz 0)]) (rest := [.int (iz 2)]) rfl (n_has_11_0 _ (cmH z zl (uf f 22 od) fl tx)   ) (fun v58 h59 q60 => ?_)
  obtain ⟨rfl, rfl⟩ := q60
  refine Rx.walk 0 (pc' := 43) (L' := [some (.ref 0), some (.int (iz 4)), some (.int (iz 2)), some (.int (iz 0)), some (.int (iz 11)), some (.int (iz 3))]) (st' := [.int (iz 1), .int (iz 2)]) (h' := cmH z zl (uf f 22 od) fl tx) rfl ?_
  refine Rx.eq1 rfl rfl ⟨by omega, by omega⟩ (fun b61 => by omega) (fun b61 => ?_)
  refine Rx.walk 2 (pc' := 51) (L' := [some (.ref 0), some (.int (iz 4)), some (.int (iz 2)), some (.int (iz 0)), some (.int (iz 11)), some (.int (iz 3))]) (st' := [.int (iz 0), .int (iz 2)]) (h' := cmH z zl (uf f 22 od) fl tx) rfl ?_
  refine Rx.iadd rfl ?_
  refine Rx.walk 0 (pc' := 52) (L' := [some (.ref 0), some (.int (iz 4)), some (.int (iz 2)), some (.int (iz 0)), some (.int (iz 11)), some (.int (iz 3))]) (st' := [.int (iz 2)]) (h' := cmH z zl (uf f 22 od) fl tx) rfl ?_
  refine Rx.walk 3 (pc' := 55) (L' := [some (.ref 0), some (.int (iz 4)), some (.int (iz 2)), some (.int (iz 0)), some (.int (iz 11)), some (.int (iz 3))]) (st' := [.int (iz 1), .int (iz 0)]) (h' := cmH z zl (uf f 22 od) fl tx) rfl ?_
  refine Rx.iadd rfl ?_
  refine Rx.walk 0 (pc' := 56) (L' := [some (.ref 0), some (.int (iz 4)), some (.int (iz 2)), some (.int (iz 0)), some (.int (iz 11)), some (.int (iz 3))]) (st' := [.int (iz 1)]) (h' := cmH z zl (uf f 22 od) fl tx) rfl ?_
  refine Rx.walk 1 (pc' := 57) (L' := [some (.ref 0), some (.int (iz 4)), some (.int (iz 2)), some (.int (iz 0)), some (.int (iz 11)), some (.int (iz 3))]) (st' := [.int (iz 4), .int (iz 1)]) (h' := cmH z zl (uf f 22 od) fl tx) rfl ?_
  refine Rx.irem rfl ⟨by omega, by omega⟩ ⟨by omega, by omega⟩ (by omega) (by omega) ?_
  refine Rx.walk 4 (pc' := 19) (L' := [some (.ref 0), some (.int (iz 4)), some (.int (iz 2)), some (.int (iz 1)), some (.int (iz 11)), some (.int (iz 3))]) (st' := [.int (iz 1), .int (iz 11)]) (h' := cmH z zl (uf f 22 od) fl tx) rfl ?_
  refine Rx.callx (m' := m_X12_has) (as := [.int (iz 11), .int (iz 1)]) (rest := []) rfl (n_has_11_1 _ (cmH z zl (uf f 22 od) fl tx)   ) (fun v62 h63 q64 => ?_)
  obtain ⟨rfl, rfl⟩ := q64
  refine Rx.walk 0 (pc' := 22) (L' := [some (.ref 0), some (.int (iz 4)), some (.int (iz 2)), some (.int (iz 1)), some (.int (iz 11)), some (.int (iz 3))]) (st' := [.int (iz 1)]) (h' := cmH z zl (uf f 22 od) fl tx) rfl ?_
  refine Rx.ne1 rfl rfl ⟨by omega, by omega⟩ (fun b65 => ?_) (fun b65 => by omega)
  refine Rx.walk 3 (pc' := 40) (L' := [some (.ref 0), some (.int (iz 4)), some (.int (iz 2)), some (.int (iz 1)), some (.int (iz 11)), some (.int (iz 3))]) (st' := [.int (iz 1), .int (iz 11), .int (iz 2)]) (h' := cmH z zl (uf f 22 od) fl tx) rfl ?_
  refine Rx.callx (m' := m_X12_has) (as := [.int (iz 11), .int (iz 1)]) (rest := [.int (iz 2)]) rfl (n_has_11_1 _ (cmH z zl (uf f 22 od) fl tx)   ) (fun v66 h67 q68 => ?_)
  obtain ⟨rfl, rfl⟩ := q68
  refine Rx.walk 0 (pc' := 43) (L' := [some (.ref 0), some (.int (iz 4)), some (.int (iz 2)), some (.int (iz 1)), some (.int (iz 11)), some (.int (iz 3))]) (st' := [.int (iz 1), .int (iz 2)]) (h' := cmH z zl (uf f 22 od) fl tx) rfl ?_
  refine Rx.eq1 rfl rfl ⟨by omega, by omega⟩ (fun b69 => by omega) (fun b69 => ?_)
  refine Rx.walk 2 (pc' := 51) (L' := [some (.ref 0), some (.int (iz 4)), some (.int (iz 2)), some (.int (iz 1)), some (.int (iz 11)), some (.int (iz 3))]) (st' := [.int (iz 0), .int (iz 2)]) (h' := cmH z zl (uf f 22 od) fl tx) rfl ?_
  refine Rx.iadd rfl ?_
  refine Rx.walk 0 (pc' := 52) (L' := [some (.ref 0), some (.int (iz 4)), some (.int (iz 2)), some (.int (iz 1)), some (.int (iz 11)), some (.int (iz 3))]) (st' := [.int (iz 2)]) (h' := cmH z zl (uf f 22 od) fl tx) rfl ?_
  refine Rx.walk 3 (pc' := 55) (L' := [some (.ref 0), some (.int (iz 4)), some (.int (iz 2)), some (.int (iz 1)), some (.int (iz 11)), some (.int (iz 3))]) (st' := [.int (iz 1), .int (iz 1)]) (h' := cmH z zl (uf f 22 od) fl tx) rfl ?_
  refine Rx.iadd rfl ?_
  refine Rx.walk 0 (pc' := 56) (L' := [some (.ref 0), some (.int (iz 4)), some (.int (iz 2)), some (.int (iz 1)), some (.int (iz 11)), some (.int (iz 3))]) (st' := [.int (iz 2)]) (h' := cmH z zl (uf f 22 od) fl tx) rfl ?_
  refine Rx.walk 1 (pc' := 57) (L' := [some (.ref 0), some (.int (iz 4)), some (.int (iz 2)), some (.int (iz 1)), some (.int (iz 11)), some (.int (iz 3))]) (st' := [.int (iz 4), .int (iz 2)]) (h' := cmH z zl (uf f 22 od) fl tx) rfl ?_
  refine Rx.irem rfl ⟨by omega, by omega⟩ ⟨by omega, by omega⟩ (by omega) (by omega) ?_
  refine Rx.walk 4 (pc' := 19) (L' := [some (.ref 0), some (.int (iz 4)), some (.int (iz 2)), some (.int (iz 2)), some (.int (iz 11)), some (.int (iz 3))]) (st' := [.int (iz 2), .int (iz 11)]) (h' := cmH z zl (uf f 22 od) fl tx) rfl ?_
  refine Rx.callx (m' := m_X12_has) (as := [.int (iz 11), .int (iz 2)]) (rest := []) rfl (n_has_11_2 _ (cmH z zl (uf f 22 od) fl tx)   ) (fun v70 h71 q72 => ?_)
  obtain ⟨rfl, rfl⟩ := q72
  refine Rx.walk 0 (pc' := 22) (L' := [some (.ref 0), some (.int (iz 4)), some (.int (iz 2)), some (.int (iz 2)), some (.int (iz 11)), some (.int (iz 3))]) (st' := [.int (iz 0)]) (h' := cmH z zl (uf f 22 od) fl tx) rfl ?_
  refine Rx.ne1 rfl rfl ⟨by omega, by omega⟩ (fun b73 => by omega) (fun b73 => ?_)
  refine Rx.walk 4 (pc' := 32) (L' := [some (.ref 0), some (.int (iz 4)), some (.int (iz 2)), some (.int (iz 2)), some (.int (iz 11)), some (.int (iz 3))]) (st' := [.int (iz 3), .ref 22, .int (iz 2)]) (h' := cmH z zl (uf f 22 od) fl tx) rfl ?_
  refine Rx.ial (g := od) rfl rfl (by omega) (by omega) (by omega) ?_
  rw [show (od 3) = 2 from h3]
  refine Rx.eq2 rfl rfl ⟨by omega, by omega⟩ ⟨by omega, by omega⟩ (fun b74 => ?_) (fun b74 => by omega)
  refine Rx.walk 3 (pc' := 66) (L' := [some (.ref 0), some (.int (iz 4)), some (.int (iz 2)), some (.int (iz 2)), some (.int (iz 11)), some (.int (iz 3))]) (st' := [.int (iz 2), .int (iz 1), .int (iz 11)]) (h' := cmH z zl (uf f 22 od) fl tx) rfl ?_
  refine Rx.ishl (c := 4) rfl (by decide) ?_
  refine Rx.ior (c := 15) rfl (by decide) ?_
  refine Rx.walk 1 (pc' := 70) (L' := [some (.ref 0), some (.int (iz 4)), some (.int (iz 2)), some (.int (iz 2)), some (.int (iz 15)), some (.int (iz 3))]) (st' := []) (h' := cmH z zl (uf f 22 od) fl tx) rfl ?_
  refine Rx.iinc (b := 1) rfl rfl rfl ?_
  refine Rx.walk 0 (pc' := 73) (L' := [some (.ref 0), some (.int (iz 4)), some (.int (iz 2)), some (.int (iz 2)), some (.int (iz 15)), some (.int (iz 4))]) (st' := []) (h' := cmH z zl (uf f 22 od) fl tx) rfl ?_
  refine Rx.walk 3 (pc' := 13) (L' := [some (.ref 0), some (.int (iz 4)), some (.int (iz 2)), some (.int (iz 2)), some (.int (iz 15)), some (.int (iz 4))]) (st' := [.int (iz 4), .int (iz 4)]) (h' := cmH z zl (uf f 22 od) fl tx) rfl ?_
  refine Rx.ge2 rfl rfl ⟨by omega, by omega⟩ ⟨by omega, by omega⟩ (fun b75 => ?_) (fun b75 => by omega)
  refine Rx.walk 1 (pc' := 77) (L' := [some (.ref 0), some (.int (iz 4)), some (.int (iz 2)), some (.int (iz 2)), some (.int (iz 15)), some (.int (iz 4))]) (st' := [.int (iz 2)]) (h' := cmH z zl (uf f 22 od) fl tx) rfl ?_
  refine Rx.ret rfl ?_
  exact ⟨rfl, rfl⟩
set_option maxRecDepth 100000 in
set_option maxHeartbeats 4000000 in
theorem n_has_10_1 (d : Nat) (h0 : AmH)   : Rx (d) m_X12_has 0 (am_ent [.int (iz 10), .int (iz 1)] 2) [] (h0) (fun rv h => rv = some (.int (iz 1)) ∧ h0 = h) := ⟨_, _, ⟨100, rfl⟩, rfl, rfl⟩
set_option maxRecDepth 100000 in
set_option maxHeartbeats 4000000 in
theorem n_has_10_2 (d : Nat) (h0 : AmH)   : Rx (d) m_X12_has 0 (am_ent [.int (iz 10), .int (iz 2)] 2) [] (h0) (fun rv h => rv = some (.int (iz 0)) ∧ h0 = h) := ⟨_, _, ⟨100, rfl⟩, rfl, rfl⟩
set_option maxRecDepth 100000 in
set_option maxHeartbeats 4000000 in
theorem n_has_14_2 (d : Nat) (h0 : AmH)   : Rx (d) m_X12_has 0 (am_ent [.int (iz 14), .int (iz 2)] 2) [] (h0) (fun rv h => rv = some (.int (iz 1)) ∧ h0 = h) := ⟨_, _, ⟨100, rfl⟩, rfl, rfl⟩
set_option maxRecDepth 100000 in
set_option maxHeartbeats 4000000 in
theorem m_stepsOf4_11 (d : Nat) (z : Nat → Int) (zl : Nat → Int) (f : Nat → Int → Int) (fl : Nat → Int → Int) (tx : Nat)  (od : Int → Int) (h0 : od 0 = 1) (h1 : od 1 = 3) (h2 : od 2 = 2) (h3 : od 3 = 0) : Rx (d + 1) m_X12_stepsOf 0 (am_ent [.ref 0, .int (iz 4)] 6) [] (cmH z zl (uf f 22 od) fl tx) (fun rv h => rv = some (.int (iz 3)) ∧ h = cmH z zl (uf f 22 od) fl tx) := by
  refine Rx.walk 0 (pc' := 0) (L' := [some (.ref 0), some (.int (iz 4)), none, none, none, none]) (st' := []) (h' := cmH z zl (uf f 22 od) fl tx) rfl ?_
  refine Rx.walk 10 (pc' := 13) (L' := [some (.ref 0), some (.int (iz 4)), some (.int (iz 0)), some (.int (iz 0)), some (.int (iz 0)), some (.int (iz 0))]) (st' := [.int (iz 4), .int (iz 0)]) (h' := cmH z zl (uf f 22 od) fl tx) rfl ?_
  refine Rx.ge2 rfl rfl ⟨by omega, by omega⟩ ⟨by omega, by omega⟩ (fun b1 => by omega) (fun b1 => ?_)
  refine Rx.walk 2 (pc' := 19) (L' := [some (.ref 0), some (.int (iz 4)), some (.int (iz 0)), some (.int (iz 0)), some (.int (iz 0)), some (.int (iz 0))]) (st' := [.int (iz 0), .int (iz 0)]) (h' := cmH z zl (uf f 22 od) fl tx) rfl ?_
  refine Rx.callx (m' := m_X12_has) (as := [.int (iz 0), .int (iz 0)]) (rest := []) rfl (n_has_0_0 _ (cmH z zl (uf f 22 od) fl tx)   ) (fun v2 h3 q4 => ?_)
  obtain ⟨rfl, rfl⟩ := q4
  refine Rx.walk 0 (pc' := 22) (L' := [some (.ref 0), some (.int (iz 4)), some (.int (iz 0)), some (.int (iz 0)), some (.int (iz 0)), some (.int (iz 0))]) (st' := [.int (iz 0)]) (h' := cmH z zl (uf f 22 od) fl tx) rfl ?_
  refine Rx.ne1 rfl rfl ⟨by omega, by omega⟩ (fun b5 => by omega) (fun b5 => ?_)
  refine Rx.walk 4 (pc' := 32) (L' := [some (.ref 0), some (.int (iz 4)), some (.int (iz 0)), some (.int (iz 0)), some (.int (iz 0)), some (.int (iz 0))]) (st' := [.int (iz 0), .ref 22, .int (iz 0)]) (h' := cmH z zl (uf f 22 od) fl tx) rfl ?_
  refine Rx.ial (g := od) rfl rfl (by omega) (by omega) (by omega) ?_
  rw [show (od 0) = 1 from h0]
  refine Rx.eq2 rfl rfl ⟨by omega, by omega⟩ ⟨by omega, by omega⟩ (fun b6 => by omega) (fun b6 => ?_)
  refine Rx.walk 3 (pc' := 40) (L' := [some (.ref 0), some (.int (iz 4)), some (.int (iz 0)), some (.int (iz 0)), some (.int (iz 0)), some (.int (iz 0))]) (st' := [.int (iz 0), .int (iz 0), .int (iz 0)]) (h' := cmH z zl (uf f 22 od) fl tx) rfl ?_
  refine Rx.callx (m' := m_X12_has) (as := [.int (iz 0), .int (iz 0)]) (rest := [.int (iz 0)]) rfl (n_has_0_0 _ (cmH z zl (uf f 22 od) fl tx)   ) (fun v7 h8 q9 => ?_)
  obtain ⟨rfl, rfl⟩ := q9
  refine Rx.walk 0 (pc' := 43) (L' := [some (.ref 0), some (.int (iz 4)), some (.int (iz 0)), some (.int (iz 0)), some (.int (iz 0)), some (.int (iz 0))]) (st' := [.int (iz 0), .int (iz 0)]) (h' := cmH z zl (uf f 22 od) fl tx) rfl ?_
  refine Rx.eq1 rfl rfl ⟨by omega, by omega⟩ (fun b10 => ?_) (fun b10 => by omega)
  refine Rx.walk 1 (pc' := 51) (L' := [some (.ref 0), some (.int (iz 4)), some (.int (iz 0)), some (.int (iz 0)), some (.int (iz 0)), some (.int (iz 0))]) (st' := [.int (iz 1), .int (iz 0)]) (h' := cmH z zl (uf f 22 od) fl tx) rfl ?_
  refine Rx.iadd rfl ?_
  refine Rx.walk 0 (pc' := 52) (L' := [some (.ref 0), some (.int (iz 4)), some (.int (iz 0)), some (.int (iz 0)), some (.int (iz 0)), some (.int (iz 0))]) (st' := [.int (iz 1)]) (h' := cmH z zl (uf f 22 od) fl tx) rfl ?_
  refine Rx.walk 3 (pc' := 55) (L' := [some (.ref 0), some (.int (iz 4)), some (.int (iz 1)), some (.int (iz 0)), some (.int (iz 0)), some (.int (iz 0))]) (st' := [.int (iz 1), .int (iz 0)]) (h' := cmH z zl (uf f 22 od) fl tx) rfl ?_
  refine Rx.iadd rfl ?_
  refine Rx.walk 0 (pc' := 56) (L' := [some (.ref 0), some (.int (iz 4)), some (.int (iz 1)), some (.int (iz 0)), some (.int (iz 0)), some (.int (iz 0))]) (st' := [.int (iz 1)]) (h' := cmH z zl (uf f 22 od) fl tx) rfl ?_
  refine Rx.walk 1 (pc' := 57) (L' := [some (.ref 0), some (.int (iz 4)), some (.int (iz 1)), some (.int (iz 0)), some (.int (iz 0)), some (.int (iz 0))]) (st' := [.int (iz 4), .int (iz 1)]) (h' := cmH z zl (uf f 22 od) fl tx) rfl ?_
  refine Rx.irem rfl ⟨by omega, by omega⟩ ⟨by omega, by omega⟩ (by omega) (by omega) ?_
  refine Rx.walk 4 (pc' := 19) (L' := [some (.ref 0), some (.int (iz 4)), some (.int (iz 1)), some (.int (iz 1)), some (.int (iz 0)), some (.int (iz 0))]) (st' := [.int (iz 1), .int (iz 0)]) (h' := cmH z zl (uf f 22 od) fl tx) rfl ?_
  refine Rx.callx (m' := m_X12_has) (as := [.int (iz 0), .int (iz 1)]) (rest := []) rfl (n_has_0_1 _ (cmH z zl (uf f 22 od) fl tx)   ) (fun v11 h12 q13 => ?_)
  obtain ⟨rfl, rfl⟩ := q13
  refine Rx.walk 0 (pc' := 22) (L' := [some (.ref 0), some (.int (iz 4)), some (.int (iz 1)), some (.int (iz 1)), some (.int (iz 0)), some (.int (iz 0))]) (st' := [.int (iz 0)]) (h' := cmH z zl (uf f 22 od) fl tx) rfl ?_
  refine Rx.ne1 rfl rfl ⟨by omega, by omega⟩ (fun b14 => by omega) (fun b14 => ?_)
  refine Rx.walk 4 (pc' := 32) (L' := [some (.ref 0), some (.int (iz 4)), some (.int (iz 1)), some (.int (iz 1)), some (.int (iz 0)), some (.int (iz 0))]) (st' := [.int (iz 0), .ref 22, .int (iz 1)]) (h' := cmH z zl (uf f 22 od) fl tx) rfl ?_
  refine Rx.ial (g := od) rfl rfl (by omega) (by omega) (by omega) ?_
  rw [show (od 0) = 1 from h0]
  refine Rx.eq2 rfl rfl ⟨by omega, by omega⟩ ⟨by omega, by omega⟩ (fun b15 => ?_) (fun b15 => by omega)
  refine Rx.walk 3 (pc' := 66) (L' := [some (.ref 0), some (.int (iz 4)), some (.int (iz 1)), some (.int (iz 1)), some (.int (iz 0)), some (.int (iz 0))]) (st' := [.int (iz 1), .int (iz 1), .int (iz 0)]) (h' := cmH z zl (uf f 22 od) fl tx) rfl ?_
  refine Rx.ishl (c := 2) rfl (by decide) ?_
  refine Rx.ior (c := 2) rfl (by decide) ?_
  refine Rx.walk 1 (pc' := 70) (L' := [some (.ref 0), some (.int (iz 4)), some (.int (iz 1)), some (.int (iz 1)), some (.int (iz 2)), some (.int (iz 0))]) (st' := []) (h' := cmH z zl (uf f 22 od) fl tx) rfl ?_
  refine Rx.iinc (b := 1) rfl rfl rfl ?_
  refine Rx.walk 0 (pc' := 73) (L' := [some (.ref 0), some (.int (iz 4)), some (.int (iz 1)), some (.int (iz 1)), some (.int (iz 2)), some (.int (iz 1))]) (st' := []) (h' := cmH z zl (uf f 22 od) fl tx) rfl ?_
  refine Rx.walk 3 (pc' := 13) (L' := [some (.ref 0), some (.int (iz 4)), some (.int (iz 1)), some (.int (iz 1)), some (.int (iz 2)), some (.int (iz 1))]) (st' := [.int (iz 4), .int (iz 1)]) (h' := cmH z zl (uf f 22 od) fl tx) rfl ?_
  refine Rx.ge2 rfl rfl ⟨by omega, by omega⟩ ⟨by omega, by omega⟩ (fun b16 => by omega) (fun b16 => ?_)
  refine Rx.walk 2 (pc' := 19) (L' := [some (.ref 0), some (.int (iz 4)), some (.int (iz 1)), some (.int (iz 1)), some (.int (iz 2)), some (.int (iz 1))]) (st' := [.int (iz 1), .int (iz 2)]) (h' := cmH z zl (uf f 22 od) fl tx) rfl ?_
  refine Rx.callx (m' := m_X12_has) (as := [.int (iz 2), .int (iz 1)]) (rest := []) rfl (n_has_2_1 _ (cmH z zl (uf f 22 od) fl tx)   ) (fun v17 h18 q19 => ?_)
  obtain ⟨rfl, rfl⟩ := q19
  refine Rx.walk 0 (pc' := 22) (L' := [some (.ref 0), some (.int (iz 4)), some (.int (iz 1)), some (.int (iz 1)), some (.int (iz 2)), some (.int (iz 1))]) (st' := [.int (iz 1)]) (h' := cmH z zl (uf f 22 od) fl tx) rfl ?_
  refine Rx.ne1 rfl rfl ⟨by omega, by omega⟩ (fun b20 => ?_) (fun b20 => by omega)
  refine Rx.walk 3 (pc' := 40) (L' := [some (.ref 0), some (.int (iz 4)), some (.int (iz 1)), some (.int (iz 1)), some (.int (iz 2)), some (.int (iz 1))]) (st' := [.int (iz 1), .int (iz 2), .int (iz 1)]) (h' := cmH z zl (uf f 22 od) fl tx) rfl ?_
  refine Rx.callx (m' := m_X12_has) (as := [.int (iz 2), .int (iz 1)]) (rest := [.int (iz 1)]) rfl (n_has_2_1 _ (cmH z zl (uf f 22 od) fl tx)   ) (fun v21 h22 q23 => ?_)
  obtain ⟨rfl, rfl⟩ := q23
  refine Rx.walk 0 (pc' := 43) (L' := [some (.ref 0), some (.int (iz 4)), some (.int (iz 1)), some (.int (iz 1)), some (.int (iz 2)), some (.int (iz 1))]) (st' := [.int (iz 1), .int (iz 1)]) (h' := cmH z zl (uf f 22 od) fl tx) rfl ?_
  refine Rx.eq1 rfl rfl ⟨by omega, by omega⟩ (fun b24 => by omega) (fun b24 => ?_)
  refine Rx.walk 2 (pc' := 51) (L' := [some (.ref 0), some (.int (iz 4)), some (.int (iz 1)), some (.int (iz 1)), some (.int (iz 2)), some (.int (iz 1))]) (st' := [.int (iz 0), .int (iz 1)]) (h' := cmH z zl (uf f 22 od) fl tx) rfl ?_
  refine Rx.iadd rfl ?_
  refine Rx.walk 0 (pc' := 52) (L' := [some (.ref 0), some (.int (iz 4)), some (.int (iz 1)), some (.int (iz 1)), some (.int (iz 2)), some (.int (iz 1))]) (st' := [.int (iz 1)]) (h' := cmH z zl (uf f 22 od) fl tx) rfl ?_
  refine Rx.walk 3 (pc' := 55) (L' := [some (.ref 0), some (.int (iz 4)), some (.int (iz 1)), some (.int (iz 1)), some (.int (iz 2)), some (.int (iz 1))]) (st' := [.int (iz 1), .int (iz 1)]) (h' := cmH z zl (uf f 22 od) fl tx) rfl ?_
  refine Rx.iadd rfl ?_
  refine Rx.walk 0 (pc' := 56) (L' := [some (.ref 0), some (.int (iz 4)), some (.int (iz 1)), some (.int (iz 1)), some (.int (iz 2)), some (.int (iz 1))]) (st' := [.int (iz 2)]) (h' := cmH z zl (uf f 22 od) fl tx) rfl ?_
  refine Rx.walk 1 (pc' := 57) (L' := [some (.ref 0), some (.int (iz 4)), some (.int (iz 1)), some (.int (iz 1)), some (.int (iz 2)), some (.int (iz 1))]) (st' := [.int (iz 4), .int (iz 2)]) (h' := cmH z zl (uf f 22 od) fl tx) rfl ?_
  refine Rx.irem rfl ⟨by omega, by omega⟩ ⟨by omega, by omega⟩ (by omega) (by omega) ?_
  refine Rx.walk 4 (pc' := 19) (L' := [some (.ref 0), some (.int (iz 4)), some (.int (iz 1)), some (.int (iz 2)), some (.int (iz 2)), some (.int (iz 1))]) (st' := [.int (iz 2), .int (iz 2)]) (h' := cmH z zl (uf f 22 od) fl tx) rfl ?_
  refine Rx.callx (m' := m_X12_has) (as := [.int (iz 2), .int (iz 2)]) (rest := []) rfl (n_has_2_2 _ (cmH z zl (uf f 22 od) fl tx)   ) (fun v25 h26 q27 => ?_)
  obtain ⟨rfl, rfl⟩ := q27
  refine Rx.walk 0 (pc' := 22) (L' := [some (.ref 0), some (.int (iz 4)), some (.int (iz 1)), some (.int (iz 2)), some (.int (iz 2)), some (.int (iz 1))]) (st' := [.int (iz 0)]) (h' := cmH z zl (uf f 22 od) fl tx) rfl ?_
  refine Rx.ne1 rfl rfl ⟨by omega, by omega⟩ (fun b28 => by omega) (fun b28 => ?_)
  refine Rx.walk 4 (pc' := 32) (L' := [some (.ref 0), some (.int (iz 4)), some (.int (iz 1)), some (.int (iz 2)), some (.int (iz 2)), some (.int (iz 1))]) (st' := [.int (iz 1), .ref 22, .int (iz 2)]) (h' := cmH z zl (uf f 22 od) fl tx) rfl ?_
  refine Rx.ial (g := od) rfl rfl (by omega) (by omega) (by omega) ?_
  rw [show (od 1) = 3 from h1]
  refine Rx.eq2 rfl rfl ⟨by omega, by omega⟩ ⟨by omega, by omega⟩ (fun b29 => by omega) (fun b29 => ?_)
  refine Rx.walk 3 (pc' := 40) (L' := [some (.ref 0), some (.int (iz 4)), some (.int (iz 1)), some (.int (iz 2)), some (.int (iz 2)), some (.int (iz 1))]) (st' := [.int (iz 2), .int (iz 2), .int (iz 1)]) (h' := cmH z zl (uf f 22 od) fl tx) rfl ?_
  refine Rx.callx (m' := m_X12_has) (as := [.int (iz 2), .int (iz 2)]) (rest := [.int (iz 1)]) rfl (n_has_2_2 _ (cmH z zl (uf f 22 od) fl tx)   ) (fun v30 h31 q32 => ?_)
  obtain ⟨rfl, rfl⟩ := q32
  refine Rx.walk 0 (pc' := 43) (L' := [some (.ref 0), some (.int (iz 4)), some (.int (iz 1)), some (.int (iz 2)), some (.int (iz 2)), some (.int (iz 1))]) (st' := [.int (iz 0), .int (iz 1)]) (h' := cmH z zl (uf f 22 od) fl tx) rfl ?_
  refine Rx.eq1 rfl rfl ⟨by omega, by omega⟩ (fun b33 => ?_) (fun b33 => by omega)
  refine Rx.walk 1 (pc' := 51) (L' := [some (.ref 0), some (.int (iz 4)), some (.int (iz 1)), some (.int (iz 2)), some (.int (iz 2)), some (.int (iz 1))]) (st' := [.int (iz 1), .int (iz 1)]) (h' := cmH z zl (uf f 22 od) fl tx) rfl ?_
  refine Rx.iadd rfl ?_
  refine Rx.walk 0 (pc' := 52) (L' := [some (.ref 0), some (.int (iz 4)), some (.int (iz 1)), some (.int (iz 2)), some (.int (iz 2)), some (.int (iz 1))]) (st' := [.int (iz 2)]) (h' := cmH z zl (uf f 22 od) fl tx) rfl ?_
  refine Rx.walk 3 (pc' := 55) (L' := [some (.ref 0), some (.int (iz 4)), some (.int (iz 2)), some (.int (iz 2)), some (.int (iz 2)), some (.int (iz 1))]) (st' := [.int (iz 1), .int (iz 2)]) (h' := cmH z zl (uf f 22 od) fl tx) rfl ?_
  refine Rx.iadd rfl ?_
  refine Rx.walk 0 (pc' := 56) (L' := [some (.ref 0), some (.int (iz 4)), some (.int (iz 2)), some (.int (iz 2)), some (.int (iz 2)), some (.int (iz 1))]) (st' := [.int (iz 3)]) (h' := cmH z zl (uf f 22 od) fl tx) rfl ?_
  refine Rx.walk 1 (pc' := 57) (L' := [some (.ref 0), some (.int (iz 4)), some (.int (iz 2)), some (.int (iz 2)), some (.int (iz 2)), some (.int (iz 1))]) (st' := [.int (iz 4), .int (iz 3)]) (h' := cmH z zl (uf f 22 od) fl tx) rfl ?_
  refine Rx.irem rfl ⟨by omega, by omega⟩ ⟨by omega, by omega⟩ (by omega) (by omega) ?_
  refine Rx.walk 4 (pc' := 19) (L' := [some (.ref 0), some (.int (iz 4)), some (.int (iz 2)), some (.int (iz 3)), some (.int (iz 2)), some (.int (iz 1))]) (st' := [.int (iz 3), .int (iz 2)]) (h' := cmH z zl (uf f 22 od) fl tx) rfl ?_
  refine Rx.callx (m' := m_X12_has) (as := [.int (iz 2), .int (iz 3)]) (rest := []) rfl (n_has_2_3 _ (cmH z zl (uf f 22 od) fl tx)   ) (fun v34 h35 q36 => ?_)
  obtain ⟨rfl, rfl⟩ := q36
  refine Rx.walk 0 (pc' := 22) (L' := [some (.ref 0), some (.int (iz 4)), some (.int (iz 2)), some (.int (iz 3)), some (.int (iz 2)), some (.int (iz 1))]) (st' := [.int (iz 0)]) (h' := cmH z zl (uf f 22 od) fl tx) rfl ?_
  refine Rx.ne1 rfl rfl ⟨by omega, by omega⟩ (fun b37 => by omega) (fun b37 => ?_)
  refine Rx.walk 4 (pc' := 32) (L' := [some (.ref 0), some (.int (iz 4)), some (.int (iz 2)), some (.int (iz 3)), some (.int (iz 2)), some (.int (iz 1))]) (st' := [.int (iz 1), .ref 22, .int (iz 3)]) (h' := cmH z zl (uf f 22 od) fl tx) rfl ?_
  refine Rx.ial (g := od) rfl rfl (by omega) (by omega) (by omega) ?_
  rw [show (od 1) = 3 from h1]
  refine Rx.eq2 rfl rfl ⟨by omega, by omega⟩ ⟨by omega, by omega⟩ (fun b38 => ?_) (fun b38 => by omega)
  refine Rx.walk 3 (pc' := 66) (L' := [some (.ref 0), some (.int (iz 4)), some (.int (iz 2)), some (.int (iz 3)), some (.int (iz 2)), some (.int (iz 1))]) (st' := [.int (iz 3), .int (iz 1), .int (iz 2)]) (h' := cmH z zl (uf f 22 od) fl tx) rfl ?_
  refine Rx.ishl (c := 8) rfl (by decide) ?_
  refine Rx.ior (c := 10) rfl (by decide) ?_
  refine Rx.walk 1 (pc' := 70) (L' := [some (.ref 0), some (.int (iz 4)), some (.int (iz 2)), some (.int (iz 3)), some (.int (iz 10)), some (.int (iz 1))]) (st' := []) (h' := cmH z zl (uf f 22 od) fl tx) rfl ?_
  refine Rx.iinc (b := 1) rfl rfl rfl ?_
  refine Rx.walk 0 (pc' := 73) (L' := [some (.ref 0), some (.int (iz 4)), some (.int (iz 2)), some (.int (iz 3)), some (.int (iz 10)), some (.int (iz 2))]) (st' := []) (h' := cmH z zl (uf f 22 od) fl tx) rfl ?_
  refine Rx.walk 3 (pc' := 13) (L' := [some (.ref 0), some (.int (iz 4)), some (.int (iz 2)), some (.int (iz 3)), some (.int (iz 10)), some (.int (iz 2))]) (st' := [.int (iz 4), .int (iz 2)]) (h' := cmH z zl (uf f 22 od) fl tx) rfl ?_
  refine Rx.ge2 rfl rfl ⟨by omega, by omega⟩ ⟨by omega, by omega⟩ (fun b39 => by omega) (fun b39 => ?_)
  refine Rx.walk 2 (pc' := 19) (L' := [some (.ref 0), some (.int (iz 4)), some (.int (iz 2)), some (.int (iz 3)), some (.int (iz 10)), some (.int (iz 2))]) (st' := [.int (iz 3), .int (iz 10)]) (h' := cmH z zl (uf f 22 od) fl tx) rfl ?_
  refine Rx.callx (m' := m_X12_has) (as := [.int (iz 10), .int (iz 3)]) (rest := []) rfl (n_has_10_3 _ (cmH z zl (uf f 22 od) fl tx)   ) (fun v40 h41 q42 => ?_)
  obtain ⟨rfl, rfl⟩ := q42
  refine Rx.walk 0 (pc' := 22) (L' := [some (.ref 0), some (.int (iz 4)), some (.int (iz 2)), some (.int (iz 3)), some (.int (iz 10)), some (.int (iz 2))]) (st' := [.int (iz 1)]) (h' := cmH z zl (uf f 22 od) fl tx) rfl ?_
  refine Rx.ne1 rfl rfl ⟨by omega, by omega⟩ (fun b43 => ?_) (fun b43 => by omega)
  refine Rx.walk 3 (pc' := 40) (L' := [some (.ref 0), some (.int (iz 4)), some (.int (iz 2)), some (.int (iz 3)), some (.int (iz 10)), some (.int (iz 2))]) (st' := [.int (iz 3), .int (iz 10), .int (iz 2)]) (h' := cmH z zl (uf f 22 od) fl tx) rfl ?_
  refine Rx.callx (m' := m_X12_has) (as := [.int (iz 10), .int (iz 3)]) (rest := [.int (iz 2)]) rfl (n_has_10_3 _ (cmH z zl (uf f 22 od) fl tx)   ) (fun v44 h45 q46 => ?_)
  obtain ⟨rfl, rfl⟩ := q46
  refine Rx.walk 0 (pc' := 43) (L' := [some (.ref 0), some (.int (iz 4)), some (.int (iz 2)), some (.int (iz 3)), some (.int (iz 10)), some (.int (iz 2))]) (st' := [.int (iz 1), .int (iz 2)]) (h' := cmH z zl (uf f 22 od) fl tx) rfl ?_
  refine Rx.eq1 rfl rfl ⟨by omega, by omega⟩ (fun b47 => by omega) (fun b47 => ?_)
  refine Rx.walk 2 (pc' := 51) (L' := [some (.ref 0), some (.int (iz 4)), some (.int (iz 2)), some (.int (iz 3)), some (.int (iz 10)), some (.int (iz 2))]) (st' := [.int (iz 0), .int (iz 2)]) (h' := cmH z zl (uf f 22 od) fl tx) rfl ?_
  refine Rx.iadd rfl ?_
  refine Rx.walk 0 (pc' := 52) (L' := [some (.ref 0), some (.int (iz 4)), some (.int (iz 2)), some (.int (iz 3)), some (.int (iz 10)), some (.int (iz 2))]) (st' := [.int (iz 2)]) (h' := cmH z zl (uf f 22 od) fl tx) rfl ?_
  refine Rx.walk 3 (pc' := 55) (L' := [some (.ref 0), some (.int (iz 4)), some (.int (iz 2)), some (.int (iz 3)), some (.int (iz 10)), some (.int (iz 2))]) (st' := [.int (iz 1), .int (iz 3)]) (h' := cmH z zl (uf f 22 od) fl tx) rfl ?_
  refine Rx.iadd rfl ?_
  refine Rx.walk 0 (pc' := 56) (L' := [some (.ref 0), some (.int (iz 4)), some (.int (iz 2)), some (.int (iz 3)), some (.int (iz 10)), some (.int (iz 2))]) (st' := [.int (iz 4)]) (h' := cmH z zl (uf f 22 od) fl tx) rfl ?_
  refine Rx.walk 1 (pc' := 57) (L' := [some (.ref 0), some (.int (iz 4)), some (.int (iz 2)), some (.int (iz 3)), some (.int (iz 10)), some (.int (iz 2))]) (st' := [.int (iz 4), .int (iz 4)]) (h' := cmH z zl (uf f 22 od) fl tx) rfl ?_
  refine Rx.irem rfl ⟨by omega, by omega⟩ ⟨by omega, by omega⟩ (by omega) (by omega) ?_
  refine Rx.walk 4 (pc' := 19) (L' := [some (.ref 0), some (.int (iz 4)), some (.int (iz 2)), some (.int (iz 0)), some (.int (iz 10)), some (.int (iz 2))]) (st' := [.int (iz 0), .int (iz 10)]) (h' := cmH z zl (uf f 22 od) fl tx) rfl ?_
  refine Rx.callx (m' := m_X12_has) (as := [.int (iz 10), .int (iz 0)]) (rest := []) rfl (n_has_10_0 _ (cmH z zl (uf f 22 od) fl tx)   ) (fun v48 h49 q50 => ?_)
  obtain ⟨rfl, rfl⟩ := q50
  refine Rx.walk 0 (pc' := 22) (L' := [some (.ref 0), some (.int (iz 4)), some (.int (iz 2)), some (.int (iz 0)), some (.int (iz 10)), some (.int (iz 2))]) (st' := [.int (iz 0)]) (h' := cmH z zl (uf f 22 od) fl tx) rfl ?_
  refine Rx.ne1 rfl rfl ⟨by omega, by omega⟩ (fun b51 => by omega) (fun b51 => ?_)
  refine Rx.walk 4 (pc' := 32) (L' := [some (.ref 0), some (.int (iz 4)), some (.int (iz 2)), some (.int (iz 0)), some (.int (iz 10)), some (.int (iz 2))]) (st' := [.int (iz 2), .ref 22, .int (iz 0)]) (h' := cmH z zl (uf f 22 od) fl tx) rfl ?_
  refine Rx.ial (g := od) rfl rfl (by omega) (by omega) (by omega) ?_
  rw [show (od 2) = 2 from h2]
  refine Rx.eq2 rfl rfl ⟨by omega, by omega⟩ ⟨by omega, by omega⟩ (fun b52 => by omega) (fun b52 => ?_)
  refine Rx.walk 3 (pc' := 40) (L' := [some (.ref 0), some (.int (iz 4)), some (.int (iz 2)), some (.int (iz 0)), some (.int (iz 10)), some (.int (iz 2))]) (st' := [.int (iz 0), .int (iz 10), .int (iz 2)]) (h' := cmH z zl (uf f 22 od) fl tx) rfl ?_
  refine Rx.callx (m' := m_X12_has) (as := [.int (iz 10), .int (iz 0)]) (rest := [.int (iz 2)]) rfl (n_has_10_0 _ (cmH z zl (uf f 22 od) fl tx)   ) (fun v53 h54 q55 => ?_)
  obtain ⟨rfl, rfl⟩ := q55
  refine Rx.walk 0 (pc' := 43) (L' := [some (.ref 0), some (.int (iz 4)), some (.int (iz 2)), some (.int (iz 0)), some (.int (iz 10)), some (.int (iz 2))]) (st' := [.int (iz 0), .int (iz 2)]) (h' := cmH z zl (uf f 22 od) fl tx) rfl ?_
  refine Rx.eq1 rfl rfl ⟨by omega, by omega⟩ (fun b56 => ?_) (fun b56 => by omega)
  refine Rx.walk 1 (pc' := 51) (L' := [some (.ref 0), some (.int (iz 4)), some (.int (iz 2)), some (.int (iz 0)), some (.int (iz 10)), some (.int (iz 2))]) (st' := [.int (iz 1), .int (iz 2)]) (h' := cmH z zl (uf f 22 od) fl tx) rfl ?_
  refine Rx.iadd rfl ?_
  refine Rx.walk 0 (pc' := 52) (L' := [some (.ref 0), some (.int (iz 4)), some (.int (iz 2)), some (.int (iz 0)), some (.int (iz 10)), some (.int (iz 2))]) (st' := [.int (iz 3)]) (h' := cmH z zl (uf f 22 od) fl tx) rfl ?_
  refine Rx.walk 3 (pc' := 55) (L' := [some (.ref 0), some (.int (iz 4)), some (.int (iz 3)), some (.int (iz 0)), some (.int (iz 10)), some (.int (iz 2))]) (st' := [.int (iz 1), .int (iz 0)]) (h' := cmH z zl (uf f 22 od) fl tx) rfl ?_
  refine Rx.iadd rfl ?_
  refine Rx.walk 0 (pc' := 56) (L' := [some (.ref 0), some (.int (iz 4)), some (.int (iz 3)), some (.int (iz 0)), some (.int (iz 10)), some (.int (iz 2))]) (st' := [.int (iz 1)]) (h' := cmH z zl (uf f 22 od) fl tx) rfl ?_
  refine Rx.walk 1 (pc' := 57) (L' := [some (.ref 0), some (.int (iz 4)), some (.int (iz 3)), some (.int (iz 0)), some (.int (iz 10)), some (.int (iz 2))]) (st' := [.int (iz 4), .int (iz 1)]) (h' := cmH z zl (uf f 22 od) fl tx) rfl ?_
  refine Rx.irem rfl ⟨by omega, by omega⟩ ⟨by omega, by omega⟩ (by omega) (by omega) ?_
  refine Rx.walk 4 (pc' := 19) (L' := [some (.ref 0), some (.int (iz 4)), some (.int (iz 3)), some (.int (iz 1)), some (.int (iz 10)), some (.int (iz 2))]) (st' := [.int (iz 1), .int (iz 10)]) (h' := cmH z zl (uf f 22 od) fl tx) rfl ?_
  refine Rx.callx (m' := m_X12_has) (as := [.int (iz 10), .int (iz 1)]) (rest := []) rfl (n_has_10_1 _ (cmH z zl (uf f 22 od) fl tx)   ) (fun v57 h58 q59 => ?_)
  obtain ⟨rfl, rfl⟩ := q59
  refine Rx.walk 0 (pc' := 22) (L' := [some (.ref 0), some (.int (iz 4)), some (.int (iz 3)), some (.int (iz 1)), some (.int (iz 10)), some (.int (iz 2))]) (st' := [.int (iz 1)]) (h' := cmH z zl (uf f 22 od) fl tx) rfl ?_
  refine Rx.ne1 rfl rfl ⟨by omega, by omega⟩ (fun b60 => ?_) (fun b60 => by omega)
  refine Rx.walk 3 (pc' := 40) (L' := [some (.ref 0), some (.int (iz 4)), some (.int (iz 3)), some (.int (iz 1)), some (.int (iz 10)), some (.int (iz 2))]) (st' := [.int (iz 1), .int (iz 10), .int (iz 3)]) (h' := cmH z zl (uf f 22 od) fl tx) rfl ?_
  refine Rx.callx (m' := m_X12_has) (as := [.int (iz 10), .int (iz 1)]) (rest := [.int (iz 3)]) rfl (n_has_10_1 _ (cmH z zl (uf f 22 od) fl tx)   ) (fun v61 h62 q63 => ?_)
  obtain ⟨rfl, rfl⟩ := q63
  refine Rx.walk 0 (pc' := 43) (L' := [some (.ref 0), some (.int (iz 4)), some (.int (iz 3)), some (.int (iz 1)), some (.int (iz 10)), some (.int (iz 2))]) (st' := [.int (iz 1), .int (iz 3)]) (h' := cmH z zl (uf f 22 od) fl tx) rfl ?_
  refine Rx.eq1 rfl rfl ⟨by omega, by omega⟩ (fun b64 => by omega) (fun b64 => ?_)
  refine Rx.walk 2 (pc' := 51) (L' := [some (.ref 0), some (.int (iz 4)), some (.int (iz 3)), some (.int (iz 1)), some (.int (iz 10)), some (.int (iz 2))]) (st' := [.int (iz 0), .int (iz 3)]) (h' := cmH z zl (uf f 22 od) fl tx) rfl ?_
  refine Rx.iadd rfl ?_
  refine Rx.walk 0 (pc' := 52) (L' := [some (.ref 0), some (.int (iz 4)), some (.int (iz 3)), some (.int (iz 1)), some (.int (iz 10)), some (.int (iz 2))]) (st' := [.int (iz 3)]) (h' := cmH z zl (uf f 22 od) fl tx) rfl ?_
  refine Rx.walk 3 (pc' := 55) (L' := [some (.ref 0), some (.int (iz 4)), some (.int (iz 3)), some (.int (iz 1)), some (.int (iz 10)), some (.int (iz 2))]) (st' := [.int (iz 1), .int (iz 1)]) (h' := cmH z zl (uf f 22 od) fl tx) rfl ?_
  refine Rx.iadd rfl ?_
  refine Rx.walk 0 (pc' := 56) (L' := [some (.ref 0), some (.int (iz 4)), some (.int (iz 3)), some (.int (iz 1)), some (.int (iz 10)), some (.int (iz 2))]) (st' := [.int (iz 2)]) (h' := cmH z zl (uf f 22 od) fl tx) rfl ?_
  refine Rx.walk 1 (pc' := 57) (L' := [some (.ref 0), some (.int (iz 4)), some (.int (iz 3)), some (.int (iz 1)), some (.int (iz 10)), some (.int (iz 2))]) (st' := [.int (iz 4), .int (iz 2)]) (h' := cmH z zl (uf f 22 od) fl tx) rfl ?_
  refine Rx.irem rfl ⟨by omega, by omega⟩ ⟨by omega, by omega⟩ (by omega) (by omega) ?_
  refine Rx.walk 4 (pc' := 19) (L' := [some (.ref 0), some (.int (iz 4)), some (.int (iz 3)), some (.int (iz 2)), some (.int (iz 10)), some (.int (iz 2))]) (st' := [.int (iz 2), .int (iz 10)]) (h' := cmH z zl (uf f 22 od) fl tx) rfl ?_
  refine Rx.callx (m' := m_X12_has) (as := [.int (iz 10), .int (iz 2)]) (rest := []) rfl (n_has_10_2 _ (cmH z zl (uf f 22 od) fl tx)   ) (fun v65 h66 q67 => ?_)
  obtain ⟨rfl, rfl⟩ := q67
  refine Rx.walk 0 (pc' := 22) (L' := [some (.ref 0), some (.int (iz 4)), some (.int (iz 3)), some (.int (iz 2)), some (.int (iz 10)), some (.int (iz 2))]) (st' := [.int (iz 0)]) (h' := cmH z zl (uf f 22 od) fl tx) rfl ?_
  refine Rx.ne1 rfl rfl ⟨by omega, by omega⟩ (fun b68 => by omega) (fun b68 => ?_)
  refine Rx.walk 4 (pc' := 32) (L' := [some (.ref 0), some (.int (iz 4)), some (.int (iz 3)), some (.int (iz 2)), some (.int (iz 10)), some (.int (iz 2))]) (st' := [.int (iz 2), .ref 22, .int (iz 2)]) (h' := cmH z zl (uf f 22 od) fl tx) rfl ?_
  refine Rx.ial (g := od) rfl rfl (by omega) (by omega) (by omega) ?_
  rw [show (od 2) = 2 from h2]
  refine Rx.eq2 rfl rfl ⟨by omega, by omega⟩ ⟨by omega, by omega⟩ (fun b69 => ?_) (fun b69 => by omega)
  refine Rx.walk 3 (pc' := 66) (L' := [some (.ref 0), some (.int (iz 4)), some (.int (iz 3)), some (.int (iz 2)), some (.int (iz 10)), some (.int (iz 2))]) (st' := [.int (iz 2), .int (iz 1), .int (iz 10)]) (h' := cmH z zl (uf f 22 od) fl tx) rfl ?_
  refine Rx.ishl (c := 4) rfl (by decide) ?_
  refine Rx.ior (c := 14) rfl (by decide) ?_
  refine Rx.walk 1 (pc' := 70) (L' := [some (.ref 0), some (.int (iz 4)), some (.int (iz 3)), some (.int (iz 2)), some (.int (iz 14)), some (.int (iz 2))]) (st' := []) (h' := cmH z zl (uf f 22 od) fl tx) rfl ?_
  refine Rx.iinc (b := 1) rfl rfl rfl ?_
  refine Rx.walk 0 (pc' := 73) (L' := [some (.ref 0), some (.int (iz 4)), some (.int (iz 3)), some (.int (iz 2)), some (.int (iz 14)), some (.int (iz 3))]) (st' := []) (h' := cmH z zl (uf f 22 od) fl tx) rfl ?_
  refine Rx.walk 3 (pc' := 13) (L' := [some (.ref 0), some (.int (iz 4)), some (.int (iz 3)), some (.int (iz 2)), some (.int (iz 14)), some (.int (iz 3))]) (st' := [.int (iz 4), .int (iz 3)]) (h' := cmH z zl (uf f 22 od) fl tx) rfl ?_
  refine Rx.ge2 rfl rfl ⟨by omega, by omega⟩ ⟨by omega, by omega⟩ (fun b70 => by omega) (fun b70 => ?_)
  refine Rx.walk 2 (pc' := 19) (L' := [some (.ref 0), some (.int (iz 4)), some (.int (iz 3)), some (.int (iz 2)), some (.int (iz 14)), some (.int (iz 3))]) (st' := [.int (iz 2), .int (iz 14)]) (h' := cmH z zl (uf f 22 od) fl tx) rfl ?_
  refine Rx.callx (m' := m_X12_has) (as := [.int (iz 14), .int (iz 2)]) (rest := []) rfl (n_has_14_2 _ (cmH z zl (uf f 22 od) fl tx)   ) (fun v71 h72 q73 => ?_)
  obtain ⟨rfl, rfl⟩ := q73
  refine Rx.walk 0 (pc' := 22) (L' := [some (.ref 0), some (.int (iz 4)), some (.int (iz 3)), some (.int (iz 2)), some (.int (iz 14)), some (.int (iz 3))]) (st' := [.int (iz 1)]) (h' := cmH z zl (uf f 22 od) fl tx) rfl ?_
  refine Rx.ne1 rfl rfl ⟨by omega, by omega⟩ (fun b74 => ?_) (fun b74 => by omega)
  refine Rx.walk 3 (pc' := 40) (L' := [some (.ref 0), some (.int (iz 4)), some (.int (iz 3)), some (.int (iz 2)), some (.int (iz 14)), some (.int (iz 3))]) (st' := [.int (iz 2), .int (iz 14), .int (iz 3)]) (h' := cmH z zl (uf f 22 od) fl tx) rfl ?_
  refine Rx.callx (m' := m_X12_has) (as := [.int (iz 14), .int (iz 2)]) (rest := [.int (iz 3)]) rfl (n_has_14_2 _ (cmH z zl (uf f 22 od) fl tx)   ) (fun v75 h76 q77 => ?_)
  obtain ⟨rfl, rfl⟩ := q77
  refine Rx.walk 0 (pc' := 43) (L' := [some (.ref 0), some (.int (iz 4)), some (.int (iz 3)), some (.int (iz 2)), some (.int (iz 14)), some (.int (iz 3))]) (st' := [.int (iz 1), .int (iz 3)]) (h' := cmH z zl (uf f 22 od) fl tx) rfl ?_
  refine Rx.eq1 rfl rfl ⟨by omega, by omega⟩ (fun b78 => by omega) (fun b78 => ?_)
  refine Rx.walk 2 (pc' := 51) (L' := [some (.ref 0), some (.int (iz 4)), some (.int (iz 3)), some (.int (iz 2)), some (.int (iz 14)), some (.int (iz 3))]) (st' := [.int (iz 0), .int (iz 3)]) (h' := cmH z zl (uf f 22 od) fl tx) rfl ?_
  refine Rx.iadd rfl ?_
  refine Rx.walk 0 (pc' := 52) (L' := [some (.ref 0), some (.int (iz 4)), some (.int (iz 3)), some (.int (iz 2)), some (.int (iz 14)), some (.int (iz 3))]) (st' := [.int (iz 3)]) (h' := cmH z zl (uf f 22 od) fl tx) rfl ?_
  refine Rx.walk 3 (pc' := 55) (L' := [some (.ref 0), some (.int (iz 4)), some (.int (iz 3)), some (.int (iz 2)), some (.int (iz 14)), some (.int (iz 3))]) (st' := [.int (iz 1), .int (iz 2)]) (h' := cmH z zl (uf f 22 od) fl tx) rfl ?_
  refine Rx.iadd rfl ?_
  refine Rx.walk 0 (pc' := 56) (L' := [some (.ref 0), some (.int (iz 4)), some (.int (iz 3)), some (.int (iz 2)), some (.int (iz 14)), some (.int (iz 3))]) (st' := [.int (iz 3)]) (h' := cmH z zl (uf f 22 od) fl tx) rfl ?_
  refine Rx.walk 1 (pc' := 57) (L' := [some (.ref 0), some (.int (iz 4)), some (.int (iz 3)), some (.int (iz 2)), some (.int (iz 14)), some (.int (iz 3))]) (st' := [.int (iz 4), .int (iz 3)]) (h' := cmH z zl (uf f 22 od) fl tx) rfl ?_
  refine Rx.irem rfl ⟨by omega, by omega⟩ ⟨by omega, by omega⟩ (by omega) (by omega) ?_
  refine Rx.walk 4 (pc' := 19) (L' := [some (.ref 0), some (.int (iz 4)), some (.int (iz 3)), some (.int (iz 3)), some (.int (iz 14)), some (.int (iz 3))]) (st' := [.int (iz 3), .int (iz 14)]) (h' := cmH z zl (uf f 22 od) fl tx) rfl ?_
  refine Rx.callx (m' := m_X12_has) (as := [.int (iz 14), .int (iz 3)]) (rest := []) rfl (n_has_14_3 _ (cmH z zl (uf f 22 od) fl tx)   ) (fun v79 h80 q81 => ?_)
  obtain ⟨rfl, rfl⟩ := q81
  refine Rx.walk 0 (pc' := 22) (L' := [some (.ref 0), some (.int (iz 4)), some (.int (iz 3)), some (.int (iz 3)), some (.int (iz 14)), some (.int (iz 3))]) (st' := [.int (iz 1)]) (h' := cmH z zl (uf f 22 od) fl tx) rfl ?_
  refine Rx.ne1 rfl rfl ⟨by omega, by omega⟩ (fun b82 => ?_) (fun b82 => by omega)
  refine Rx.walk 3 (pc' := 40) (L' := [some (.ref 0), some (.int (iz 4)), some (.int (iz 3)), some (.int (iz 3)), some (.int (iz 14)), some (.int (iz 3))]) (st' := [.int (iz 3), .int (iz 14), .int (iz 3)]) (h' := cmH z zl (uf f 22 od) fl tx) rfl ?_
  refine Rx.callx (m' := m_X12_has) (as := [.int (iz 14), .int (iz 3)]) (rest := [.int (iz 3)]) rfl (n_has_14_3 _ (cmH z zl (uf f 22 od) fl tx)   ) (fun v83 h84 q85 => ?_)
  obtain ⟨rfl, rfl⟩ := q85
  refine Rx.walk 0 (pc' := 43) (L' := [some (.ref 0), some (.int (iz 4)), some (.int (iz 3)), some (.int (iz 3)), some (.int (iz 14)), some (.int (iz 3))]) (st' := [.int (iz 1), .int (iz 3)]) (h' := cmH z zl (uf f 22 od) fl tx) rfl ?_
  refine Rx.eq1 rfl rfl ⟨by omega, by omega⟩ (fun b86 => by omega) (fun b86 => ?_)
  refine Rx.walk 2 (pc' := 51) (L' := [some (.ref 0), some (.int (iz 4)), some (.int (iz 3)), some (.int (iz 3)), some (.int (iz 14)), some (.int (iz 3))]) (st' := [.int (iz 0), .int (iz 3)]) (h' := cmH z zl (uf f 22 od) fl tx) rfl ?_
  refine Rx.iadd rfl ?_
  refine Rx.walk 0 (pc' := 52) (L' := [some (.ref 0), some (.int (iz 4)), some (.int (iz 3)), some (.int (iz 3)), some (.int (iz 14)), some (.int (iz 3))]) (st' := [.int (iz 3)]) (h' := cmH z zl (uf f 22 od) fl tx) rfl ?_
  refine Rx.walk 3 (pc' := 55) (L' := [some (.ref 0), some (.int (iz 4)), some (.int (iz 3)), some (.int (iz 3)), some (.int (iz 14)), some (.int (iz 3))]) (st' := [.int (iz 1), .int (iz 3)]) (h' := cmH z zl (uf f 22 od) fl tx) rfl ?_
  refine Rx.iadd rfl ?_
  refine Rx.walk 0 (pc' := 56) (L' := [some (.ref 0), some (.int (iz 4)), some (.int (iz 3)), some (.int (iz 3)), some (.int (iz 14)), some (.int (iz 3))]) (st' := [.int (iz 4)]) (h' := cmH z zl (uf f 22 od) fl tx) rfl ?_
  refine Rx.walk 1 (pc' := 57) (L' := [some (.ref 0), some (.int (iz 4)), some (.int (iz 3)), some (.int (iz 3)), some (.int (iz 14)), some (.int (iz 3))]) (st' := [.int (iz 4), .int (iz 4)]) (h' := cmH z zl (uf f 22 od) fl tx) rfl ?_
  refine Rx.irem rfl ⟨by omega, by omega⟩ ⟨by omega, by omega⟩ (by omega) (by omega) ?_
  refine Rx.walk 4 (pc' := 19) (L' := [some (.ref 0), some (.int (iz 4)), some (.int (iz 3)), some (.int (iz 0)), some (.int (iz 14)), some (.int (iz 3))]) (st' := [.int (iz 0), .int (iz 14)]) (h' := cmH z zl (uf f 22 od) fl tx) rfl ?_
  refine Rx.callx (m' := m_X12_has) (as := [.int (iz 14), .int (iz 0)]) (rest := []) rfl (n_has_14_0 _ (cmH z zl (uf f 22 od) fl tx)   ) (fun v87 h88 q89 => ?_)
  obtain ⟨rfl, rfl⟩ := q89
  refine Rx.walk 0 (pc' := 22) (L' := [some (.ref 0), some (.int (iz 4)), some (.int (iz 3)), some (.int (iz 0)), some (.int (iz 14)), some (.int (iz 3))]) (st' := [.int (iz 0)]) (h' := cmH z zl (uf f 22 od) fl tx) rfl ?_
  refine Rx.ne1 rfl rfl ⟨by omega, by omega⟩ (fun b90 => by omega) (fun b90 => ?_)
  refine Rx.walk 4 (pc' := 32) (L' := [some (.ref 0), some (.int (iz 4)), some (.int (iz 3)), some (.int (iz 0)), some (.int (iz 14)), some (.int (iz 3))]) (st' := [.int (iz 3), .ref 22, .int (iz 0)]) (h' := cmH z zl (uf f 22 od) fl tx) rfl ?_
  refine Rx.ial (g := od) rfl rfl (by omega) (by omega) (by omega) ?_
  rw [show (od 3) = 0 from h3]
  refine Rx.eq2 rfl rfl ⟨by omega, by omega⟩ ⟨by omega, by omega⟩ (fun b91 => ?_) (fun b91 => by omega)
  refine Rx.walk 3 (pc' := 66) (L' := [some (.ref 0), some (.int (iz 4)), some (.int (iz 3)), some (.int (iz 0)), some (.int (iz 14)), some (.int (iz 3))]) (st' := [.int (iz 0), .int (iz 1), .int (iz 14)]) (h' := cmH z zl (uf f 22 od) fl tx) rfl ?_
  refine Rx.ishl (c := 1) rfl (by decide) ?_
  refine Rx.ior (c := 15) rfl (by decide) ?_
  refine Rx.walk 1 (pc' := 70) (L' := [some (.ref 0), some (.int (iz 4)), some (.int (iz 3)), some (.int (iz 0)), some (.int (iz 15)), some (.int (iz 3))]) (st' := []) (h' := cmH z zl (uf f 22 od) fl tx) rfl ?_
  refine Rx.iinc (b := 1) rfl rfl rfl ?_
  refine Rx.walk 0 (pc' := 73) (L' := [some (.ref 0), some (.int (iz 4)), some (.int (iz 3)), some (.int (iz 0)), some (.int (iz 15)), some (.int (iz 4))]) (st' := []) (h' := cmH z zl (uf f 22 od) fl tx) rfl ?_
  refine Rx.walk 3 (pc' := 13) (L' := [some (.ref 0), some (.int (iz 4)), some (.int (iz 3)), some (.int (iz 0)), some (.int (iz 15)), some (.int (iz 4))]) (st' := [.int (iz 4), .int (iz 4)]) (h' := cmH z zl (uf f 22 od) fl tx) rfl ?_
  refine Rx.ge2 rfl rfl ⟨by omega, by omega⟩ ⟨by omega, by omega⟩ (fun b92 => ?_) (fun b92 => by omega)
  refine Rx.walk 1 (pc' := 77) (L' := [some (.ref 0), some (.int (iz 4)), some (.int (iz 3)), some (.int (iz 0)), some (.int (iz 15)), some (.int (iz 4))]) (st' := [.int (iz 3)]) (h' := cmH z zl (uf f 22 od) fl tx) rfl ?_
  refine Rx.ret rfl ?_
  exact ⟨rfl, rfl⟩
set_option maxRecDepth 100000 in
set_option maxHeartbeats 4000000 in
theorem n_has_4_3 (d : Nat) (h0 : AmH)   : Rx (d) m_X12_has 0 (am_ent [.int (iz 4), .int (iz 3)] 2) [] (h0) (fun rv h => rv = some (.int (iz 0)) ∧ h0 = h) := ⟨_, _, ⟨100, rfl⟩, rfl, rfl⟩
set_option maxRecDepth 100000 in
set_option maxHeartbeats 4000000 in
theorem m_stepsOf4_12 (d : Nat) (z : Nat → Int) (zl : Nat → Int) (f : Nat → Int → Int) (fl : Nat → Int → Int) (tx : Nat)  (od : Int → Int) (h0 : od 0 = 2) (h1 : od 1 = 0) (h2 : od 2 = 1) (h3 : od 3 = 3) : Rx (d + 1) m_X12_stepsOf 0 (am_ent [.ref 0, .int (iz 4)] 6) [] (cmH z zl (uf f 22 od) fl tx) (fun rv h => rv = some (.int (iz 3)) ∧ h = cmH z zl (uf f 22 od) fl tx) := by
  refine Rx.walk 0 (pc' := 0) (L' := [some (.ref 0), some (.int (iz 4)), none, none, none, none]) (st' := []) (h' := cmH z zl (uf f 22 od) fl tx) rfl ?_
  refine Rx.walk 10 (pc' := 13) (L' := [some (.ref 0), some (.int (iz 4)), some (.int (iz 0)), some (.int (iz 0)), some (.int (iz 0)), some (.int (iz 0))]) (st' := [.int (iz 4), .int (iz 0)]) (h' := cmH z zl (uf f 22 od) fl tx) rfl ?_
  refine Rx.ge2 rfl rfl ⟨by omega, by omega⟩ ⟨by omega, by omega⟩ (fun b1 => by omega) (fun b1 => ?_)
  refine Rx.walk 2 (pc' := 19) (L' := [some (.ref 0), some (.int (iz 4)), some (.int (iz 0)), some (.int (iz 0)), some (.int (iz 0)), some (.int (iz 0))]) (st' := [.int (iz 0), .int (iz 0)]) (h' := cmH z zl (uf f 22 od) fl tx) rfl ?_
  refine Rx.callx (m' := m_X12_has) (as := [.int (iz 0), .int (iz 0)]) (rest := []) rfl (n_has_0_0 _ (cmH z zl (uf f 22 od) fl tx)   ) (fun v2 h3 q4 => ?_)
  obtain ⟨rfl, rfl⟩ := q4
  refine Rx.walk 0 (pc' := 22) (L' := [some (.ref 0), some (.int (iz 4)), some (.int (iz 0)), some (.int (iz 0)), some (.int (iz 0)), some (.int (iz 0))]) (st' := [.int (iz 0)]) (h' := cmH z zl (uf f 22 od) fl tx) rfl ?_
  refine Rx.ne1 rfl rfl ⟨by omega, by omega⟩ (fun b5 => by omega) (fun b5 => ?_)
  refine Rx.walk 4 (pc' := 32) (L' := [some (.ref 0), some (.int (iz 4)), some (.int (iz 0)), some (.int (iz 0)), some (.int (iz 0)), some (.int (iz 0))]) (st' := [.int (iz 0), .ref 22, .int (iz 0)]) (h' := cmH z zl (uf f 22 od) fl tx) rfl ?_
  refine Rx.ial (g := od) rfl rfl (by omega) (by omega) (by omega) ?_
  rw [show (od 0) = 2 from h0]
  refine Rx.eq2 rfl rfl ⟨by omega, by omega⟩ ⟨by omega, by omega⟩ (fun b6 => by omega) (fun b6 => ?_)
  refine Rx.walk 3 (pc' := 40) (L' := [some (.ref 0), some (.int (iz 4)), some (.int (iz 0)), some (.int (iz 0)), some (.int (iz 0)), some (.int (iz 0))]) (st' := [.int (iz 0), .int (iz 0), .int (iz 0)]) (h' := cmH z zl (uf f 22 od) fl tx) rfl ?_
  refine Rx.callx (m' := m_X12_has) (as := [.int (iz 0), .int (iz 0)]) (rest := [.int (iz 0)]) rfl (n_has_0_0 _ (cmH z zl (uf f 22 od) fl tx)   ) (fun v7 h8 q9 => ?_)
  obtain ⟨rfl, rfl⟩ := q9
  refine Rx.walk 0 (pc' := 43) (L' := [some (.ref 0), some (.int (iz 4)), some (.int (iz 0)), some (.int (iz 0)), some (.int (iz 0)), some (.int (iz 0))]) (st' := [.int (iz 0), .int (iz 0)]) (h' := cmH z zl (uf f 22 od) fl tx) rfl ?_
  refine Rx.eq1 rfl rfl ⟨by omega, by omega⟩ (fun b10 => ?_) (fun b10 => by omega)
  refine Rx.walk 1 (pc' := 51) (L' := [some (.ref 0), some (.int (iz 4)), some (.int (iz 0)), some (.int (iz 0)), some (.int (iz 0)), some (.int (iz 0))]) (st' := [.int (iz 1), .int (iz 0)]) (h' := cmH z zl (uf f 22 od) fl tx) rfl ?_
  refine Rx.iadd rfl ?_
  refine Rx.walk 0 (pc' := 52) (L' := [some (.ref 0), some (.int (iz 4)), some (.int (iz 0)), some (.int (iz 0)), some (.int (iz 0)), some (.int (iz 0))]) (st' := [.int (iz 1)]) (h' := cmH z zl (uf f 22 od) fl tx) rfl ?_
  refine Rx.walk 3 (pc' := 55) (L' := [some (.ref 0), some (.int (iz 4)), some (.int (iz 1)), some (.int (iz 0)), some (.int (iz 0)), some (.int (iz 0))]) (st' := [.int (iz 1), .int (iz 0)]) (h' := cmH z zl (uf f 22 od) fl tx) rfl ?_
  refine Rx.iadd rfl ?_
  refine Rx.walk 0 (pc' := 56) (L' := [some (.ref 0), some (.int (iz 4)), some (.int (iz 1)), some (.int (iz 0)), some (.int (iz 0)), some (.int (iz 0))]) (st' := [.int (iz 1)]) (h' := cmH z zl (uf f 22 od) fl tx) rfl ?_
  refine Rx.walk 1 (pc' := 57) (L' := [some (.ref 0), some (.int (iz 4)), some (.int (iz 1)), some (.int (iz 0)), some (.int (iz 0)), some (.int (iz 0))]) (st' := [.int (iz 4), .int (iz 1)]) (h' := cmH z zl (uf f 22 od) fl tx) rfl ?_
  refine Rx.irem rfl ⟨by omega, by omega⟩ ⟨by omega, by omega⟩ (by omega) (by omega) ?_
  refine Rx.walk 4 (pc' := 19) (L' := [some (.ref 0), some (.int (iz 4)), some (.int (iz 1)), some (.int (iz 1)), some (.int (iz 0)), some (.int (iz 0))]) (st' := [.int (iz 1), .int (iz 0)]) (h' := cmH z zl (uf f 22 od) fl tx) rfl ?_
  refine Rx.callx (m' := m_X12_has) (as := [.int (iz 0), .int (iz 1)]) (rest := []) rfl (n_has_0_1 _ (cmH z zl (uf f 22 od) fl tx)   ) (fun v11 h12 q13 => ?_)
  obtain ⟨rfl, rfl⟩ := q13
  refine Rx.walk 0 (pc' := 22) (L' := [some (.ref 0), some (.int (iz 4)), some (.int (iz 1)), some (.int (iz 1)), some (.int (iz 0)), some (.int (iz 0))]) (st' := [.int (iz 0)]) (h' := cmH z zl (uf f 22 od) fl tx) rfl ?_
  refine Rx.ne1 rfl rfl ⟨by omega, by omega⟩ (fun b14 => by omega) (fun b14 => ?_)
  refine Rx.walk 4 (pc' := 32) (L' := [some (.ref 0), some (.int (iz 4)), some (.int (iz 1)), some (.int (iz 1)), some (.int (iz 0)), some (.int (iz 0))]) (st' := [.int (iz 0), .ref 22, .int (iz 1)]) (h' := cmH z zl (uf f 22 od) fl tx) rfl ?_
  refine Rx.ial (g := od) rfl rfl (by omega) (by omega) (by omega) ?_
  rw [show (od 0) = 2 from h0]
  refine Rx.eq2 rfl rfl ⟨by omega, by omega⟩ ⟨by omega, by omega⟩ (fun b15 => by omega) (fun b15 => ?_)
  refine Rx.walk 3 (pc' := 40) (L' := [some (.ref 0), some (.int (iz 4)), some (.int (iz 1)), some (.int (iz 1)), some (.int (iz 0)), some (.int (iz 0))]) (st' := [.int (iz 1), .int (iz 0), .int (iz 1)]) (h' := cmH z zl (uf f 22 od) fl tx) rfl ?_
  refine Rx.callx (m' := m_X12_has) (as := [.int (iz 0), .int (iz 1)]) (rest := [.int (iz 1)]) rfl (n_has_0_1 _ (cmH z zl (uf f 22 od) fl tx)   ) (fun v16 h17 q18 => ?_)
  obtain ⟨rfl, rfl⟩ := q18
  refine Rx.walk 0 (pc' := 43) (L' := [some (.ref 0), some (.int (iz 4)), some (.int (iz 1)), some (.int (iz 1)), some (.int (iz 0)), some (.int (iz 0))]) (st' := [.int (iz 0), .int (iz 1)]) (h' := cmH z zl (uf f 22 od) fl tx) rfl ?_
  refine Rx.eq1 rfl rfl ⟨by omega, by omega⟩ (fun b19 => ?_) (fun b19 => by omega)
  refine Rx.walk 1 (pc' := 51) (L' := [some (.ref 0), some (.int (iz 4)), some (.int (iz 1)), some (.int (iz 1)), some (.int (iz 0)), some (.int (iz 0))]) (st' := [.int (iz 1), .int (iz 1)]) (h' := cmH z zl (uf f 22 od) fl tx) rfl ?_
  refine Rx.iadd rfl ?_
  refine Rx.walk 0 (pc' := 52) (L' := [some (.ref 0), some (.int (iz 4)), some (.int (iz 1)), some (.int (iz 1)), some (.int (iz 0)), some (.int (iz 0))]) (st' := [.int (iz 2)]) (h' := cmH z zl (uf f 22 od) fl tx) rfl ?_
  refine Rx.walk 3 (pc' := 55) (L' := [some (.ref 0), some (.int (iz 4)), some (.int (iz 2)), some (.int (iz 1)), some (.int (iz 0)), some (.int (iz 0))]) (st' := [.int (iz 1), .int (iz 1)]) (h' := cmH z zl (uf f 22 od) fl tx) rfl ?_
  refine Rx.iadd rfl ?_
  refine Rx.walk 0 (pc' := 56) (L' := [some (.ref 0), some (.int (iz 4)), some (.int (iz 2)), some (.int (iz 1)), some (.int (iz 0)), some (.int (iz 0))]) (st' := [.int (iz 2)]) (h' := cmH z zl (uf f 22 od) fl tx) rfl ?_
  refine Rx.walk 1 (pc' := 57) (L' := [some (.ref 0), some (.int (iz 4)), some (.int (iz 2)), some (.int (iz 1)), some (.int (iz 0)), some (.int (iz 0))]) (st' := [.int (iz 4), .int (iz 2)]) (h' := cmH z zl (uf f 22 od) fl tx) rfl ?_
  refine Rx.irem rfl ⟨by omega, by omega⟩ ⟨by omega, by omega⟩ (by omega) (by omega) ?_
  refine Rx.walk 4 (pc' := 19) (L' := [some (.ref 0), some (.int (iz 4)), some (.int (iz 2)), some (.int (iz 2)), some (.int (iz 0)), some (.int (iz 0))]) (st' := [.int (iz 2), .int (iz 0)]) (h' := cmH z zl (uf f 22 od) fl tx) rfl ?_
  refine Rx.callx (m' := m_X12_has) (as := [.int (iz 0), .int (iz 2)]) (rest := []) rfl (n_has_0_2 _ (cmH z zl (uf f 22 od) fl tx)   ) (fun v20 h21 q22 => ?_)
  obtain ⟨rfl, rfl⟩ := q22
  refine Rx.walk 0 (pc' := 22) (L' := [some (.ref 0), some (.int (iz 4)), some (.int (iz 2)), some (.int (iz 2)), some (.int (iz 0)), some (.int (iz 0))]) (st' := [.int (iz 0)]) (h' := cmH z zl (uf f 22 od) fl tx) rfl ?_
  refine Rx.ne1 rfl rfl ⟨by omega, by omega⟩ (fun b23 => by omega) (fun b23 => ?_)
  refine Rx.walk 4 (pc' := 32) (L' := [some (.ref 0), some (.int (iz 4)), some (.int (iz 2)), some (.int (iz 2)), some (.int (iz 0)), some (.int (iz 0))]) (st' := [.int (iz 0), .ref 22, .int (iz 2)]) (h' := cmH z zl (uf f 22 od) fl tx) rfl ?_
  refine Rx.ial (g := od) rfl rfl (by omega) (by omega) (by omega) ?_
  rw [show (od 0) = 2 from h0]
  refine Rx.eq2 rfl rfl ⟨by omega, by omega⟩ ⟨by omega, by omega⟩ (fun b24 => ?_) (fun b24 => by omega)
  refine Rx.walk 3 (pc' := 66) (L' := [some (.ref 0), some (.int (iz 4)), some (.int (iz 2)), some (.int (iz 2)), some (.int (iz 0)), some (.int (iz 0))]) (st' := [.int (iz 2), .int (iz 1), .int (iz 0)]) (h' := cmH z zl (uf f 22 od) fl tx) rfl ?_
  refine Rx.ishl (c := 4) rfl (by decide) ?_
  refine Rx.ior (c := 4) rfl (by decide) ?_
  refine Rx.walk 1 (pc' := 70) (L' := [some (.ref 0), some (.int (iz 4)), some (.int (iz 2)), some (.int (iz 2)), some (.int (iz 4)), some (.int (iz 0))]) (st' := []) (h' := cmH z zl (uf f 22 od) fl tx) rfl ?_
  refine Rx.iinc (b := 1) rfl rfl rfl ?_
  refine Rx.walk 0 (pc' := 73) (L' := [some (.ref 0), some (.int (iz 4)), some (.int (iz 2)), some (.int (iz 2)), some (.int (iz 4)), some (.int (iz 1))]) (st' := []) (h' := cmH z zl (uf f 22 od) fl tx) rfl ?_
  refine Rx.walk 3 (pc' := 13) (L' := [some (.ref 0), some (.int (iz 4)), some (.int (iz 2)), some (.int (iz 2)), some (.int (iz 4)), some (.int (iz 1))]) (st' := [.int (iz 4), .int (iz 1)]) (h' := cmH z zl (uf f 22 od) fl tx) rfl ?_
  refine Rx.ge2 rfl rfl ⟨by omega, by omega⟩ ⟨by omega, by omega⟩ (fun b25 => by omega) (fun b25 => ?_)
  refine Rx.walk 2 (pc' := 19) (L' := [some (.ref 0), some (.int (iz 4)), some (.int (iz 2)), some (.int (iz 2)), some (.int (iz 4)), some (.int (iz 1))]) (st' := [.int (iz 2), .int (iz 4)]) (h' := cmH z zl (uf f 22 od) fl tx) rfl ?_
  refine Rx.callx (m' := m_X12_has) (as := [.int (iz 4), .int (iz 2)]) (rest := []) rfl (n_has_4_2 _ (cmH z zl (uf f 22 od) fl tx)   ) (fun v26 h27 q28 => ?_)
  obtain ⟨rfl, rfl⟩ := q28
  refine Rx.walk 0 (pc' := 22) (L' := [some (.ref 0), some (.int (iz 4)), some (.int (iz 2)), some (.int (iz 2)), some (.int (iz 4)), some (.int (iz 1))]) (st' := [.int (iz 1)]) (h' := cmH z zl (uf f 22 od) fl tx) rfl ?_
  refine Rx.ne1 rfl rfl ⟨by omega, by omega⟩ (fun b29 => ?_) (fun b29 => by omega)
  refine Rx.walk 3 (pc' := 40) (L' := [some (.ref 0), some (.int (iz 4)), some (.int (iz 2)), some (.int (iz 2)), some (.int (iz 4)), some (.int (iz 1))]) (st' := [.int (iz 2), .int (iz 4), .int (iz 2)]) (h' := cmH z zl (uf f 22 od) fl tx) rfl ?_
  refine Rx.callx (m' := m_X12_has) (as := [.int (iz 4), .int (iz 2)]) (rest := [.int (iz 2)]) rfl (n_has_4_2 _ (cmH z zl (uf f 22 od) fl tx)   ) (fun v30 h31 q32 => ?_)
  obtain ⟨rfl, rfl⟩ := q32
  refine Rx.walk 0 (pc' := 43) (L' := [some (.ref 0), some (.int (iz 4)), some (.int (iz 2)), some (.int (iz 2)), some (.int (iz 4)), some (.int (iz 1))]) (st' := [.int (iz 1), .int (iz 2)]) (h' := cmH z zl (uf f 22 od) fl tx) rfl ?_
  refine Rx.eq1 rfl rfl ⟨by omega, by omega⟩ (fun b33 => by omega) (fun b33 => ?_)
  refine Rx.walk 2 (pc' := 51) (L' := [some (.ref 0), some (.int (iz 4)), some (.int (iz 2)), some (.int (iz 2)), some (.int (iz 4)), some (.int (iz 1))]) (st' := [.int (iz 0), .int (iz 2)]) (h' := cmH z zl (uf f 22 od) fl tx) rfl ?_
  refine Rx.iadd rfl ?_
  refine Rx.walk 0 (pc' := 52) (L' := [some (.ref 0), some (.int (iz 4)), some (.int (iz 2)), some (.int (iz 2)), some (.int (iz 4)), some (.int (iz 1))]) (st' := [.int (iz 2)]) (h' := cmH z zl (uf f 22 od) fl tx) rfl ?_
  refine Rx.walk 3 (pc' := 55) (L' := [some (.ref 0), some (.int (iz 4)), some (.int (iz 2)), some (.int (iz 2)), some (.int (iz 4)), some (.int (iz 1))]) (st' := [.int (iz 1), .int (iz 2)]) (h' := cmH z zl (uf f 22 od) fl tx) rfl ?_
  refine Rx.iadd rfl ?_
  refine Rx.walk 0 (pc' := 56) (L' := [some (.ref 0), some (.int (iz 4)), some (.int (iz 2)), some (.int (iz 2)), some (.int (iz 4)), some (.int (iz 1))]) (st' := [.int (iz 3)]) (h' := cmH z zl (uf f 22 od) fl tx) rfl ?_
  refine Rx.walk 1 (pc' := 57) (L' := [some (.ref 0), some (.int (iz 4)), some (.int (iz 2)), some (.int (iz 2)), some (.int (iz 4)), some (.int (iz 1))]) (st' := [.int (iz 4), .int (iz 3)]) (h' := cmH z zl (uf f 22 od) fl tx) rfl ?_
  refine Rx.irem rfl ⟨by omega, by omega⟩ ⟨by omega, by omega⟩ (by omega) (by omega) ?_
  refine Rx.walk 4 (pc' := 19) (L' := [some (.ref 0), some (.int (iz 4)), some (.int (iz 2)), some (.int (iz 3)), some (.int (iz 4)), some (.int (iz 1))]) (st' := [.int (iz 3), .int (iz 4)]) (h' := cmH z zl (uf f 22 od) fl tx) rfl ?_
  refine Rx.callx (m' := m_X12_has) (as := [.int (iz 4), .int (iz 3)]) (rest := []) rfl (n_has_4_3 _ (cmH z zl (uf f 22 od) fl tx)   ) (fun v34 h35 q36 => ?_)
  obtain ⟨rfl, rfl⟩ := q36
  refine Rx.walk 0 (pc' := 22) (L' := [some (.ref 0), some (.int (iz 4)), some (.int (iz 2)), some (.int (iz 3)), some (.int (iz 4)), some (.int (iz 1))]) (st' := [.int (iz 0)]) (h' := cmH z zl (uf f 22 od) fl tx) rfl ?_
  refine Rx.ne1 rfl rfl ⟨by omega, by omega⟩ (fun b37 => by omega) (fun b37 => ?_)
  refine Rx.walk 4 (pc' := 32) (L' := [some (.ref 0), some (.int (iz 4)), some (.int (iz 2)), some (.int (iz 3)), some (.int (iz 4)), some (.int (iz 1))]) (st' := [.int (iz 1), .ref 22, .int (iz 3)]) (h' := cmH z zl (uf f 22 od) fl tx) rfl ?_
  refine Rx.ial (g := od) rfl rfl (by omega) (by omega) (by omega) ?_
  rw [show (od 1) = 0 from h1]
  refine Rx.eq2 rfl rfl ⟨by omega, by omega⟩ ⟨by omega, by omega⟩ (fun b38 => by omega) (fun b38 => ?_)
  refine Rx.walk 3 (pc' := 40) (L' := [some (.ref 0), some (.int (iz 4)), some (.int (iz 2)), some (.int (iz 3)), some (.int (iz 4)), some (.int (iz 1))]) (st' := [.int (iz 3), .int (iz 4), .int (iz 2)]) (h' := cmH z zl (uf f 22 od) fl tx) rfl ?_
  refine Rx.callx (m' := m_X12_has) (as := [.int (iz 4), .int (iz 3)]) (rest := [.int (iz 2)]) rfl (n_has_4_3 _ (cmH z zl (uf f 22 od) fl tx)   ) (fun v39 h40 q41 => ?_)
  obtain ⟨rfl, rfl⟩ := q41
  refine Rx.walk 0 (pc' := 43) (L' := [some (.ref 0), some (.int (iz 4)), some (.int (iz 2)), some (.int (iz 3)), some (.int (iz 4)), some (.int (iz 1))]) (st' := [.int (iz 0), .int (iz 2)]) (h' := cmH z zl (uf f 22 od) fl tx) rfl ?_
  refine Rx.eq1 rfl rfl ⟨by omega, by omega⟩ (fun b42 => ?_) (fun b42 => by omega)
  refine Rx.walk 1 (pc' := 51) (L' := [some (.ref 0), some (.int (iz 4)), some (.int (iz 2)), some (.int (iz 3)), some (.int (iz 4)), some (.int (iz 1))]) (st' := [.int (iz 1), .int (iz 2)]) (h' := cmH z zl (uf f 22 od) fl tx) rfl ?_
  refine Rx.iadd rfl ?_
  refine Rx.walk 0 (pc' := 52) (L' := [some (.ref 0), some (.int (iz 4)), some (.int (iz 2)), some (.int (iz 3)), some (.int (iz 4)), some (.int (iz 1))]) (st' := [.int (iz 3)]) (h' := cmH z zl (uf f 22 od) fl tx) rfl ?_
  refine Rx.walk 3 (pc' := 55) (L' := [some (.ref 0), some (.int (iz 4)), some (.int (iz 3)), some (.int (iz 3)), some (.int (iz 4)), some (.int (iz 1))]) (st' := [.int (iz 1), .int (iz 3)]) (h' := cmH z zl (uf f 22 od) fl tx) rfl ?_
  refine Rx.iadd rfl ?_
  refine Rx.walk 0 (pc' := 56) (L' := [some (.ref 0), some (.int (iz 4)), some (.int (iz 3)), some (.int (iz 3)), some (.int (iz 4)), some (.int (iz 1))]) (st' := [.int (iz 4)]) (h' := cmH z zl (uf f 22 od) fl tx) rfl ?_
  refine Rx.walk 1 (pc' := 57) (L' := [some (.ref 0), some (.int (iz 4)), some (.int (iz 3)), some (.int (iz 3)), some (.int (iz 4)), some (.int (iz 1))]) (st' := [.int (iz 4), .int (iz 4)]) (h' := cmH z zl (uf f 22 od) fl tx) rfl ?_
  refine Rx.irem rfl ⟨by omega, by omega⟩ ⟨by omega, by omega⟩ (by omega) (by omega) ?_
  refine Rx.walk 4 (pc' := 19) (L' := [some (.ref 0), some (.int (iz 4)), some (.int (iz 3)), some (.int (iz 0)), some (.int (iz 4)), some (.int (iz 1))]) (st' := [.int (iz 0), .int (iz 4)]) (h' := cmH z zl (uf f 22 od) fl tx) rfl ?_
  refine Rx.callx (m' := m_X12_has) (as := [.int (iz 4), .int (iz 0)]) (rest := []) rfl (n_has_4_0 _ (cmH z zl (uf f 22 od) fl tx)   ) (fun v43 h44 q45 => ?_)
  obtain ⟨rfl, rfl⟩ := q45
  refine Rx.walk 0 (pc' := 22) (L' := [some (.ref 0), some (.int (iz 4)), some (.int (iz 3)), some (.int (iz 0)), some (.int (iz 4)), some (.int (iz 1))]) (st' := [.int (iz 0)]) (h' := cmH z zl (uf f 22 od) fl tx) rfl ?_
  refine Rx.ne1 rfl rfl ⟨by omega, by omega⟩ (fun b46 => by omega) (fun b46 => ?_)
  refine Rx.walk 4 (pc' := 32) (L' := [some (.ref 0), some (.int (iz 4)), some (.int (iz 3)), some (.int (iz 0)), some (.int (iz 4)), some (.int (iz 1))]) (st' := [.int (iz 1), .ref 22, .int (iz 0)]) (h' := cmH z zl (uf f 22 od) fl tx) rfl ?_
  refine Rx.ial (g := od) rfl rfl (by omega) (by omega) (by omega) ?_
  rw [show (od 1) = 0 from h1]
  refine Rx.eq2 rfl rfl ⟨by omega, by omega⟩ ⟨by omega, by omega⟩ (fun b47 => ?_) (fun b47 => by omega)
  refine Rx.walk 3 (pc' := 66) (L' := [some (.ref 0), some (.int (iz 4)), some (.int (iz 3)), some (.int (iz 0)), some (.int (iz 4)), some (.int (iz 1))]) (st' := [.int (iz 0), .int (iz 1), .int (iz 4)]) (h' := cmH z zl (uf f 22 od) fl tx) rfl ?_
  refine Rx.ishl (c := 1) rfl (by decide) ?_
  refine Rx.ior (c := 5) rfl (by decide) ?_
  refine Rx.walk 1 (pc' := 70) (L' := [some (.ref 0), some (.int (iz 4)), some (.int (iz 3)), some (.int (iz 0)), some (.int (iz 5)), some (.int (iz 1))]) (st' := []) (h' := cmH z zl (uf f 22 od) fl tx) rfl ?_
  refine Rx.iinc (b := 1) rfl rfl rfl ?_
  refine Rx.walk 0 (pc' := 73) (L' := [some (.ref 0), some (.int (iz 4)), some (.int (iz 3)), some (.int (iz 0)), some (.int (iz 5)), some (.int (iz 2))]) (st' := []) (h' := cmH z zl (uf f 22 od) fl tx) rfl ?_
  refine Rx.walk 3 (pc' := 13) (L' := [some (.ref 0), some (.int (iz 4)), some (.int (iz 3)), some (.int (iz 0)), some (.int (iz 5)), some (.int (iz 2))]) (st' := [.int (iz 4), .int (iz 2)]) (h' := cmH z zl (uf f 22 od) fl tx) rfl ?_
  refine Rx.ge2 rfl rfl ⟨by omega, by omega⟩ ⟨by omega, by omega⟩ (fun b48 => by omega) (fun b48 => ?_)
  refine Rx.walk 2 (pc' := 19) (L' := [some (.ref 0), some (.int (iz 4)), some (.int (iz 3)), some (.int (iz 0)), some (.int (iz 5)), some (.int (iz 2))]) (st' := [.int (iz 0), .int (iz 5)]) (h' := cmH z zl (uf f 22 od) fl tx) rfl ?_
  refine Rx.callx (m' := m_X12_has) (as := [.int (iz 5), .int (iz 0)]) (rest := []) rfl (n_has_5_0 _ (cmH z zl (uf f 22 od) fl tx)   ) (fun v49 h50 q51 => ?_)
  obtain ⟨rfl, rfl⟩ := q51
  refine Rx.walk 0 (pc' := 22) (L' := [some (.ref 0), some (.int (iz 4)), some (.int (iz 3)), some (.int (iz 0)), some (.int (iz 5)), some (.int (iz 2))]) (st' := [.int (iz 1)]) (h' := cmH z zl (uf f 22 od) fl tx) rfl ?_
  refine Rx.ne1 rfl rfl ⟨by omega, by omega⟩ (fun b52 => ?_) (fun b52 => by omega)
  refine Rx.walk 3 (pc' := 40) (L' := [some (.ref 0), some (.int (iz 4)), some (.int (iz 3)), some (.int (iz 0)), some (.int (iz 5)), some (.int (iz 2))]) (st' := [.int (iz 0), .int (iz 5), .int (iz 3)]) (h' := cmH z zl (uf f 22 od) fl tx) rfl ?_
  refine Rx.callx (m' := m_X12_has) (as := [.int (iz 5), .int (iz 0)]) (rest := [.int (iz 3)]) rfl (n_has_5_0 _ (cmH z zl (uf f 22 od) fl tx)   ) (fun v53 h54 q55 => ?_)
  obtain ⟨rfl, rfl⟩ := q55
  refine Rx.walk 0 (pc' := 43) (L' := [some (.ref 0), some (.int (iz 4)), some (.int (iz 3)), some (.int (iz 0)), some (.int (iz 5)), some (.int (iz 2))]) (st' := [.int (iz 1), .int (iz 3)]) (h' := cmH z zl (uf f 22 od) fl tx) rfl ?_
  refine Rx.eq1 rfl rfl ⟨by omega, by omega⟩ (fun b56 => by omega) (fun b56 => ?_)
  refine Rx.walk 2 (pc' := 51) (L' := [some (.ref 0), some (.int (iz 4)), some (.int (iz 3)), some (.int (iz 0)), some (.int (iz 5)), some (.int (iz 2))]) (st' := [.int (iz 0), .int (iz 3)]) (h' := cmH z zl (uf f 22 od) fl tx) rfl ?_
  refine Rx.iadd rfl ?_
  refine Rx.walk 0 (pc' := 52) (L' := [some (.ref 0), some (.int (iz 4)), some (.int (iz 3)), some (.int (iz 0)), some (.int (iz 5)), some (.int (iz 2))]) (st' := [.int (iz 3)]) (h' := cmH z zl (uf f 22 od) fl tx) rfl ?_
  refine Rx.walk 3 (pc' := 55) (L' := [some (.ref 0), some (.int (iz 4)), some (.int (iz 3)), some (.int (iz 0)), some (.int (iz 5)), some (.int (iz 2))]) (st' := [.int (iz 1), .int (iz 0)]) (h' := cmH z zl (uf f 22 od) fl tx) rfl ?_
  refine Rx.iadd rfl ?_
  refine Rx.walk 0 (pc' := 56) (L' := [some (.ref 0), some (.int (iz 4)), some (.int (iz 3)), some (.int (iz 0)), some (.int (iz 5)), some (.int (iz 2))]) (st' := [.int (iz 1)]) (h' := cmH z zl (uf f 22 od) fl tx) rfl ?_
  refine Rx.walk 1 (pc' := 57) (L' := [some (.ref 0), some (.int (iz 4)), some (.int (iz 3)), some (.int (iz 0)), some (.int (iz 5)), some (.int (iz 2))]) (st' := [.int (iz 4), .int (iz 1)]) (h' := cmH z zl (uf f 22 od) fl tx) rfl ?_
  refine Rx.irem rfl ⟨by omega, by omega⟩ ⟨by omega, by omega⟩ (by omega) (by omega) ?_
  refine Rx.walk 4 (pc' := 19) (L' := [some (.ref 0), some (.int (iz 4)), some (.int (iz 3)), some (.int (iz 1)), some (.int (iz 5)), some (.int (iz 2))]) (st' := [.int (iz 1), .int (iz 5)]) (h' := cmH z zl (uf f 22 od) fl tx) rfl ?_
  refine Rx.callx (m' := m_X12_has) (as := [.int (iz 5), .int (iz 1)]) (rest := []) rfl (n_has_5_1 _ (cmH z zl (uf f 22 od) fl tx)   ) (fun v57 h58 q59 => ?_)
  obtain ⟨rfl, rfl⟩ := q59
  refine Rx.walk 0 (pc' := 22) (L' := [some (.ref 0), some (.int (iz 4)), some (.int (iz 3)), some (.int (iz 1)), some (.int (iz 5)), some (.int (iz 2))]) (st' := [.int (iz 0)]) (h' := cmH z zl (uf f 22 od) fl tx) rfl ?_
  refine Rx.ne1 rfl rfl ⟨by omega, by omega⟩ (fun b60 => by omega) (fun b60 => ?_)
  refine Rx.walk 4 (pc' := 32) (L' := [some (.ref 0), some (.int (iz 4)), some (.int (iz 3)), some (.int (iz 1)), some (.int (iz 5)), some (.int (iz 2))]) (st' := [.int (iz 2), .ref 22, .int (iz 1)]) (h' := cmH z zl (uf f 22 od) fl tx) rfl ?_
  refine Rx.ial (g := od) rfl rfl (by omega) (by omega) (by omega) ?_
  rw [show (od 2) = 1 from h2]
  refine Rx.eq2 rfl rfl ⟨by omega, by omega⟩ ⟨by omega, by omega⟩ (fun b61 => ?_) (fun b61 => by omega)
  refine Rx.walk 3 (pc' := 66) (L' := [some (.ref 0), some (.int (iz 4)), some (.int (iz 3)), some (.int (iz 1)), some (.int (iz 5)), some (.int (iz 2))]) (st' := [.int (iz 1), .int (iz 1), .int (iz 5)]) (h' := cmH z zl (uf f 22 od) fl tx) rfl ?_
  refine Rx.ishl (c := 2) rfl (by decide) ?_
  refine Rx.ior (c := 7) rfl (by decide) ?_
  refine Rx.walk 1 (pc' := 70) (L' := [some (.ref 0), some (.int (iz 4)), some (.int (iz 3)), some (.int (iz 1)), some (.int (iz 7)), some (.int (iz 2))]) (st' := []) (h' := cmH z zl (uf f 22 od) fl tx) rfl ?_
  refine Rx.iinc (b := 1) rfl rfl rfl ?_
  refine Rx.walk 0 (pc' := 73) (L' := [some (.ref 0), some (.int (iz 4)), some (.int (iz 3)), some (.int (iz 1)), some (.int (iz 7)), some (.int (iz 3))]) (st' := []) (h' := cmH z zl (uf f 22 od) fl tx) rfl ?_
  refine Rx.walk 3 (pc' := 13) (L' := [some (.ref 0), some (.int (iz 4)), some (.int (iz 3)), some (.int (iz 1)), some (.int (iz 7)), some (.int (iz 3))]) (st' := [.int (iz 4), .int (iz 3)]) (h' := cmH z zl (uf f 22 od) fl tx) rfl ?_
  refine Rx.ge2 rfl rfl ⟨by omega, by omega⟩ ⟨by omega, by omega⟩ (fun b62 => by omega) (fun b62 => ?_)
  refine Rx.walk 2 (pc' := 19) (L' := [some (.ref 0), some (.int (iz 4)), some (.int (iz 3)), some (.int (iz 1)), some (.int (iz 7)), some (.int (iz 3))]) (st' := [.int (iz 1), .int (iz 7)]) (h' := cmH z zl (uf f 22 od) fl tx) rfl ?_
  refine Rx.callx (m' := m_X12_has) (as := [.int (iz 7), .int (iz 1)]) (rest := []) rfl (n_has_7_1 _ (cmH z zl (uf f 22 od) fl tx)   ) (fun v63 h64 q65 => ?_)
  obtain ⟨rfl, rfl⟩ := q65
  refine Rx.walk 0 (pc' := 22) (L' := [some (.ref 0), some (.int (iz 4)), some (.int (iz 3)), some (.int (iz 1)), some (.int (iz 7)), some (.int (iz 3))]) (st' := [.int (iz 1)]) (h' := cmH z zl (uf f 22 od) fl tx) rfl ?_
  refine Rx.ne1 rfl rfl ⟨by omega, by omega⟩ (fun b66 => ?_) (fun b66 => by omega)
  refine Rx.walk 3 (pc' := 40) (L' := [some (.ref 0), some (.int (iz 4)), some (.int (iz 3)), some (.int (iz 1)), some (.int (iz 7)), some (.int (iz 3))]) (st' := [.int (iz 1), .int (iz 7), .int (iz 3)]) (h' := cmH z zl (uf f 22 od) fl tx) rfl ?_
  refine Rx.callx (m' := m_X12_has) (as := [.int (iz 7), .int (iz 1)]) (rest := [.int (iz 3)]) rfl (n_has_7_1 _ (cmH z zl (uf f 22 od) fl tx)   ) (fun v67 h68 q69 => ?_)
  obtain ⟨rfl, rfl⟩ := q69
  refine Rx.walk 0 (pc' := 43) (L' := [some (.ref 0), some (.int (iz 4)), some (.int (iz 3)), some (.int (iz 1)), some (.int (iz 7)), some (.int (iz 3))]) (st' := [.int (iz 1), .int (iz 3)]) (h' := cmH z zl (uf f 22 od) fl tx) rfl ?_
  refine Rx.eq1 rfl rfl ⟨by omega, by omega⟩ (fun b70 => by omega) (fun b70 => ?_)
  refine Rx.walk 2 (pc' := 51) (L' := [some (.ref 0), some (.int (iz 4)), some (.int (iz 3)), some (.int (iz 1)), some (.int (iz 7)), some (.int (iz 3))]) (st' := [.int (iz 0), .int (iz 3)]) (h' := cmH z zl (uf f 22 od) fl tx) rfl ?_
  refine Rx.iadd rfl ?_
  refine Rx.walk 0 (pc' := 52) (L' := [some (.ref 0), some (.int (iz 4)), some (.int (iz 3)), some (.int (iz 1)), some (.int (iz 7)), some (.int (iz 3))]) (st' := [.int (iz 3)]) (h' := cmH z zl (uf f 22 od) fl tx) rfl ?_
  refine Rx.walk 3 (pc' := 55) (L' := [some (.ref 0), some (.int (iz 4)), some (.int (iz 3)), some (.int (iz 1)), some (.int (iz 7)), some (.int (iz 3))]) (st' := [.int (iz 1), .int (iz 1)]) (h' := cmH z zl (uf f 22 od) fl tx) rfl ?_
  refine Rx.iadd rfl ?_
  refine Rx.walk 0 (pc' := 56) (L' := [some (.ref 0), some (.int (iz 4)), some (.int (iz 3)), some (.int (iz 1)), some (.int (iz 7)), some (.int (iz 3))]) (st' := [.int (iz 2)]) (h' := cmH z zl (uf f 22 od) fl tx) rfl ?_
  refine Rx.walk 1 (pc' := 57) (L' := [some (.ref 0), some (.int (iz 4)), some (.int (iz 3)), some (.int (iz 1)), some (.int (iz 7)), some (.int (iz 3))]) (st' := [.int (iz 4), .int (iz 2)]) (h' := cmH z zl (uf f 22 od) fl tx) rfl ?_
  refine Rx.irem rfl ⟨by omega, by omega⟩ ⟨by omega, by omega⟩ (by omega) (by omega) ?_
  refine Rx.walk 4 (pc' := 19) (L' := [some (.ref 0), some (.int (iz 4)), some (.int (iz 3)), some (.int (iz 2)), some (.int (iz 7)), some (.int (iz 3))]) (st' := [.int (iz 2), .int (iz 7)]) (h' := cmH z zl (uf f 22 od) fl tx) rfl ?_
  refine Rx.callx (m' := m_X12_has) (as := [.int (iz 7), .int (iz 2)]) (rest := []) rfl (n_has_7_2 _ (cmH z zl (uf f 22 od) fl tx)   ) (fun v71 h72 q73 => ?_)
  obtain ⟨rfl, rfl⟩ := q73
  refine Rx.walk 0 (pc' := 22) (L' := [some (.ref 0), some (.int (iz 4)), some (.int (iz 3)), some (.int (iz 2)), some (.int (iz 7)), some (.int (iz 3))]) (st' := [.int (iz 1)]) (h' := cmH z zl (uf f 22 od) fl tx) rfl ?_
  refine Rx.ne1 rfl rfl ⟨by omega, by omega⟩ (fun b74 => ?_) (fun b74 => by omega)
  refine Rx.walk 3 (pc' := 40) (L' := [some (.ref 0), some (.int (iz 4)), some (.int (iz 3)), some (.int (iz 2)), some (.int (iz 7)), some (.int (iz 3))]) (st' := [.int (iz 2), .int (iz 7), .int (iz 3)]) (h' := cmH z zl (uf f 22 od) fl tx) rfl ?_
  refine Rx.callx (m' := m_X12_has) (as := [.int (iz 7), .int (iz 2)]) (rest := [.int (iz 3)]) rfl (n_has_7_2 _ (cmH z zl (uf f 22 od) fl tx)   ) (fun v75 h76 q77 => ?_)
  obtain ⟨rfl, rfl⟩ := q77
  refine Rx.walk 0 (pc' := 43) (L' := [some (.ref 0), some (.int (iz 4)), some (.int (iz 3)), some (.int (iz 2)), some (.int (iz 7)), some (.int (iz 3))]) (st' := [.int (iz 1), .int (iz 3)]) (h' := cmH z zl (uf f 22 od) fl tx) rfl ?_
  refine Rx.eq1 rfl rfl ⟨by omega, by omega⟩ (fun b78 => by omega) (fun b78 => ?_)
  refine Rx.walk 2 (pc' := 51) (L' := [some (.ref 0), some (.int (iz 4)), some (.int (iz 3)), some (.int (iz 2)), some (.int (iz 7)), some (.int (iz 3))]) (st' := [.int (iz 0), .int (iz 3)]) (h' := cmH z zl (uf f 22 od) fl tx) rfl ?_
  refine Rx.iadd rfl ?_
  refine Rx.walk 0 (pc' := 52) (L' := [some (.ref 0), some (.int (iz 4)), some (.int (iz 3)), some (.int (iz 2)), some (.int (iz 7)), some (.int (iz 3))]) (st' := [.int (iz 3)]) (h' := cmH z zl (uf f 22 od) fl tx) rfl ?_
  refine Rx.walk 3 (pc' := 55) (L' := [some (.ref 0), some (.int (iz 4)), some (.int (iz 3)), some (.int (iz 2)), some (.int (iz 7)), some (.int (iz 3))]) (st' := [.int (iz 1), .int (iz 2)]) (h' := cmH z zl (uf f 22 od) fl tx) rfl ?_
  refine Rx.iadd rfl ?_
  refine Rx.walk 0 (pc' := 56) (L' := [some (.ref 0), some (.int (iz 4)), some (.int (iz 3)), some (.int (iz 2)), some (.int (iz 7)), some (.int (iz 3))]) (st' := [.int (iz 3)]) (h' := cmH z zl (uf f 22 od) fl tx) rfl ?_
  refine Rx.walk 1 (pc' := 57) (L' := [some (.ref 0), some (.int (iz 4)), some (.int (iz 3)), some (.int (iz 2)), some (.int (iz 7)), some (.int (iz 3))]) (st' := [.int (iz 4), .int (iz 3)]) (h' := cmH z zl (uf f 22 od) fl tx) rfl ?_
  refine Rx.irem rfl ⟨by omega, by omega⟩ ⟨by omega, by omega⟩ (by omega) (by omega) ?_
  refine Rx.walk 4 (pc' := 19) (L' := [some (.ref 0), some (.int (iz 4)), some (.int (iz 3)), some (.int (iz 3)), some (.int (iz 7)), some (.int (iz 3))]) (st' := [.int (iz 3), .int (iz 7)]) (h' := cmH z zl (uf f 22 od) fl tx) rfl ?_
  refine Rx.callx (m' := m_X12_has) (as := [.int (iz 7), .int (iz 3)]) (rest := []) rfl (n_has_7_3 _ (cmH z zl (uf f 22 od) fl tx)   ) (fun v79 h80 q81 => ?_)
  obtain ⟨rfl, rfl⟩ := q81
  refine Rx.walk 0 (pc' := 22) (L' := [some (.ref 0), some (.int (iz 4)), some (.int (iz 3)), some (.int (iz 3)), some (.int (iz 7)), some (.int (iz 3))]) (st' := [.int (iz 0)]) (h' := cmH z zl (uf f 22 od) fl tx) rfl ?_
  refine Rx.ne1 rfl rfl ⟨by omega, by omega⟩ (fun b82 => by omega) (fun b82 => ?_)
  refine Rx.walk 4 (pc' := 32) (L' := [some (.ref 0), some (.int (iz 4)), some (.int (iz 3)), some (.int (iz 3)), some (.int (iz 7)), some (.int (iz 3))]) (st' := [.int (iz 3), .ref 22, .int (iz 3)]) (h' := cmH z zl (uf f 22 od) fl tx) rfl ?_
  refine Rx.ial (g := od) rfl rfl (by omega) (by omega) (by omega) ?_
  rw [show (od 3) = 3 from h3]
  refine Rx.eq2 rfl rfl ⟨by omega, by omega⟩ ⟨by omega, by omega⟩ (fun b83 => ?_) (fun b83 => by omega)
  refine Rx.walk 3 (pc' := 66) (L' := [some (.ref 0), some (.int (iz 4)), some (.int (iz 3)), some (.int (iz 3)), some (.int (iz 7)), some (.int (iz 3))]) (st' := [.int (iz 3), .int (iz 1), .int (iz 7)]) (h' := cmH z zl (uf f 22 od) fl tx) rfl ?_
  refine Rx.ishl (c := 8) rfl (by decide) ?_
  refine Rx.ior (c := 15) rfl (by decide) ?_
  refine Rx.walk 1 (pc' := 70) (L' := [some (.ref 0), some (.int (iz 4)), some (.int (iz 3)), some (.int (iz 3)), some (.int (iz 15)), some (.int (iz 3))]) (st' := []) (h' := cmH z zl (uf f 22 od) fl tx) rfl ?_
  refine Rx.iinc (b := 1) rfl rfl rfl ?_
  refine Rx.walk 0 (pc' := 73) (L' := [some (.ref 0), some (.int (iz 4)), some (.int (iz 3)), some (.int (iz 3)), some (.int (iz 15)), some (.int (iz 4))]) (st' := []) (h' := cmH z zl (uf f 22 od) fl tx) rfl ?_
  refine Rx.walk 3 (pc' := 13) (L' := [some (.ref 0), some (.int (iz 4)), some (.int (iz 3)), some (.int (iz 3)), some (.int (iz 15)), some (.int (iz 4))]) (st' := [.int (iz 4), .int (iz 4)]) (h' := cmH z zl (uf f 22 od) fl tx) rfl ?_
  refine Rx.ge2 rfl rfl ⟨by omega, by omega⟩ ⟨by omega, by omega⟩ (fun b84 => ?_) (fun b84 => by omega)
  refine Rx.walk 1 (pc' := 77) (L' := [some (.ref 0), some (.int (iz 4)), some (.int (iz 3)), some (.int (iz 3)), some (.int (iz 15)), some (.int (iz 4))]) (st' := [.int (iz 3)]) (h' := cmH z zl (uf f 22 od) fl tx) rfl ?_
  refine Rx.ret rfl ?_
  exact ⟨rfl, rfl⟩
set_option maxRecDepth 100000 in
set_option maxHeartbeats 4000000 in
theorem m_stepsOf4_13 (d : Nat) (z : Nat → Int) (zl : Nat → Int) (f : Nat → Int → Int) (fl : Nat → Int → Int) (tx : Nat)  (od : Int → Int) (h0 : od 0 = 2) (h1 : od 1 = 0) (h2 : od 2 = 3) (h3 : od 3 = 1) : Rx (d + 1) m_X12_stepsOf 0 (am_ent [.ref 0, .int (iz 4)] 6) [] (cmH z zl (uf f 22 od) fl tx) (fun rv h => rv = some (.int (iz 4)) ∧ h = cmH z zl (uf f 22 od) fl tx) := by
  refine Rx.walk 0 (pc' := 0) (L' := [some (.ref 0), some (.int (iz 4)), none, none, none, none]) (st' := []) (h' := cmH z zl (uf f 22 od) fl tx) rfl ?_
  refine Rx.walk 10 (pc' := 13) (L' := [some (.ref 0), some (.int (iz 4)), some (.int (iz 0)), some (.int (iz 0)), some (.int (iz 0)), some (.int (iz 0))]) (st' := [.int (iz 4), .int (iz 0)]) (h' := cmH z zl (uf f 22 od) fl tx) rfl ?_
  refine Rx.ge2 rfl rfl ⟨by omega, by omega⟩ ⟨by omega, by omega⟩ (fun b1 => by omega) (fun b1 => ?_)
  refine Rx.walk 2 (pc' := 19) (L' := [some (.ref 0), some (.int (iz 4)), some (.int (iz 0)), some (.int (iz 0)), some (.int (iz 0)), some (.int (iz 0))]) (st' := [.int (iz 0), .int (iz 0)]) (h' := cmH z zl (uf f 22 od) fl tx) rfl ?_
  refine Rx.callx (m' := m_X12_has) (as := [.int (iz 0), .int (iz 0)]) (rest := []) rfl (n_has_0_0 _ (cmH z zl (uf f 22 od) fl tx)   ) (fun v2 h3 q4 => ?_)
  obtain ⟨rfl, rfl⟩ := q4
  refine Rx.walk 0 (pc' := 22) (L' := [some (.ref 0), some (.int (iz 4)), some (.int (iz 0)), some (.int (iz 0)), some (.int (iz 0)), some (.int (iz 0))]) (st' := [.int (iz 0)]) (h' := cmH z zl (uf f 22 od) fl tx) rfl ?_
  refine Rx.ne1 rfl rfl ⟨by omega, by omega⟩ (fun b5 => by omega) (fun b5 => ?_)
  refine Rx.walk 4 (pc' := 32) (L' := [some (.ref 0), some (.int (iz 4)), some (.int (iz 0)), some (.int (iz 0)), some (.int (iz 0)), some (.int (iz 0))]) (st' := [.int (iz 0), .ref 22, .int (iz 0)]) (h' := cmH z zl (uf f 22 od) fl tx) rfl ?_
  refine Rx.ial (g := od) rfl rfl (by omega) (by omega) (by omega) ?_
  rw [show (od 0) = 2 from h0]
  refine Rx.eq2 rfl rfl ⟨by omega, by omega⟩ ⟨by omega, by omega⟩ (fun b6 => by omega) (fun b6 => ?_)
  refine Rx.walk 3 (pc' := 40) (L' := [some (.ref 0), some (.int (iz 4)), some (.int (iz 0)), some (.int (iz 0)), some (.int (iz 0)), some (.int (iz 0))]) (st' := [.int (iz 0), .int (iz 0), .int (iz 0)]) (h' := cmH z zl (uf f 22 od) fl tx) rfl ?_
  refine Rx.callx (m' := m_X12_has) (as := [.int (iz 0), .int (iz 0)]) (rest := [.int (iz 0)]) rfl (n_has_0_0 _ (cmH z zl (uf f 22 od) fl tx)   ) (fun v7 h8 q9 => ?_)
  obtain ⟨rfl, rfl⟩ := q9
  refine Rx.walk 0 (pc' := 43) (L' := [some (.ref 0), some (.int (iz 4)), some (.int (iz 0)), some (.int (iz 0)), some (.int (iz 0)), some (.int (iz 0))]) (st' := [.int (iz 0), .int (iz 0)]) (h' := cmH z zl (uf f 22 od) fl tx) rfl ?_
  refine Rx.eq1 rfl rfl ⟨by omega, by omega⟩ (fun b10 => ?_) (fun b10 => by omega)
  refine Rx.walk 1 (pc' := 51) (L' := [some (.ref 0), some (.int (iz 4)), some (.int (iz 0)), some (.int (iz 0)), some (.int (iz 0)), some (.int (iz 0))]) (st' := [.int (iz 1), .int (iz 0)]) (h' := cmH z zl (uf f 22 od) fl tx) rfl ?_
  refine Rx.iadd rfl ?_
  refine Rx.walk 0 (pc' := 52) (L' := [some (.ref 0), some (.int (iz 4)), some (.int (iz 0)), some (.int (iz 0)), some (.int (iz 0)), some (.int (iz 0))]) (st' := [.int (iz 1)]) (h' := cmH z zl (uf f 22 od) fl tx) rfl ?_
  refine Rx.walk 3 (pc' := 55) (L' := [some (.ref 0), some (.int (iz 4)), some (.int (iz 1)), some (.int (iz 0)), some (.int (iz 0)), some (.int (iz 0))]) (st' := [.int (iz 1), .int (iz 0)]) (h' := cmH z zl (uf f 22 od) fl tx) rfl ?_
  refine Rx.iadd rfl ?_
  refine Rx.walk 0 (pc' := 56) (L' := [some (.ref 0), some (.int (iz 4)), some (.int (iz 1)), some (.int (iz 0)), some (.int (iz 0)), some (.int (iz 0))]) (st' := [.int (iz 1)]) (h' := cmH z zl (uf f 22 od) fl tx) rfl ?_
  refine Rx.walk 1 (pc' := 57) (L' := [some (.ref 0), some (.int (iz 4)), some (.int (iz 1)), some (.int (iz 0)), some (.int (iz 0)), some (.int (iz 0))]) (st' := [.int (iz 4), .int (iz 1)]) (h' := cmH z zl (uf f 22 od) fl tx) rfl ?_
  refine Rx.irem rfl ⟨by omega, by omega⟩ ⟨by omega, by omega⟩ (by omega) (by omega) ?_
  refine Rx.walk 4 (pc' := 19) (L' := [some (.ref 0), some (.int (iz 4)), some (.int (iz 1)), some (.int (iz 1)), some (.int (iz 0)), some (.int (iz 0))]) (st' := [.int (iz 1), .int (iz 0)]) (h' := cmH z zl (uf f 22 od) fl tx) rfl ?_
  refine Rx.callx (m' := m_X12_has) (as := [.int (iz 0), .int (iz 1)]) (rest := []) rfl (n_has_0_1 _ (cmH z zl (uf f 22 od) fl tx)   ) (fun v11 h12 q13 => ?_)
  obtain ⟨rfl, rfl⟩ := q13
  refine Rx.walk 0 (pc' := 22) (L' := [some (.ref 0), some (.int (iz 4)), some (.int (iz 1)), some (.int (iz 1)), some (.int (iz 0)), some (.int (iz 0))]) (st' := [.int (iz 0)]) (h' := cmH z zl (uf f 22 od) fl tx) rfl ?_
  refine Rx.ne1 rfl rfl ⟨by omega, by omega⟩ (fun b14 => by omega) (fun b14 => ?_)
  refine Rx.walk 4 (pc' := 32) (L' := [some (.ref 0), some (.int (iz 4)), some (.int (iz 1)), some (.int (iz 1)), some (.int (iz 0)), some (.int (iz 0))]) (st' := [.int (iz 0), .ref 22, .int (iz 1)]) (h' := cmH z zl (uf f 22 od) fl tx) rfl ?_
  refine Rx.ial (g := od) rfl rfl (by omega) (by omega) (by omega) ?_
  rw [show (od 0) = 2 from h0]
  refine Rx.eq2 rfl rfl ⟨by omega, by omega⟩ ⟨by omega, by omega⟩ (fun b15 => by omega) (fun b15 => ?_)
  refine Rx.walk 3 (pc' := 40) (L' := [some (.ref 0), some (.int (iz 4)), some (.int (iz 1)), some (.int (iz 1)), some (.int (iz 0)), some (.int (iz 0))]) (st' := [.int (iz 1), .int (iz 0), .int (iz 1)]) (h' := cmH z zl (uf f 22 od) fl tx) rfl ?_
  refine Rx.callx (m' := m_X12_has) (as := [.int (iz 0), .int (iz 1)]) (rest := [.int (iz 1)]) rfl (n_has_0_1 _ (cmH z zl (uf f 22 od) fl tx)   ) (fun v16 h17 q18 => ?_)
  obtain ⟨rfl, rfl⟩ := q18
  refine Rx.walk 0 (pc' := 43) (L' := [some (.ref 0), some (.int (iz 4)), some (.int (iz 1)), some (.int (iz 1)), some (.int (iz 0)), some (.int (iz 0))]) (st' := [.int (iz 0), .int (iz 1)]) (h' := cmH z zl (uf f 22 od) fl tx) rfl ?_
  refine Rx.eq1 rfl rfl ⟨by omega, by omega⟩ (fun b19 => ?_) (fun b19 => by omega)
  refine Rx.walk 1 (pc' := 51) (L' := [some (.ref 0), some (.int (iz 4)), some (.int (iz 1)), some (.int (iz 1)), some (.int (iz 0)), some (.int (iz 0))]) (st' := [.int (iz 1), .int (iz 1)]) (h' := cmH z zl (uf f 22 od) fl tx) rfl ?_
  refine Rx.iadd rfl ?_
  refine Rx.walk 0 (pc' := 52) (L' := [some (.ref 0), some (.int (iz 4)), some (.int (iz 1)), some (.int (iz 1)), some (.int (iz 0)), some (.int (iz 0))]) (st' := [.int (iz 2)]) (h' := cmH z zl (uf f 22 od) fl tx) rfl ?_
  refine Rx.walk 3 (pc' := 55) (L' := [some (.ref 0), some (.int (iz 4)), some (.int (iz 2)), some (.int (iz 1)), some (.int (iz 0)), some (.int (iz 0))]) (st' := [.int (iz 1), .int (iz 1)]) (h' := cmH z zl (uf f 22 od) fl tx) rfl ?_
  refine Rx.iadd rfl ?_
  refine Rx.walk 0 (pc' := 56) (L' := [some (.ref 0), some (.int (iz 4)), some (.int (iz 2)), some (.int (iz 1)), some (.int (iz 0)), some (.int (iz 0))]) (st' := [.int (iz 2)]) (h' := cmH z zl (uf f 22 od) fl tx) rfl ?_
  refine Rx.walk 1 (pc' := 57) (L' := [some (.ref 0), some (.int (iz 4)), some (.int (iz 2)), some (.int (iz 1)), some (.int (iz 0)), some (.int (iz 0))]) (st' := [.int (iz 4), .int (iz 2)]) (h' := cmH z zl (uf f 22 od) fl tx) rfl ?_
  refine Rx.irem rfl ⟨by omega, by omega⟩ ⟨by omega, by omega⟩ (by omega) (by omega) ?_
  refine Rx.walk 4 (pc' := 19) (L' := [some (.ref 0), some (.int (iz 4)), some (.int (iz 2)), some (.int (iz 2)), some (.int (iz 0)), some (.int (iz 0))]) (st' := [.int (iz 2), .int (iz 0)]) (h' := cmH z zl (uf f 22 od) fl tx) rfl ?_
  refine Rx.callx (m' := m_X12_has) (as := [.int (iz 0), .int (iz 2)]) (rest := []) rfl (n_has_0_2 _ (cmH z zl (uf f 22 od) fl tx)   ) (fun v20 h21 q22 => ?_)
  obtain ⟨rfl, rfl⟩ := q22
  refine Rx.walk 0 (pc' := 22) (L' := [some (.ref 0), some (.int (iz 4)), some (.int (iz 2)), some (.int (iz 2)), some (.int (iz 0)), some (.int (iz 0))]) (st' := [.int (iz 0)]) (h' := cmH z zl (uf f 22 od) fl tx) rfl ?_
  refine Rx.ne1 rfl rfl ⟨by omega, by omega⟩ (fun b23 => by omega) (fun b23 => ?_)
  refine Rx.walk 4 (pc' := 32) (L' := [some (.ref 0), some (.int (iz 4)), some (.int (iz 2)), some (.int (iz 2)), some (.int (iz 0)), some (.int (iz 0))]) (st' := [.int (iz 0), .ref 22, .int (iz 2)]) (h' := cmH z zl (uf f 22 od) fl tx) rfl ?_
  refine Rx.ial (g := od) rfl rfl (by omega) (by omega) (by omega) ?_
  rw [show (od 0) = 2 from h0]
  refine Rx.eq2 rfl rfl ⟨by omega, by omega⟩ ⟨by omega, by omega⟩ (fun b24 => ?_) (fun b24 => by omega)
  refine Rx.walk 3 (pc' := 66) (L' := [some (.ref 0), some (.int (iz 4)), some (.int (iz 2)), some (.int (iz 2)), some (.int (iz 0)), some (.int (iz 0))]) (st' := [.int (iz 2), .int (iz 1), .int (iz 0)]) (h' := cmH z zl (uf f 22 od) fl tx) rfl ?_
  refine Rx.ishl (c := 4) rfl (by decide) ?_
  refine Rx.ior (c := 4) rfl (by decide) ?_
  refine Rx.walk 1 (pc' := 70) (L' := [some (.ref 0), some (.int (iz 4)), some (.int (iz 2)), some (.int (iz 2)), some (.int (iz 4)), some (.int (iz 0))]) (st' := []) (h' := cmH z zl (uf f 22 od) fl tx) rfl ?_
  refine Rx.iinc (b := 1) rfl rfl rfl ?_
  refine Rx.walk 0 (pc' := 73) (L' := [some (.ref 0), some (.int (iz 4)), some (.int (iz 2)), some (.int (iz 2)), some (.int (iz 4)), some (.int (iz 1))]) (st' := []) (h' := cmH z zl (uf f 22 od) fl tx) rfl ?_
  refine Rx.walk 3 (pc' := 13) (L' := [some (.ref 0), some (.int (iz 4)), some (.int (iz 2)), some (.int (iz 2)), some (.int (iz 4)), some (.int (iz 1))]) (st' := [.int (iz 4), .int (iz 1)]) (h' := cmH z zl (uf f 22 od) fl tx) rfl ?_
  refine Rx.ge2 rfl rfl ⟨by omega, by omega⟩ ⟨by omega, by omega⟩ (fun b25 => by omega) (fun b25 => ?_)
  refine Rx.walk 2 (pc' := 19) (L' := [some (.ref 0), some (.int (iz 4)), some (.int (iz 2)), some (.int (iz 2)), some (.int (iz 4)), some (.int (iz 1))]) (st' := [.int (iz 2), .int (iz 4)]) (h' := cmH z zl (uf f 22 od) fl tx) rfl ?_
  refine Rx.callx (m' := m_X12_has) (as := [.int (iz 4), .int (iz 2)]) (rest := []) rfl (n_has_4_2 _ (cmH z zl (uf f 22 od) fl tx)   ) (fun v26 h27 q28 => ?_)
  obtain ⟨rfl, rfl⟩ := q28
  refine Rx.walk 0 (pc' := 22) (L' := [some (.ref 0), some (.int (iz 4)), some (.int (iz 2)), some (.int (iz 2)), some (.int (iz 4)), some (.int (iz 1))]) (st' := [.int (iz 1)]) (h' := cmH z zl (uf f 22 od) fl tx) rfl ?_
  refine Rx.ne1 rfl rfl ⟨by omega, by omega⟩ (fun b29 => ?_) (fun b29 => by omega)
  refine Rx.walk 3 (pc' := 40) (L' := [some (.ref 0), some (.int (iz 4)), some (.int (iz 2)), some (.int (iz 2)), some (.int (iz 4)), some (.int (iz 1))]) (st' := [.int (iz 2), .int (iz 4), .int (iz 2)]) (h' := cmH z zl (uf f 22 od) fl tx) rfl ?_
  refine Rx.callx (m' := m_X12_has) (as := [.int (iz 4), .int (iz 2)]) (rest := [.int (iz 2)]) rfl (n_has_4_2 _ (cmH z zl (uf f 22 od) fl tx)   ) (fun v30 h31 q32 => ?_)
  obtain ⟨rfl, rfl⟩ := q32
  refine Rx.walk 0 (pc' := 43) (L' := [some (.ref 0), some (.int (iz 4)), some (.int (iz 2)), some (.int (iz 2)), some (.int (iz 4)), some (.int (iz 1))]) (st' := [.int (iz 1), .int (iz 2)]) (h' := cmH z zl (uf f 22 od) fl tx) rfl ?_
  refine Rx.eq1 rfl rfl ⟨by omega, by omega⟩ (fun b33 => by omega) (fun b33 => ?_)
  refine Rx.walk 2 (pc' := 51) (L' := [some (.ref 0), some (.int (iz 4)), some (.int (iz 2)), some (.int (iz 2)), some (.int (iz 4)), some (.int (iz 1))]) (st' := [.int (iz 0), .int (iz 2)]) (h' := cmH z zl (uf f 22 od) fl tx) rfl ?_
  refine Rx.iadd rfl ?_
  refine Rx.walk 0 (pc' := 52) (L' := [some (.ref 0), some (.int (iz 4)), some (.int (iz 2)), some (.int (iz 2)), some (.int (iz 4)), some (.int (iz 1))]) (st' := [.int (iz 2)]) (h' := cmH z zl (uf f 22 od) fl tx) rfl ?_
  refine Rx.walk 3 (pc' := 55) (L' := [some (.ref 0), some (.int (iz 4)), some (.int (iz 2)), some (.int (iz 2)), some (.int (iz 4)), some (.int (iz 1))]) (st' := [.int (iz 1), .int (iz 2)]) (h' := cmH z zl (uf f 22 od) fl tx) rfl ?_
  refine Rx.iadd rfl ?_
  refine Rx.walk 0 (pc' := 56) (L' := [some (.ref 0), some (.int (iz 4)), some (.int (iz 2)), some (.int (iz 2)), some (.int (iz 4)), some (.int (iz 1))]) (st' := [.int (iz 3)]) (h' := cmH z zl (uf f 22 od) fl tx) rfl ?_
  refine Rx.walk 1 (pc' := 57) (L' := [some (.ref 0), some (.int (iz 4)), some (.int (iz 2)), some (.int (iz 2)), some (.int (iz 4)), some (.int (iz 1))]) (st' := [.int (iz 4), .int (iz 3)]) (h' := cmH z zl (uf f 22 od) fl tx) rfl ?_
  refine Rx.irem rfl ⟨by omega, by omega⟩ ⟨by omega, by omega⟩ (by omega) (by omega) ?_
  refine Rx.walk 4 (pc' := 19) (L' := [some (.ref 0), some (.int (iz 4)), some (.int (iz 2)), some (.int (iz 3)), some (.int (iz 4)), some (.int (iz 1))]) (st' := [.int (iz 3), .int (iz 4)]) (h' := cmH z zl (uf f 22 od) fl tx) rfl ?_
  refine Rx.callx (m' := m_X12_has) (as := [.int (iz 4), .int (iz 3)]) (rest := []) rfl (n_has_4_3 _ (cmH z zl (uf f 22 od) fl tx)   ) (fun v34 h35 q36 => ?_)
  obtain ⟨rfl, rfl⟩ := q36
  refine Rx.walk 0 (pc' := 22) (L' := [some (.ref 0), some (.int (iz 4)), some (.int (iz 2)), some (.int (iz 3)), some (.int (iz 4)), some (.int (iz 1))]) (st' := [.int (iz 0)]) (h' := cmH z zl (uf f 22 od) fl tx) rfl ?_
  refine Rx.ne1 rfl rfl ⟨by omega, by omega⟩ (fun b37 => by omega) (fun b37 => ?_)
  refine Rx.walk 4 (pc' := 32) (L' := [some (.ref 0), some (.int (iz 4)), some (.int (iz 2)), some (.int (iz 3)), some (.int (iz 4)), some (.int (iz 1))]) (st' := [.int (iz 1), .ref 22, .int (iz 3)]) (h' := cmH z zl (uf f 22 od) fl tx) rfl ?_
  refine Rx.ial (g := od) rfl rfl (by omega) (by omega) (by omega) ?_
  rw [show (od 1) = 0 from h1]
  refine Rx.eq2 rfl rfl ⟨by omega, by omega⟩ ⟨by omega, by omega⟩ (fun b38 => by omega) (fun b38 => ?_)
  refine Rx.walk 3 (pc' := 40) (L' := [some (.ref 0), some (.int (iz 4)), some (.int (iz 2)), some (.int (iz 3)), some (.int (iz 4)), some (.int (iz 1))]) (st' := [.int (iz 3), .int (iz 4), .int (iz 2)]) (h' := cmH z zl (uf f 22 od) fl tx) rfl ?_
  refine Rx.callx (m' := m_X12_has) (as := [.int (iz 4), .int (iz 3)]) (rest := [.int (iz 2)]) rfl (n_has_4_3 _ (cmH z zl (uf f 22 od) fl tx)   ) (fun v39 h40 q41 => ?_)
  obtain ⟨rfl, rfl⟩ := q41
  refine Rx.walk 0 (pc' := 43) (L' := [some (.ref 0), some (.int (iz 4)), some (.int (iz 2)), some (.int (iz 3)), some (.int (iz 4)), some (.int (iz 1))]) (st' := [.int (iz 0), .int (iz 2)]) (h' := cmH z zl (uf f 22 od) fl tx) rfl ?_
  refine Rx.eq1 rfl rfl ⟨by omega, by omega⟩ (fun b42 => ?_) (fun b42 => by omega)
  refine Rx.walk 1 (pc' := 51) (L' := [some (.ref 0), some (.int (iz 4)), some (.int (iz 2)), some (.int (iz 3)), some (.int (iz 4)), some (.int (iz 1))]) (st' := [.int (iz 1), .int (iz 2)]) (h' := cmH z zl (uf f 22 od) fl tx) rfl ?_
  refine Rx.iadd rfl ?_
  refine Rx.walk 0 (pc' := 52) (L' := [some (.ref 0), some (.int (iz 4)), some (.int (iz 2)), some (.int (iz 3)), some (.int (iz 4)), some (.int (iz 1))]) (st' := [.int (iz 3)]) (h' := cmH z zl (uf f 22 od) fl tx) rfl ?_
  refine Rx.walk 3 (pc' := 55) (L' := [some (.ref 0), some (.int (iz 4)), some (.int (iz 3)), some (.int (iz 3)), some (.int (iz 4)), some (.int (iz 1))]) (st' := [.int (iz 1), .int (iz 3)]) (h' := cmH z zl (uf f 22 od) fl tx) rfl ?_
  refine Rx.iadd rfl ?_
  refine Rx.walk 0 (pc' := 56) (L' := [some (.ref 0), some (.int (iz 4)), some (.int (iz 3)), some (.int (iz 3)), some (.int (iz 4)), some (.int (iz 1))]) (st' := [.int (iz 4)]) (h' := cmH z zl (uf f 22 od) fl tx) rfl ?_
  refine Rx.walk 1 (pc' := 57) (L' := [some (.ref 0), some (.int (iz 4)), some (.int (iz 3)), some (.int (iz 3)), some (.int (iz 4)), some (.int (iz 1))]) (st' := [.int (iz 4), .int (iz 4)]) (h' := cmH z zl (uf f 22 od) fl tx) rfl ?_
  refine Rx.irem rfl ⟨by omega, by omega⟩ ⟨by omega, by omega⟩ (by omega) (by omega) ?_
  refine Rx.walk 4 (pc' := 19) (L' := [some (.ref 0), some (.int (iz 4)), some (.int (iz 3)), some (.int (iz 0)), some (.int (iz 4)), some (.int (iz 1))]) (st' := [.int (iz 0), .int (iz 4)]) (h' := cmH z zl (uf f 22 od) fl tx) rfl ?_
  refine Rx.callx (m' := m_X12_has) (as := [.int (iz 4), .int (iz 0)]) (rest := []) rfl (n_has_4_0 _ (cmH z zl (uf f 22 od) fl tx)   ) (fun v43 h44 q45 => ?_)
  obtain ⟨rfl, rfl⟩ := q45
  refine Rx.walk 0 (pc' := 22) (L' := [some (.ref 0), some (.int (iz 4)), some (.int (iz 3)), some (.int (iz 0)), some (.int (iz 4)), some (.int (iz 1))]) (st' := [.int (iz 0)]) (h' := cmH z zl (uf f 22 od) fl tx) rfl ?_
  refine Rx.ne1 rfl rfl ⟨by omega, by omega⟩ (fun b46 => by omega) (fun b46 => ?_)
  refine Rx.walk 4 (pc' := 32) (L' := [some (.ref 0), some (.int (iz 4)), some (.int (iz 3)), some (.int (iz 0)), some (.int (iz 4)), some (.int (iz 1))]) (st' := [.int (iz 1), .ref 22, .int (iz 0)]) (h' := cmH z zl (uf f 22 od) fl tx) rfl ?_
  refine Rx.ial (g := od) rfl rfl (by omega) (by omega) (by omega) ?_
  rw [show (od 1) = 0 from h1]
  refine Rx.eq2 rfl rfl ⟨by omega, by omega⟩ ⟨by omega, by omega⟩ (fun b47 => ?_) (fun b47 => by omega)
  refine Rx.walk 3 (pc' := 66) (L' := [some (.ref 0), some (.int (iz 4)), some (.int (iz 3)), some (.int (iz 0)), some (.int (iz 4)), some (.int (iz 1))]) (st' := [.int (iz 0), .int (iz 1), .int (iz 4)]) (h' := cmH z zl (uf f 22 od) fl tx) rfl ?_
  refine Rx.ishl (c := 1) rfl (by decide) ?_
  refine Rx.ior (c := 5) rfl (by decide) ?_
  refine Rx.walk 1 (pc' := 70) (L' := [some (.ref 0), some (.int (iz 4)), some (.int (iz 3)), some (.int (iz 0)), some (.int (iz 5)), some (.int (iz 1))]) (st' := []) (h' := cmH z zl (uf f 22 od) fl tx) rfl ?_
  refine Rx.iinc (b := 1) rfl rfl rfl ?_
  refine Rx.walk 0 (pc' := 73) (L' := [some (.ref 0), some (.int (iz 4)), some (.int (iz 3)), some (.int (iz 0)), some (.int (iz 5)), some (.int (iz 2))]) (st' := []) (h' := cmH z zl (uf f 22 od) fl tx) rfl ?_
  refine Rx.walk 3 (pc' := 13) (L' := [some (.ref 0), some (.int (iz 4)), some (.int (iz 3)), some (.int (iz 0)), some (.int (iz 5)), some (.int (iz 2))]) (st' := [.int (iz 4), .int (iz 2)]) (h' := cmH z zl (uf f 22 od) fl tx) rfl ?_
  refine Rx.ge2 rfl rfl ⟨by omega, by omega⟩ ⟨by omega, by omega⟩ (fun b48 => by omega) (fun b48 => ?_)
  refine Rx.walk 2 (pc' := 19) (L' := [some (.ref 0), some (.int (iz 4)), some (.int (iz 3)), some (.int (iz 0)), some (.int (iz 5)), some (.int (iz 2))]) (st' := [.int (iz 0), .int (iz 5)]) (h' := cmH z zl (uf f 22 od) fl tx) rfl ?_
  refine Rx.callx (m' := m_X12_has) (as := [.int (iz 5), .int (iz 0)]) (rest := []) rfl (n_has_5_0 _ (cmH z zl (uf f 22 od) fl tx)   ) (fun v49 h50 q51 => ?_)
  obtain ⟨rfl, rfl⟩ := q51
  refine Rx.walk 0 (pc' := 22) (L' := [some (.ref 0), some (.int (iz 4)), some (.int (iz 3)), some (.int (iz 0)), some (.int (iz 5)), some (.int (iz 2))]) (st' := [.int (iz 1)]) (h' := cmH z zl (uf f 22 od) fl tx) rfl ?_
  refine Rx.ne1 rfl rfl ⟨by omega, by omega⟩ (fun b52 => ?_) (fun b52 => by omega)
  refine Rx.walk 3 (pc' := 40) (L' := [some (.ref 0), some (.int (iz 4)), some (.int (iz 3)), some (.int (iz 0)), some (.int (iz 5)), some (.int (iz 2))]) (st' := [.int (iz 0), .int (iz 5), .int (iz 3)]) (h' := cmH z zl (uf f 22 od) fl tx) rfl ?_
  refine Rx.callx (m' := m_X12_has) (as := [.int (iz 5), .int (iz 0)]) (rest := [.int (iz 3)]) rfl (n_has_5_0 _ (cmH z zl (uf f 22 od) fl tx)   ) (fun v53 h54 q55 => ?_)
  obtain ⟨rfl, rfl⟩ := q55
  refine Rx.walk 0 (pc' := 43) (L' := [some (.ref 0), some (.int (iz 4)), some (.int (iz 3)), some (.int (iz 0)), some (.int (iz 5)), some (.int (iz 2))]) (st' := [.int (iz 1), .int (iz 3)]) (h' := cmH z zl (uf f 22 od) fl tx) rfl ?_
  refine Rx.eq1 rfl rfl ⟨by omega, by omega⟩ (fun b56 => by omega) (fun b56 => ?_)
  refine Rx.walk 2 (pc' := 51) (L' := [some (.ref 0), some (.int (iz 4)), some (.int (iz 3)), some (.int (iz 0)), some (.int (iz 5)), some (.int (iz 2))]) (st' := [.int (iz 0), .int (iz 3)]) (h' := cmH z zl (uf f 22 od) fl tx) rfl ?_
  refine Rx.iadd rfl ?_
  refine Rx.walk 0 (pc' := 52) (L' := [some (.ref 0), some (.int (iz 4)), some (.int (iz 3)), some (.int (iz 0)), some (.int (iz 5)), some (.int (iz 2))]) (st' := [.int (iz 3)]) (h' := cmH z zl (uf f 22 od) fl tx) rfl ?_
  refine Rx.walk 3 (pc' := 55) (L' := [some (.ref 0), some (.int (iz 4)), some (.int (iz 3)), some (.int (iz 0)), some (.int (iz 5)), some (.int (iz 2))]) (st' := [.int (iz 1), .int (iz 0)]) (h' := cmH z zl (uf f 22 od) fl tx) rfl ?_
  refine Rx.iadd rfl ?_
  refine Rx.walk 0 (pc' := 56) (L' := [some (.ref 0), some (.int (iz 4)), some (.int (iz 3)), some (.int (iz 0)), some (.int (iz 5)), some (.int (iz 2))]) (st' := [.int (iz 1)]) (h' := cmH z zl (uf f 22 od) fl tx) rfl ?_
  refine Rx.walk 1 (pc' := 57) (L' := [some (.ref 0), some (.int (iz 4)), some (.int (iz 3)), some (.int (iz 0)), some (.int (iz 5)), some (.int (iz 2))]) (st' := [.int (iz 4), .int (iz 1)]) (h' := cmH z zl (uf f 22 od) fl tx) rfl ?_
  refine Rx.irem rfl ⟨by omega, by omega⟩ ⟨by omega, by omega⟩ (by omega) (by omega) ?_
  refine Rx.walk 4 (pc' := 19) (L' := [some (.ref 0), some (.int (iz 4)), some (.int (iz 3)), some (.int (iz 1)), some (.int (iz 5)), some (.int (iz 2))]) (st' := [.int (iz 1), .int (iz 5)]) (h' := cmH z zl (uf f 22 od) fl tx) rfl ?_
  refine Rx.callx (m' := m_X12_has) (as := [.int (iz 5), .int (iz 1)]) (rest := []) rfl (n_has_5_1 _ (cmH z zl (uf f 22 od) fl tx)   ) (fun v57 h58 q59 => ?_)
  obtain ⟨rfl, rfl⟩ := q59
  refine Rx.walk 0 (pc' := 22) (L' := [some (.ref 0), some (.int (iz 4)), some (.int (iz 3)), some (.int (iz 1)), some (.int (iz 5)), some (.int (iz 2))]) (st' := [.int (iz 0)]) (h' := cmH z zl (uf f 22 od) fl tx) rfl ?_
  refine Rx.ne1 rfl rfl ⟨by omega, by omega⟩ (fun b60 => by omega) (fun b60 => ?_)
  refine Rx.walk 4 (pc' := 32) (L' := [some (.ref 0), some (.int (iz 4)), some (.int (iz 3)), some (.int (iz 1)), some (.int (iz 5)), some (.int (iz 2))]) (st' := [.int (iz 2), .ref 22, .int (iz 1)]) (h' := cmH z zl (uf f 22 od) fl tx) rfl ?_
  refine Rx.ial (g := od) rfl rfl (by omega) (by omega) (by omega) ?_
  rw [show (od 2) = 3 from h2]
  refine Rx.eq2 rfl rfl ⟨by omega, by omega⟩ ⟨by omega, by omega⟩ (fun b61 => by omega) (fun b61 => ?_)
  refine Rx.walk 3 (pc' := 40) (L' := [some (.ref 0), some (.int (iz 4)), some (.int (iz 3)), some (.int (iz 1)), some (.int (iz 5)), some (.int (iz 2))]) (st' := [.int (iz 1), .int (iz 5), .int (iz 3)]) (h' := cmH z zl (uf f 22 od) fl tx) rfl ?_
  refine Rx.callx (m' := m_X12_has) (as := [.int (iz 5), .int (iz 1)]) (rest := [.int (iz 3)]) rfl (n_has_5_1 _ (cmH z zl (uf f 22 od) fl tx)   ) (fun v62 h63 q64 => ?_)
  obtain ⟨rfl, rfl⟩ := q64
  refine Rx.walk 0 (pc' := 43) (L' := [some (.ref 0), some (.int (iz 4)), some (.int (iz 3)), some (.int (iz 1)), some (.int (iz 5)), some (.int (iz 2))]) (st' := [.int (iz 0), .int (iz 3)]) (h' := cmH z zl (uf f 22 od) fl tx) rfl ?_
  refine Rx.eq1 rfl rfl ⟨by omega, by omega⟩ (fun b65 => ?_) (fun b65 => by omega)
  refine Rx.walk 1 (pc' := 51) (L' := [some (.ref 0), some (.int (iz 4)), some (.int (iz 3)), some (.int (iz 1)), some (.int (iz 5)), some (.int (iz 2))]) (st' := [.int (iz 1), .int (iz 3)]) (h' := cmH z zl (uf f 22 od) fl tx) rfl ?_
  refine Rx.iadd rfl ?_
  refine Rx.walk 0 (pc' := 52) (L' := [some (.ref 0), some (.int (iz 4)), some (.int (iz 3)), some (.int (iz 1)), some (.int (iz 5)), some (.int (iz 2))]) (st' := [.int (iz 4)]) (h' := cmH z zl (uf f 22 od) fl tx) rfl ?_
  refine Rx.walk 3 (pc' := 55) (L' := [some (.ref 0), some (.int (iz 4)), some (.int (iz 4)), some (.int (iz 1)), some (.int (iz 5)), some (.int (iz 2))]) (st' := [.int (iz 1), .int (iz 1)]) (h' := cmH z zl (uf f 22 od) fl tx) rfl ?_
  refine Rx.iadd rfl ?_
  refine Rx.walk 0 (pc' := 56) (L' := [some (.ref 0), some (.int (iz 4)), some (.int (iz 4)), some (.int (iz 1)), some (.int (iz 5)), some (.int (iz 2))]) (st' := [.int (iz 2)]) (h' := cmH z zl (uf f 22 od) fl tx) rfl ?_
  refine Rx.walk 1 (pc' := 57) (L' := [some (.ref 0), some (.int (iz 4)), some (.int (iz 4)), some (.int (iz 1)), some (.int (iz 5)), some (.int (iz 2))]) (st' := [.int (iz 4), .int (iz 2)]) (h' := cmH z zl (uf f 22 od) fl tx) rfl ?_
  refine Rx.irem rfl ⟨by omega, by omega⟩ ⟨by omega, by omega⟩ (by omega) (by omega) ?_
  refine Rx.walk 4 (pc' := 19) (L' := [some (.ref 0), some (.int (iz 4)), some (.int (iz 4)), some (.int (iz 2)), some (.int (iz 5)), some (.int (iz 2))]) (st' := [.int (iz 2), .int (iz 5)]) (h' := cmH z zl (uf f 22 od) fl tx) rfl ?_
  refine Rx.callx (m' := m_X12_has) (as := [.int (iz 5), .int (iz 2)]) (rest := []) rfl (n_has_5_2 _ (cmH z zl (uf f 22 od) fl tx)   ) (fun v66 h67 q68 => ?_)
  obtain ⟨rfl, rfl⟩ := q68
  refine Rx.walk 0 (pc' := 22) (L' := [some (.ref 0), some (.int (iz 4)), some (.int (iz 4)), some (.int (iz 2)), some (.int (iz 5)), some (.int (iz 2))]) (st' := [.int (iz 1)]) (h' := cmH z zl (uf f 22 od) fl tx) rfl ?_
  refine Rx.ne1 rfl rfl ⟨by omega, by omega⟩ (fun b69 => ?_) (fun b69 => by omega)
  refine Rx.walk 3 (pc' := 40) (L' := [some (.ref 0), some (.int (iz 4)), some (.int (iz 4)), some (.int (iz 2)), some (.int (iz 5)), some (.int (iz 2))]) (st' := [.int (iz 2), .int (iz 5), .int (iz 4)]) (h' := cmH z zl (uf f 22 od) fl tx) rfl ?_
  refine Rx.callx (m' := m_X12_has) (as := [.int (iz 5), .int (iz 2)]) (rest := [.int (iz 4)]) rfl (n_has_5_2 _ (cmH z zl (uf f 22 od) fl tx)   ) (fun v70 h71 q72 => ?_)
  obtain ⟨rfl, rfl⟩ := q72
  refine Rx.walk 0 (pc' := 43) (L' := [some (.ref 0), some (.int (iz 4)), some (.int (iz 4)), some (.int (iz 2)), some (.int (iz 5)), some (.int (iz 2))]) (st' := [.int (iz 1), .int (iz 4)]) (h' := cmH z zl (uf f 22 od) fl tx) rfl ?_
  refine Rx.eq1 rfl rfl ⟨by omega, by omega⟩ (fun b73 => by omega) (fun b73 => ?_)
  refine Rx.walk 2 (pc' := 51) (L' := [some (.ref 0), some (.int (iz 4)), some (.int (iz 4)), some (.int (iz 2)), some (.int (iz 5)), some (.int (iz 2))]) (st' := [.int (iz 0), .int (iz 4)]) (h' := cmH z zl (uf f 22 od) fl tx) rfl ?_
  refine Rx.iadd rfl ?_
  refine Rx.walk 0 (pc' := 52) (L' := [some (.ref 0), some (.int (iz 4)), some (.int (iz 4)), some (.int (iz 2)), some (.int (iz 5)), some (.int (iz 2))]) (st' := [.int (iz 4)]) (h' := cmH z zl (uf f 22 od) fl tx) rfl ?_
  refine Rx.walk 3 (pc' := 55) (L' := [some (.ref 0), some (.int (iz 4)), some (.int (iz 4)), some (.int (iz 2)), some (.int (iz 5)), some (.int (iz 2))]) (st' := [.int (iz 1), .int (iz 2)]) (h' := cmH z zl (uf f 22 od) fl tx) rfl ?_
  refine Rx.iadd rfl ?_
  refine Rx.walk 0 (pc' := 56) (L' := [some (.ref 0), some (.int (iz 4)), some (.int (iz 4)), some (.int (iz 2)), some (.int (iz 5)), some (.int (iz 2))]) (st' := [.int (iz 3)]) (h' := cmH z zl (uf f 22 od) fl tx) rfl ?_
  refine Rx.walk 1 (pc' := 57) (L' := [some (.ref 0), some (.int (iz 4)), some (.int (iz 4)), some (.int (iz 2)), some (.int (iz 5)), some (.int (iz 2))]) (st' := [.int (iz 4), .int (iz 3)]) (h' := cmH z zl (uf f 22 od) fl tx) rfl ?_
  refine Rx.irem rfl ⟨by omega, by omega⟩ ⟨by omega, by omega⟩ (by omega) (by omega) ?_
  refine Rx.walk 4 (pc' := 19) (L' := [some (.ref 0), some (.int (iz 4)), some (.int (iz 4)), some (.int (iz 3)), some (.int (iz 5)), some (.int (iz 2))]) (st' := [.int (iz 3), .int (iz 5)]) (h' := cmH z zl (uf f 22 od) fl tx) rfl ?_
  refine Rx.callx (m' := m_X12_has) (as := [.int (iz 5), .int (iz 3)]) (rest := []) rfl (n_has_5_3 _ (cmH z zl (uf f 22 od) fl tx)   ) (fun v74 h75 q76 => ?_)
  obtain ⟨rfl, rfl⟩ := q76
  refine Rx.walk 0 (pc' := 22) (L' := [some (.ref 0), some (.int (iz 4)), some (.int (iz 4)), some (.int (iz 3)), some (.int (iz 5)), some (.int (iz 2))]) (st' := [.int (iz 0)]) (h' := cmH z zl (uf f 22 od) fl tx) rfl ?_
  refine Rx.ne1 rfl rfl ⟨by omega, by omega⟩ (fun b77 => by omega) (fun b77 => ?_)
  refine Rx.walk 4 (pc' := 32) (L' := [some (.ref 0), some (.int (iz 4)), some (.int (iz 4)), some (.int (iz 3)), some (.int (iz 5)), some (.int (iz 2))]) (st' := [.int (iz 2), .ref 22, .int (iz 3)]) (h' := cmH z zl (uf f 22 od) fl tx) rfl ?_
  refine Rx.ial (g := od) rfl rfl (by omega) (by omega) (by omega) ?_
  rw [show (od 2) = 3 from h2]
  refine Rx.eq2 rfl rfl ⟨by omega, by omega⟩ ⟨by omega, by omega⟩ (fun b78 => ?_) (fun b78 => by omega)
  refine Rx.walk 3 (pc' := 66) (L' := [some (.ref 0), some (.int (iz 4)), some (.int (iz 4)), some (.int (iz 3)), some (.int (iz 5)), some (.int (iz 2))]) (st' := [.int (iz 3), .int (iz 1), .int (iz 5)]) (h' := cmH z zl (uf f 22 od) fl tx) rfl ?_
  refine Rx.ishl (c := 8) rfl (by decide) ?_
  refine Rx.ior (c := 13) rfl (by decide) ?_
  refine Rx.walk 1 (pc' := 70) (L' := [some (.ref 0), some (.int (iz 4)), some (.int (iz 4)), some (.int (iz 3)), some (.int (iz 13)), some (.int (iz 2))]) (st' := []) (h' := cmH z zl (uf f 22 od) fl tx) rfl ?_
  refine Rx.iinc (b := 1) rfl rfl rfl ?_
  refine Rx.walk 0 (pc' := 73) (L' := [some (.ref 0), some (.int (iz 4)), some (.int (iz 4)), some (.int (iz 3)), some (.int (iz 13)), some (.int (iz 3))]) (st' := []) (h' := cmH z zl (uf f 22 od) fl tx) rfl ?_
  refine Rx.walk 3 (pc' := 13) (L' := [some (.ref 0), some (.int (iz 4)), some (.int (iz 4)), some (.int (iz 3)), some (.int (iz 13)), some (.int (iz 3))]) (st' := [.int (iz 4), .int (iz 3)]) (h' := cmH z zl (uf f 22 od) fl tx) rfl ?_
  refine Rx.ge2 rfl rfl ⟨by omega, by omega⟩ ⟨by omega, by omega⟩ (fun b79 => by omega) (fun b79 => ?_)
  refine Rx.walk 2 (pc' := 19) (L' := [some (.ref 0), some (.int (iz 4)), some (.int (iz 4)), some (.int (iz 3)), some (.int (iz 13)), some (.int (iz 3))]) (st' := [.int (iz 3), .int (iz 13)]) (h' := cmH z zl (uf f 22 od) fl tx) rfl ?_
  refine Rx.callx (m' := m_X12_has) (as := [.int (iz 13), .int (iz 3)]) (rest := []) rfl (n_has_13_3 _ (cmH z zl (uf f 22 od) fl tx)   ) (fun v80 h81 q82 => ?_)
  obtain ⟨rfl, rfl⟩ := q82
  refine Rx.walk 0 (pc' := 22) (L' := [some (.ref 0), some (.int (iz 4)), some (.int (iz 4)), some (.int (iz 3)), some (.int (iz 13)), some (.int (iz 3))]) (st' := [.int (iz 1)]) (h' := cmH z zl (uf f 22 od) fl tx) rfl ?_
  refine Rx.ne1 rfl rfl ⟨by omega, by omega⟩ (fun b83 => ?_) (fun b83 => by omega)
  refine Rx.walk 3 (pc' := 40) (L' := [some (.ref 0), some (.int (iz 4)), some (.int (iz 4)), some (.int (iz 3)), some (.int (iz 13)), some (.int (iz 3))]) (st' := [.int (iz 3), .int (iz 13), .int (iz 4)]) (h' := cmH z zl (uf f 22 od) fl tx) rfl ?_
  refine Rx.callx (m' := m_X12_has) (as := [.int (iz 13), .int (iz 3)]) (rest := [.int (iz 4)]) rfl (n_has_13_3 _ (cmH z zl (uf f 22 od) fl tx)   ) (fun v84 h85 q86 => ?_)
  obtain ⟨rfl, rfl⟩ := q86
  refine Rx.walk 0 (pc' := 43) (L' := [some (.ref 0), some (.int (iz 4)), some (.int (iz 4)), some (.int (iz 3)), some (.int (iz 13)), some (.int (iz 3))]) (st' := [.int (iz 1), .int (iz 4)]) (h' := cmH z zl (uf f 22 od) fl tx) rfl ?_
  refine Rx.eq1 rfl rfl ⟨by omega, by omega⟩ (fun b87 => by omega) (fun b87 => ?_)
  refine Rx.walk 2 (pc' := 51) (L' := [some (.ref 0), some (.int (iz 4)), some (.int (iz 4)), some (.int (iz 3)), some (.int (iz 13)), some (.int (iz 3))]) (st' := [.int (iz 0), .int (iz 4)]) (h' := cmH z zl (uf f 22 od) fl tx) rfl ?_
  refine Rx.iadd rfl ?_
  refine Rx.walk 0 (pc' := 52) (L' := [some (.ref 0), some (.int (iz 4)), some (.int (iz 4)), some (.int (iz 3)), some (.int (iz 13)), some (.int (iz 3))]) (st' := [.int (iz 4)]) (h' := cmH z zl (uf f 22 od) fl tx) rfl ?_
  refine Rx.walk 3 (pc' := 55) (L' := [some (.ref 0), some (.int (iz 4)), some (.int (iz 4)), some (.int (iz 3)), some (.int (iz 13)), some (.int (iz 3))]) (st' := [.int (iz 1), .int (iz 3)]) (h' := cmH z zl (uf f 22 od) fl tx) rfl ?_
  refine Rx.iadd rfl ?_
  refine Rx.walk 0 (pc' := 56) (L' := [some (.ref 0), some (.int (iz 4)), some (.int (iz 4)), some (.int (iz 3)), some (.int (iz 13)), some (.int (iz 3))]) (st' := [.int (iz 4)]) (h' := cmH z zl (uf f 22 od) fl tx) rfl ?_
  refine Rx.walk 1 (pc' := 57) (L' := [some (.ref 0), some (.int (iz 4)), some (.int (iz 4)), some (.int (iz 3)), some (.int (iz 13)), some (.int (iz 3))]) (st' := [.int (iz 4), .int (iz 4)]) (h' := cmH z zl (uf f 22 od) fl tx) rfl ?_
  refine Rx.irem rfl ⟨by omega, by omega⟩ ⟨by omega, by omega⟩ (by omega) (by omega) ?_
  refine Rx.walk 4 (pc' := 19) (L' := [some (.ref 0), some (.int (iz 4)), some (.int (iz 4)), some (.int (iz 0)), some (.int (iz 13)), some (.int (iz 3))]) (st' := [.int (iz 0), .int (iz 13)]) (h' := cmH z zl (uf f 22 od) fl tx) rfl ?_
  refine Rx.callx (m' := m_X12_has) (as := [.int (iz 13), .int (iz 0)]) (rest := []) rfl (n_has_13_0 _ (cmH z zl (uf f 22 od) fl tx)   ) (fun v88 h89 q90 => ?_)
  obtain ⟨rfl, rfl⟩ := q90
  refine Rx.walk 0 (pc' := 22) (L' := [some (.ref 0), some (.int (iz 4)), some (.int (iz 4)), some (.int (iz 0)), some (.int (iz 13)), some (.int (iz 3))]) (st' := [.int (iz 1)]) (h' := cmH z zl (uf f 22 od) fl tx) rfl ?_
  refine Rx.ne1 rfl rfl ⟨by omega, by omega⟩ (fun b91 => ?_) (fun b91 => by omega)
  refine Rx.walk 3 (pc' := 40) (L' := [some (.ref 0), some (.int (iz 4)), some (.int (iz 4)), some (.int (iz 0)), some (.int (iz 13)), some (.int (iz 3))]) (st' := [.int (iz 0), .int (iz 13), .int (iz 4)]) (h' := cmH z zl (uf f 22 od) fl tx) rfl ?_
  refine Rx.callx (m' := m_X12_has) (as := [.int (iz 13), .int (iz 0)]) (rest := [.int (iz 4)]) rfl (n_has_13_0 _ (cmH z zl (uf f 22 od) fl tx)   ) (fun v92 h93 q94 => ?_)
  obtain ⟨rfl, rfl⟩ := q94
  refine Rx.walk 0 (pc' := 43) (L' := [some (.ref 0), some (.int (iz 4)), some (.int (iz 4)), some (.int (iz 0)), some (.int (iz 13)), some (.int (iz 3))]) (st' := [.int (iz 1), .int (iz 4)]) (h' := cmH z zl (uf f 22 od) fl tx) rfl ?_
  refine Rx.eq1 rfl rfl ⟨by omega, by omega⟩ (fun b95 => by omega) (fun b95 => ?_)
  refine Rx.walk 2 (pc' := 51) (L' := [some (.ref 0), some (.int (iz 4)), some (.int (iz 4)), some (.int (iz 0)), some (.int (iz 13)), some (.int (iz 3))]) (st' := [.int (iz 0), .int (iz 4)]) (h' := cmH z zl (uf f 22 od) fl tx) rfl ?_
  refine Rx.iadd rfl ?_
  refine Rx.walk 0 (pc' := 52) (L' := [some (.ref 0), some (.int (iz 4)), some (.int (iz 4)), some (.int (iz 0)), some (.int (iz 13)), some (.int (iz 3))]) (st' := [.int (iz 4)]) (h' := cmH z zl (uf f 22 od) fl tx) rfl ?_
  refine Rx.walk 3 (pc' := 55) (L' := [some (.ref 0), some (.int (iz 4)), some (.int (iz 4)), some (.int (iz 0)), some (.int (iz 13)), some (.int (iz 3))]) (st' := [.int (iz 1), .int (iz 0)]) (h' := cmH z zl (uf f 22 od) fl tx) rfl ?_
  refine Rx.iadd rfl ?_
  refine Rx.walk 0 (pc' := 56) (L' := [some (.ref 0), some (.int (iz 4)), some (.int (iz 4)), some (.int (iz 0)), some (.int (iz 13)), some (.int (iz 3))]) (st' := [.int (iz 1)]) (h' := cmH z zl (uf f 22 od) fl tx) rfl ?_
  refine Rx.walk 1 (pc' := 57) (L' := [some (.ref 0), some (.int (iz 4)), some (.int (iz 4)), some (.int (iz 0)), some (.int (iz 13)), some (.int (iz 3))]) (st' := [.int (iz 4), .int (iz 1)]) (h' := cmH z zl (uf f 22 od) fl tx) rfl ?_
  refine Rx.irem rfl ⟨by omega, by omega⟩ ⟨by omega, by omega⟩ (by omega) (by omega) ?_
  refine Rx.walk 4 (pc' := 19) (L' := [some (.ref 0), some (.int (iz 4)), some (.int (iz 4)), some (.int (iz 1)), some (.int (iz 13)), some (.int (iz 3))]) (st' := [.int (iz 1), .int (iz 13)]) (h' := cmH z zl (uf f 22 od) fl tx) rfl ?_
  refine Rx.callx (m' := m_X12_has) (as := [.int (iz 13), .int (iz 1)]) (rest := []) rfl (n_has_13_1 _ (cmH z zl (uf f 22 od) fl tx)   ) (fun v96 h97 q98 => ?_)
  obtain ⟨rfl, rfl⟩ := q98
  refine Rx.walk 0 (pc' := 22) (L' := [some (.ref 0), some (.int (iz 4)), some (.int (iz 4)), some (.int (iz 1)), some (.int (iz 13)), some (.int (iz 3))]) (st' := [.int (iz 0)]) (h' := cmH z zl (uf f 22 od) fl tx) rfl ?_
  refine Rx.ne1 rfl rfl ⟨by omega, by omega⟩ (fun b99 => by omega) (fun b99 => ?_)
  refine Rx.walk 4 (pc' := 32) (L' := [some (.ref 0), some (.int (iz 4)), some (.int (iz 4)), some (.int (iz 1)), some (.int (iz 13)), some (.int (iz 3))]) (st' := [.int (iz 3), .ref 22, .int (iz 1)]) (h' := cmH z zl (uf f 22 od) fl tx) rfl ?_
  refine Rx.ial (g := od) rfl rfl (by omega) (by omega) (by omega) ?_
  rw [show (od 3) = 1 from h3]
  refine Rx.eq2 rfl rfl ⟨by omega, by omega⟩ ⟨by omega, by omega⟩ (fun b100 => ?_) (fun b100 => by omega)
  refine Rx.walk 3 (pc' := 66) (L' := [some (.ref 0), some (.int (iz 4)), some (.int (iz 4)), some (.int (iz 1)), some (.int (iz 13)), some (.int (iz 3))]) (st' := [.int (iz 1), .int (iz 1), .int (iz 13)]) (h' := cmH z zl (uf f 22 od) fl tx) rfl ?_
  refine Rx.ishl (c := 2) rfl (by decide) ?_
  refine Rx.ior (c := 15) rfl (by decide) ?_
  refine Rx.walk 1 (pc' := 70) (L' := [some (.ref 0), some (.int (iz 4)), some (.int (iz 4)), some (.int (iz 1)), some (.int (iz 15)), some (.int (iz 3))]) (st' := []) (h' := cmH z zl (uf f 22 od) fl tx) rfl ?_
  refine Rx.iinc (b := 1) rfl rfl rfl ?_
  refine Rx.walk 0 (pc' := 73) (L' := [some (.ref 0), some (.int (iz 4)), some (.int (iz 4)), some (.int (iz 1)), some (.int (iz 15)), some (.int (iz 4))]) (st' := []) (h' := cmH z zl (uf f 22 od) fl tx) rfl ?_
  refine Rx.walk 3 (pc' := 13) (L' := [some (.ref 0), some (.int (iz 4)), some (.int (iz 4)), some (.int (iz 1)), some (.int (iz 15)), some (.int (iz 4))]) (st' := [.int (iz 4), .int (iz 4)]) (h' := cmH z zl (uf f 22 od) fl tx) rfl ?_
  refine Rx.ge2 rfl rfl ⟨by omega, by omega⟩ ⟨by omega, by omega⟩ (fun b101 => ?_) (fun b101 => by omega)
  refine Rx.walk 1 (pc' := 77) (L' := [some (.ref 0), some (.int (iz 4)), some (.int (iz 4)), some (.int (iz 1)), some (.int (iz 15)), some (.int (iz 4))]) (st' := [.int (iz 4)]) (h' := cmH z zl (uf f 22 od) fl tx) rfl ?_
  refine Rx.ret rfl ?_
  exact ⟨rfl, rfl⟩
set_option maxRecDepth 100000 in
set_option maxHeartbeats 4000000 in
theorem m_stepsOf4_14 (d : Nat) (z : Nat → Int) (zl : Nat → Int) (f : Nat → Int → Int) (fl : Nat → Int → Int) (tx : Nat)  (od : Int → Int) (h0 : od 0 = 2) (h1 : od 1 = 1) (h2 : od 2 = 0) (h3 : od 3 = 3) : Rx (d + 1) m_X12_stepsOf 0 (am_ent [.ref 0, .int (iz 4)] 6) [] (cmH z zl (uf f 22 od) fl tx) (fun rv h => rv = some (.int (iz 5)) ∧ h = cmH z zl (uf f 22 od) fl tx) := by
  refine Rx.walk 0 (pc' := 0) (L' := [some (.ref 0), some (.int (iz 4)), none, none, none, none]) (st' := []) (h' := cmH z zl (uf f 22 od) fl tx) rfl ?_
  refine Rx.walk 10 (pc' := 13) (L' := [some (.ref 0), some (.int (iz 4)), some (.int (iz 0)), some (.int (iz 0)), some (.int (iz 0)), some (.int (iz 0))]) (st' := [.int (iz 4), .int (iz 0)]) (h' := cmH z zl (uf f 22 od) fl tx) rfl ?_
  refine Rx.ge2 rfl rfl ⟨by omega, by omega⟩ ⟨by omega, by omega⟩ (fun b1 => by omega) (fun b1 => ?_)
  refine Rx.walk 2 (pc' := 19) (L' := [some (.ref 0), some (.int (iz 4)), some (.int (iz 0)), some (.int (iz 0)), some (.int (iz 0)), some (.int (iz 0))]) (st' := [.int (iz 0), .int (iz 0)]) (h' := cmH z zl (uf f 22 od) fl tx) rfl ?_
  refine Rx.callx (m' := m_X12_has) (as := [.int (iz 0), .int (iz 0)]) (rest := []) rfl (n_has_0_0 _ (cmH z zl (uf f 22 od) fl tx)   ) (fun v2 h3 q4 => ?_)
  obtain ⟨rfl, rfl⟩ := q4
  refine Rx.walk 0 (pc' := 22) (L' := [some (.ref 0), some (.int (iz 4)), some (.int (iz 0)), some (.int (iz 0)), some (.int (iz 0)), some (.int (iz 0))]) (st' := [.int (iz 0)]) (h' := cmH z zl (uf f 22 od) fl tx) rfl ?_
  refine Rx.ne1 rfl rfl ⟨by omega, by omega⟩ (fun b5 => by omega) (fun b5 => ?_)
  refine Rx.walk 4 (pc' := 32) (L' := [some (.ref 0), some (.int (iz 4)), some (.int (iz 0)), some (.int (iz 0)), some (.int (iz 0)), some (.int (iz 0))]) (st' := [.int (iz 0), .ref 22, .int (iz 0)]) (h' := cmH z zl (uf f 22 od) fl tx) rfl ?_
  refine Rx.ial (g := od) rfl rfl (by omega) (by omega) (by omega) ?_
  rw [show (od 0) = 2 from h0]
  refine Rx.eq2 rfl rfl ⟨by omega, by omega⟩ ⟨by omega, by omega⟩ (fun b6 => by omega) (fun b6 => ?_)
  refine Rx.walk 3 (pc' := 40) (L' := [some (.ref 0), some (.int (iz 4)), some (.int (iz 0)), some (.int (iz 0)), some (.int (iz 0)), some (.int (iz 0))]) (st' := [.int (iz 0), .int (iz 0), .int (iz 0)]) (h' := cmH z zl (uf f 22 od) fl tx) rfl ?_
  refine Rx.callx (m' := m_X12_has) (as := [.int (iz 0), .int (iz 0)]) (rest := [.int (iz 0)]) rfl (n_has_0_0 _ (cmH z zl (uf f 22 od) fl tx)   ) (fun v7 h8 q9 => ?_)
  obtain ⟨rfl, rfl⟩ := q9
  refine Rx.walk 0 (pc' := 43) (L' := [some (.ref 0), some (.int (iz 4)), some (.int (iz 0)), some (.int (iz 0)), some (.int (iz 0)), some (.int (iz 0))]) (st' := [.int (iz 0), .int (iz 0)]) (h' := cmH z zl (uf f 22 od) fl tx) rfl ?_
  refine Rx.eq1 rfl rfl ⟨by omega, by omega⟩ (fun b10 => ?_) (fun b10 => by omega)
  refine Rx.walk 1 (pc' := 51) (L' := [some (.ref 0), some (.int (iz 4)), some (.int (iz 0)), some (.int (iz 0)), some (.int (iz 0)), some (.int (iz 0))]) (st' := [.int (iz 1), .int (iz 0)]) (h' := cmH z zl (uf f 22 od) fl tx) rfl ?_
  refine Rx.iadd rfl ?_
  refine Rx.walk 0 (pc' := 52) (L' := [some (.ref 0), some (.int (iz 4)), some (.int (iz 0)), some (.int (iz 0)), some (.int (iz 0)), some (.int (iz 0))]) (st' := [.int (iz 1)]) (h' := cmH z zl (uf f 22 od) fl tx) rfl ?_
  refine Rx.walk 3 (pc' := 55) (L' := [some (.ref 0), some (.int (iz 4)), some (.int (iz 1)), some (.int (iz 0)), some (.int (iz 0)), some (.int (iz 0))]) (st' := [.int (iz 1), .int (iz 0)]) (h' := cmH z zl (uf f 22 od) fl tx) rfl ?_
  refine Rx.iadd rfl ?_
  refine Rx.walk 0 (pc' := 56) (L' := [some (.ref 0), some (.int (iz 4)), some (.int (iz 1)), some (.int (iz 0)), some (.int (iz 0)), some (.int (iz 0))]) (st' := [.int (iz 1)]) (h' := cmH z zl (uf f 22 od) fl tx) rfl ?_
  refine Rx.walk 1 (pc' := 57) (L' := [some (.ref 0), some (.int (iz 4)), some (.int (iz 1)), some (.int (iz 0)), some (.int (iz 0)), some (.int (iz 0))]) (st' := [.int (iz 4), .int (iz 1)]) (h' := cmH z zl (uf f 22 od) fl tx) rfl ?_
  refine Rx.irem rfl ⟨by omega, by omega⟩ ⟨by omega, by omega⟩ (by omega) (by omega) ?_
  refine Rx.walk 4 (pc' := 19) (L' := [some (.ref 0), some (.int (iz 4)), some (.int (iz 1)), some (.int (iz 1)), some (.int (iz 0)), some (.int (iz 0))]) (st' := [.int (iz 1), .int (iz 0)]) (h' := cmH z zl (uf f 22 od) fl tx) rfl ?_
  refine Rx.callx (m' := m_X12_has) (as := [.int (iz 0), .int (iz 1)]) (rest := []) rfl (n_has_0_1 _ (cmH z zl (uf f 22 od) fl tx)   ) (fun v11 h12 q13 => ?_)
  obtain ⟨rfl, rfl⟩ := q13
  refine Rx.walk 0 (pc' := 22) (L' := [some (.ref 0), some (.int (iz 4)), some (.int (iz 1)), some (.int (iz 1)), some (.int (iz 0)), some (.int (iz 0))]) (st' := [.int (iz 0)]) (h' := cmH z zl (uf f 22 od) fl tx) rfl ?_
  refine Rx.ne1 rfl rfl ⟨by omega, by omega⟩ (fun b14 => by omega) (fun b14 => ?_)
  refine Rx.walk 4 (pc' := 32) (L' := [some (.ref 0), some (.int (iz 4)), some (.int (iz 1)), some (.int (iz 1)), some (.int (iz 0)), some (.int (iz 0))]) (st' := [.int (iz 0), .ref 22, .int (iz 1)]) (h' := cmH z zl (uf f 22 od) fl tx) rfl ?_
  refine Rx.ial (g := od) rfl rfl (by omega) (by omega) (by omega) ?_
  rw [show (od 0) = 2 from h0]
  refine Rx.eq2 rfl rfl ⟨by omega, by omega⟩ ⟨by omega, by omega⟩ (fun b15 => by omega) (fun b15 => ?_)
  refine Rx.walk 3 (pc' := 40) (L' := [some (.ref 0), some (.int (iz 4)), some (.int (iz 1)), some (.int (iz 1)), some (.int (iz 0)), some (.int (iz 0))]) (st' := [.int (iz 1), .int (iz 0), .int (iz 1)]) (h' := cmH z zl (uf f 22 od) fl tx) rfl ?_
  refine Rx.callx (m' := m_X12_has) (as := [.int (iz 0), .int (iz 1)]) (rest := [.int (iz 1)]) rfl (n_has_0_1 _ (cmH z zl (uf f 22 od) fl tx)   ) (fun v16 h17 q18 => ?_)
  obtain ⟨rfl, rfl⟩ := q18
  refine Rx.walk 0 (pc' := 43) (L' := [some (.ref 0), some (.int (iz 4)), some (.int (iz 1)), some (.int (iz 1)), some (.int (iz 0)), some (.int (iz 0))]) (st' := [.int (iz 0), .int (iz 1)]) (h' := cmH z zl (uf f 22 od) fl tx) rfl ?_
  refine Rx.eq1 rfl rfl ⟨by omega, by omega⟩ (fun b19 => ?_) (fun b19 => by omega)
  refine Rx.walk 1 (pc' := 51) (L' := [some (.ref 0), some (.int (iz 4)), some (.int (iz 1)), some (.int (iz 1)), some (.int (iz 0)), some (.int (iz 0))]) (st' := [.int (iz 1), .int (iz 1)]) (h' := cmH z zl (uf f 22 od) fl tx) rfl ?_
  refine Rx.iadd rfl ?_
  refine Rx.walk 0 (pc' := 52) (L' := [some (.ref 0), some (.int (iz 4)), some (.int (iz 1)), some (.int (iz 1)), some (.int (iz 0)), some (.int (iz 0))]) (st' := [.int (iz 2)]) (h' := cmH z zl (uf f 22 od) fl tx) rfl ?_
  refine Rx.walk 3 (pc' := 55) (L' := [some (.ref 0), some (.int (iz 4)), some (.int (iz 2)), some (.int (iz 1)), some (.int (iz 0)), some (.int (iz 0))]) (st' := [.int (iz 1), .int (iz 1)]) (h' := cmH z zl (uf f 22 od) fl tx) rfl ?_
  refine Rx.iadd rfl ?_
  refine Rx.walk 0 (pc' := 56) (L' := [some (.ref 0), some (.int (iz 4)), some (.int (iz 2)), some (.int (iz 1)), some (.int (iz 0)), some (.int (iz 0))]) (st' := [.int (iz 2)]) (h' := cmH z zl (uf f 22 od) fl tx) rfl ?_
  refine Rx.walk 1 (pc' := 57) (L' := [some (.ref 0), some (.int (iz 4)), some (.int (iz 2)), some (.int (iz 1)), some (.int (iz 0)), some (.int (iz 0))]) (st' := [.int (iz 4), .int (iz 2)]) (h' := cmH z zl (uf f 22 od) fl tx) rfl ?_
  refine Rx.irem rfl ⟨by omega, by omega⟩ ⟨by omega, by omega⟩ (by omega) (by omega) ?_
  refine Rx.walk 4 (pc' := 19) (L' := [some (.ref 0), some (.int (iz 4)), some (.int (iz 2)), some (.int (iz 2)), some (.int (iz 0)), some (.int (iz 0))]) (st' := [.int (iz 2), .int (iz 0)]) (h' := cmH z zl (uf f 22 od) fl tx) rfl ?_
  refine Rx.callx (m' := m_X12_has) (as := [.int (iz 0), .int (iz 2)]) (rest := []) rfl (n_has_0_2 _ (cmH z zl (uf f 22 od) fl tx)   ) (fun v20 h21 q22 => ?_)
  obtain ⟨rfl, rfl⟩ := q22
  refine Rx.walk 0 (pc' := 22) (L' := [some (.ref 0), some (.int (iz 4)), some (.int (iz 2)), some (.int (iz 2)), some (.int (iz 0)), some (.int (iz 0))]) (st' := [.int (iz 0)]) (h' := cmH z zl (uf f 22 od) fl tx) rfl ?_
  refine Rx.ne1 rfl rfl ⟨by omega, by omega⟩ (fun b23 => by omega) (fun b23 => ?_)
  refine Rx.walk 4 (pc' := 32) (L' := [some (.ref 0), some (.int (iz 4)), some (.int (iz 2)), some (.int (iz 2)), some (.int (iz 0)), some (.int (iz 0))]) (st' := [.int (iz 0), .ref 22, .int (iz 2)]) (h' := cmH z zl (uf f 22 od) fl tx) rfl ?_
  refine Rx.ial (g := od) rfl rfl (by omega) (by omega) (by omega) ?_
  rw [show (od 0) = 2 from h0]
  refine Rx.eq2 rfl rfl ⟨by omega, by omega⟩ ⟨by omega, by omega⟩ (fun b24 => ?_) (fun b24 => by omega)
  refine Rx.walk 3 (pc' := 66) (L' := [some (.ref 0), some (.int (iz 4)), some (.int (iz 2)), some (.int (iz 2)), some (.int (iz 0)), some (.int (iz 0))]) (st' := [.int (iz 2), .int (iz 1), .int (iz 0)]) (h' := cmH z zl (uf f 22 od) fl tx) rfl ?_
  refine Rx.ishl (c := 4) rfl (by decide) ?_
  refine Rx.ior (c := 4) rfl (by decide) ?_
  refine Rx.walk 1 (pc' := 70) (L' := [some (.ref 0), some (.int (iz 4)), some (.int (iz 2)), some (.int (iz 2)), some (.int (iz 4)), some (.int (iz 0))]) (st' := []) (h' := cmH z zl (uf f 22 od) fl tx) rfl ?_
  refine Rx.iinc (b := 1) rfl rfl rfl ?_
  refine Rx.walk 0 (pc' := 73) (L' := [some (.ref 0), some (.int (iz 4)), some (.int (iz 2)), some (.int (iz 2)), some (.int (iz 4)), some (.int (iz 1))]) (st' := []) (h' := cmH z zl (uf f 22 od) fl tx) rfl ?_
  refine Rx.walk 3 (pc' := 13) (L' := [some (.ref 0), some (.int (iz 4)), some (.int (iz 2)), some (.int (iz 2)), some (.int (iz 4)), some (.int (iz 1))]) (st' := [.int (iz 4), .int (iz 1)]) (h' := cmH z zl (uf f 22 od) fl tx) rfl ?_
  refine Rx.ge2 rfl rfl ⟨by omega, by omega⟩ ⟨by omega, by omega⟩ (fun b25 => by omega) (fun b25 => ?_)
  refine Rx.walk 2 (pc' := 19) (L' := [some (.ref 0), some (.int (iz 4)), some (.int (iz 2)), some (.int (iz 2)), some (.int (iz 4)), some (.int (iz 1))]) (st' := [.int (iz 2), .int (iz 4)]) (h' := cmH z zl (uf f 22 od) fl tx) rfl ?_
  refine Rx.callx (m' := m_X12_has) (as := [.int (iz 4), .int (iz 2)]) (rest := []) rfl (n_has_4_2 _ (cmH z zl (uf f 22 od) fl tx)   ) (fun v26 h27 q28 => ?_)
  obtain ⟨rfl, rfl⟩ := q28
  refine Rx.walk 0 (pc' := 22) (L' := [some (.ref 0), some (.int (iz 4)), some (.int (iz 2)), some (.int (iz 2)), some (.int (iz 4)), some (.int (iz 1))]) (st' := [.int (iz 1)]) (h' := cmH z zl (uf f 22 od) fl tx) rfl ?_
  refine Rx.ne1 rfl rfl ⟨by omega, by omega⟩ (fun b29 => ?_) (fun b29 => by omega)
  refine Rx.walk 3 (pc' := 40) (L' := [some (.ref 0), some (.int (iz 4)), some (.int (iz 2)), some (.int (iz 2)), some (.int (iz 4)), some (.int (iz 1))]) (st' := [.int (iz 2), .int (iz 4), .int (iz 2)]) (h' := cmH z zl (uf f 22 od) fl tx) rfl ?_
  refine Rx.callx (m' := m_X12_has) (as := [.int (iz 4), .int (iz 2)]) (rest := [.int (iz 2)]) rfl (n_has_4_2 _ (cmH z zl (uf f 22 od) fl tx)   ) (fun v30 h31 q32 => ?_)
  obtain ⟨rfl, rfl⟩ := q32
  refine Rx.walk 0 (pc' := 43) (L' := [some (.ref 0), some (.int (iz 4)), some (.int (iz 2)), some (.int (iz 2)), some (.int (iz 4)), some (.int (iz 1))]) (st' := [.int (iz 1), .int (iz 2)]) (h' := cmH z zl (uf f 22 od) fl tx) rfl ?_
  refine Rx.eq1 rfl rfl ⟨by omega, by omega⟩ (fun b33 => by omega) (fun b33 => ?_)
  refine Rx.walk 2 (pc' := 51) (L' := [some (.ref 0), some (.int (iz 4)), some (.int (iz 2)), some (.int (iz 2)), some (.int (iz 4)), some (.int (iz 1))]) (st' := [.int (iz 0), .int (iz 2)]) (h' := cmH z zl (uf f 22 od) fl tx) rfl ?_
  refine Rx.iadd rfl ?_
  refine Rx.walk 0 (pc' := 52) (L' := [some (.ref 0), some (.int (iz 4)), some (.int (iz 2)), some (.int (iz 2)), some (.int (iz 4)), some (.int (iz 1))]) (st' := [.int (iz 2)]) (h' := cmH z zl (uf f 22 od) fl tx) rfl ?_
  refine Rx.walk 3 (pc' := 55) (L' := [some (.ref 0), some (.int (iz 4)), some (.int (iz 2)), some (.int (iz 2)), some (.int (iz 4)), some (.int (iz 1))]) (st' := [.int (iz 1), .int (iz 2)]) (h' := cmH z zl (uf f 22 od) fl tx) rfl ?_
  refine Rx.iadd rfl ?_
  refine Rx.walk 0 (pc' := 56) (L' := [some (.ref 0), some (.int (iz 4)), some (.int (iz 2)), some (.int (iz 2)), some (.int (iz 4)), some (.int (iz 1))]) (st' := [.int (iz 3)]) (h' := cmH z zl (uf f 22 od) fl tx) rfl ?_
  refine Rx.walk 1 (pc' := 57) (L' := [some (.ref 0), some (.int (iz 4)), some (.int (iz 2)), some (.int (iz 2)), some (.int (iz 4)), some (.int (iz 1))]) (st' := [.int (iz 4), .int (iz 3)]) (h' := cmH z zl (uf f 22 od) fl tx) rfl ?_
  refine Rx.irem rfl ⟨by omega, by omega⟩ ⟨by omega, by omega⟩ (by omega) (by omega) ?_
  refine Rx.walk 4 (pc' := 19) (L' := [some (.ref 0), some (.int (iz 4)), some (.int (iz 2)), some (.int (iz 3)), some (.int (iz 4)), some (.int (iz 1))]) (st' := [.int (iz 3), .int (iz 4)]) (h' := cmH z zl (uf f 22 od) fl tx) rfl ?_
  refine Rx.callx (m' := m_X12_has) (as := [.int (iz 4), .int (iz 3)]) (rest := []) rfl (n_has_4_3 _ (cmH z zl (uf f 22 od) fl tx)   ) (fun v34 h35 q36 => ?_)
  obtain ⟨rfl, rfl⟩ := q36
  refine Rx.walk 0 (pc' := 22) (L' := [some (.ref 0), some (.int (iz 4)), some (.int (iz 2)), some (.int (iz 3)), some (.int (iz 4)), some (.int (iz 1))]) (st' := [.int (iz 0)]) (h' := cmH z zl (uf f 22 od) fl tx) rfl ?_
  refine Rx.ne1 rfl rfl ⟨by omega, by omega⟩ (fun b37 => by omega) (fun b37 => ?_)
  refine Rx.walk 4 (pc' := 32) (L' := [some (.ref 0), some (.int (iz 4)), some (.int (iz 2)), some (.int (iz 3)), some (.int (iz 4)), some (.int (iz 1))]) (st' := [.int (iz 1), .ref 22, .int (iz 3)]) (h' := cmH z zl (uf f 22 od) fl tx) rfl ?_
  refine Rx.ial (g := od) rfl rfl (by omega) (by omega) (by omega) ?_
  rw [show (od 1) = 1 from h1]
  refine Rx.eq2 rfl rfl ⟨by omega, by omega⟩ ⟨by omega, by omega⟩ (fun b38 => by omega) (fun b38 => ?_)
  refine Rx.walk 3 (pc' := 40) (L' := [some (.ref 0), some (.int (iz 4)), some (.int (iz 2)), some (.int (iz 3)), some (.int (iz 4)), some (.int (iz 1))]) (st' := [.int (iz 3), .int (iz 4), .int (iz 2)]) (h' := cmH z zl (uf f 22 od) fl tx) rfl ?_
  refine Rx.callx (m' := m_X12_has) (as := [.int (iz 4), .int (iz 3)]) (rest := [.int (iz 2)]) rfl (n_has_4_3 _ (cmH z zl (uf f 22 od) fl tx)   ) (fun v39 h40 q41 => ?_)
  obtain ⟨rfl, rfl⟩ := q41
  refine Rx.walk 0 (pc' := 43) (L' := [some (.ref 0), some (.int (iz 4)), some (.int (iz 2)), some (.int (iz 3)), some (.int (iz 4)), some (.int (iz 1))]) (st' := [.int (iz 0), .int (iz 2)]) (h' := cmH z zl (uf f 22 od) fl tx) rfl ?_
  refine Rx.eq1 rfl rfl ⟨by omega, by omega⟩ (fun b42 => ?_) (fun b42 => by omega)
  refine Rx.walk 1 (pc' := 51) (L' := [some (.ref 0), some (.int (iz 4)), some (.int (iz 2)), some (.int (iz 3)), some (.int (iz 4)), some (.int (iz 1))]) (st' := [.int (iz 1), .int (iz 2)]) (h' := cmH z zl (uf f 22 od) fl tx) rfl ?_
  refine Rx.iadd rfl ?_
  refine Rx.walk 0 (pc' := 52) (L' := [some (.ref 0), some (.int (iz 4)), some (.int (iz 2)), some (.int (iz 3)), some (.int (iz 4)), some (.int (iz 1))]) (st' := [.int (iz 3)]) (h' := cmH z zl (uf f 22 od) fl tx) rfl ?_
  refine Rx.walk 3 (pc' := 55) (L' := [some (.ref 0), some (.int (iz 4)), some (.int (iz 3)), some (.int (iz 3)), some (.int (iz 4)), some (.int (iz 1))]) (st' := [.int (iz 1), .int (iz 3)]) (h' := cmH z zl (uf f 22 od) fl tx) rfl ?_
  refine Rx.iadd rfl ?_
  refine Rx.walk 0 (pc' := 56) (L' := [some (.ref 0), some (.int (iz 4)), some (.int (iz 3)), some (.int (iz 3)), some (.int (iz 4)), some (.int (iz 1))]) (st' := [.int (iz 4)]) (h' := cmH z zl (uf f 22 od) fl tx) rfl ?_
  refine Rx.walk 1 (pc' := 57) (L' := [some (.ref 0), some (.int (iz 4)), some (.int (iz 3)), some (.int (iz 3)), some (.int (iz 4)), some (.int (iz 1))]) (st' := [.int (iz 4), .int (iz 4)]) (h' := cmH z zl (uf f 22 od) fl tx) rfl ?_
  refine Rx.irem rfl ⟨by omega, by omega⟩ ⟨by omega, by omega⟩ (by omega) (by omega) ?_
  refine Rx.walk 4 (pc' := 19) (L' := [some (.ref 0), some (.int (iz 4)), some (.int (iz 3)), some (.int (iz 0)), some (.int (iz 4)), some (.int (iz 1))]) (st' := [.int (iz 0), .int (iz 4)]) (h' := cmH z zl (uf f 22 od) fl tx) rfl ?_
  refine Rx.callx (m' := m_X12_has) (as := [.int (iz 4), .int (iz 0)]) (rest := []) rfl (n_has_4_0 _ (cmH z zl (uf f 22 od) fl tx)   ) (fun v43 h44 q45 => ?_)
  obtain ⟨rfl, rfl⟩ := q45
  refine Rx.walk 0 (pc' := 22) (L' := [some (.ref 0), some (.int (iz 4)), some (.int (iz 3)), some (.int (iz 0)), some (.int (iz 4)), some (.int (iz 1))]) (st' := [.int (iz 0)]) (h' := cmH z zl (uf f 22 od) fl tx) rfl ?_
  refine Rx.ne1 rfl rfl ⟨by omega, by omega⟩ (fun b46 => by omega) (fun b46 => ?_)
  refine Rx.walk 4 (pc' := 32) (L' := [some (.ref 0), some (.int (iz 4)), some (.int (iz 3)), some (.int (iz 0)), some (.int (iz 4)), some (.int (iz 1))]) (st' := [.int (iz 1), .ref 22, .int (iz 0)]) (h' := cmH z zl (uf f 22 od) fl tx) rfl ?_
  refine Rx.ial (g := od) rfl rfl (by omega) (by omega) (by omega) ?_
  rw [show (od 1) = 1 from h1]
  refine Rx.eq2 rfl rfl ⟨by omega, by omega⟩ ⟨by omega, by omega⟩ (fun b47 => by omega) (fun b47 => ?_)
  refine Rx.walk 3 (pc' := 40) (L' := [some (.ref 0), some (.int (iz 4)), some (.int (iz 3)), some (.int (iz 0)), some (.int (iz 4)), some (.int (iz 1))]) (st' := [.int (iz 0), .int (iz 4), .int (iz 3)]) (h' := cmH z zl (uf f 22 od) fl tx) rfl ?_
  refine Rx.callx (m' := m_X12_has) (as := [.int (iz 4), .int (iz 0)]) (rest := [.int (iz 3)]) rfl (n_has_4_0 _ (cmH z zl (uf f 22 od) fl tx)   ) (fun v48 h49 q50 => ?_)
  obtain ⟨rfl, rfl⟩ := q50
  refine Rx.walk 0 (pc' := 43) (L' := [some (.ref 0), some (.int (iz 4)), some (.int (iz 3)), some (.int (iz 0)), some (.int (iz 4)), some (.int (iz 1))]) (st' := [.int (iz 0), .int (iz 3)]) (h' := cmH z zl (uf f 22 od) fl tx) rfl ?_
  refine Rx.eq1 rfl rfl ⟨by omega, by omega⟩ (fun b51 => ?_) (fun b51 => by omega)
  refine Rx.walk 1 (pc' := 51) (L' := [some (.ref 0), some (.int (iz 4)), some (.int (iz 3)), some (.int (iz 0)), some (.int (iz 4)), some (.int (iz 1))]) (st' := [.int (iz 1), .int (iz 3)]) (h' := cmH z zl (uf f 22 od) fl tx) rfl ?_
  refine Rx.iadd rfl ?_
  refine Rx.walk 0 (pc' := 52) (L' := [some (.ref 0), some (.int (iz 4)), some (.int (iz 3)), some (.int (iz 0)), some (.int (iz 4)), some (.int (iz 1))]) (st' := [.int (iz 4)]) (h' := cmH z zl (uf f 22 od) fl tx) rfl ?_
  refine Rx.walk 3 (pc' := 55) (L' := [some (.ref 0), some (.int (iz 4)), some (.int (iz 4)), some (.int (iz 0)), some (.int (iz 4)), some (.int (iz 1))]) (st' := [.int (iz 1), .int (iz 0)]) (h' := cmH z zl (uf f 22 od) fl tx) rfl ?_
  refine Rx.iadd rfl ?_
  refine Rx.walk 0 (pc' := 56) (L' := [some (.ref 0), some (.int (iz 4)), some (.int (iz 4)), some (.int (iz 0)), some (.int (iz 4)), some (.int (iz 1))]) (st' := [.int (iz 1)]) (h' := cmH z zl (uf f 22 od) fl tx) rfl ?_
  refine Rx.walk 1 (pc' := 57) (L' := [some (.ref 0), some (.int (iz 4)), some (.int (iz 4)), some (.int (iz 0)), some (.int (iz 4)), some (.int (iz 1))]) (st' := [.int (iz 4), .int (iz 1)]) (h' := cmH z zl (uf f 22 od) fl tx) rfl ?_
  refine Rx.irem rfl ⟨by omega, by omega⟩ ⟨by omega, by omega⟩ (by omega) (by omega) ?_
  refine Rx.walk 4 (pc' := 19) (L' := [some (.ref 0), some (.int (iz 4)), some (.int (iz 4)), some (.int (iz 1)), some (.int (iz 4)), some (.int (iz 1))]) (st' := [.int (iz 1), .int (iz 4)]) (h' := cmH z zl (uf f 22 od) fl tx) rfl ?_
  refine Rx.callx (m' := m_X12_has) (as := [.int (iz 4), .int (iz 1)]) (rest := []) rfl (n_has_4_1 _ (cmH z zl (uf f 22 od) fl tx)   ) (fun v52 h53 q54 => ?_)
  obtain ⟨rfl, rfl⟩ := q54
  refine Rx.walk 0 (pc' := 22) (L' := [some (.ref 0), some (.int (iz 4)), some (.int (iz 4)), some (.int (iz 1)), some (.int (iz 4)), some (.int (iz 1))]) (st' := [.int (iz 0)]) (h' := cmH z zl (uf f 22 od) fl tx) rfl ?_
  refine Rx.ne1 rfl rfl ⟨by omega, by omega⟩ (fun b55 => by omega) (fun b55 => ?_)
  refine Rx.walk 4 (pc' := 32) (L' := [some (.ref 0), some (.int (iz 4)), some (.int (iz 4)), some (.int (iz 1)), some (.int (iz 4)), some (.int (iz 1))]) (st' := [.int (iz 1), .ref 22, .int (iz 1)]) (h' := cmH z zl (uf f 22 od) fl tx) rfl ?_
  refine Rx.ial (g := od) rfl rfl (by omega) (by omega) (by omega) ?_
  rw [show (od 1) = 1 from h1]
  refine Rx.eq2 rfl rfl ⟨by omega, by omega⟩ ⟨by omega, by omega⟩ (fun b56 => ?_) (fun b56 => by omega)
  refine Rx.walk 3 (pc' := 66) (L' := [some (.ref 0), some (.int (iz 4)), some (.int (iz 4)), some (.int (iz 1)), some (.int (iz 4)), some (.int (iz 1))]) (st' := [.int (iz 1), .int (iz 1), .int (iz 4)]) (h' := cmH z zl (uf f 22 od) fl tx) rfl ?_
  refine Rx.ishl (c := 2) rfl (by decide) ?_
  refine Rx.ior (c := 6) rfl (by decide) ?_
  refine Rx.walk 1 (pc' := 70) (L' := [some (.ref 0), some (.int (iz 4)), some (.int (iz 4)), some (.int (iz 1)), some (.int (iz 6)), some (.int (iz 1))]) (st' := []) (h' := cmH z zl (uf f 22 od) fl tx) rfl ?_
  refine Rx.iinc (b := 1) rfl rfl rfl ?_
  refine Rx.walk 0 (pc' := 73) (L' := [some (.ref 0), some (.int (iz 4)), some (.int (iz 4)), some (.int (iz 1)), some (.int (iz 6)), some (.int (iz 2))]) (st' := []) (h' := cmH z zl (uf f 22 od) fl tx) rfl ?_
  refine Rx.walk 3 (pc' := 13) (L' := [some (.ref 0), some (.int (iz 4)), some (.int (iz 4)), some (.int (iz 1)), some (.int (iz 6)), some (.int (iz 2))]) (st' := [.int (iz 4), .int (iz 2)]) (h' := cmH z zl (uf f 22 od) fl tx) rfl ?_
  refine Rx.ge2 rfl rfl ⟨by omega, by omega⟩ ⟨by omega, by omega⟩ (fun b57 => by omega) (fun b57 => ?_)
  refine Rx.walk 2 (pc' := 19) (L' := [some (.ref 0), some (.int (iz 4)), some (.int (iz 4)), some (.int (iz 1)), some (.int (iz 6)), some (.int (iz 2))]) (st' := [.int (iz 1), .int (iz 6)]) (h' := cmH z zl (uf f 22 od) fl tx) rfl ?_
  refine Rx.callx (m' := m_X12_has) (as := [.int (iz 6), .int (iz 1)]) (rest := []) rfl (n_has_6_1 _ (cmH z zl (uf f 22 od) fl tx)   ) (fun v58 h59 q60 => ?_)
  obtain ⟨rfl, rfl⟩ := q60
  refine Rx.walk 0 (pc' := 22) (L' := [some (.ref 0), some (.int (iz 4)), some (.int (iz 4)), some (.int (iz 1)), some (.int (iz 6)), some (.int (iz 2))]) (st' := [.int (iz 1)]) (h' := cmH z zl (uf f 22 od) fl tx) rfl ?_
  refine Rx.ne1 rfl rfl ⟨by omega, by omega⟩ (fun b61 => ?_) (fun b61 => by omega)
  refine Rx.walk 3 (pc' := 40) (L' := [some (.ref 0), some (.int (iz 4)), some (.int (iz 4)), some (.int (iz 1)), some (.int (iz 6)), some (.int (iz 2))]) (st' := [.int (iz 1), .int (iz 6), .int (iz 4)]) (h' := cmH z zl (uf f 22 od) fl tx) rfl ?_
  refine Rx.callx (m' := m_X12_has) (as := [.int (iz 6), .int (iz 1)]) (rest := [.int (iz 4)]) rfl (n_has_6_1 _ (cmH z zl (uf f 22 od) fl tx)   ) (fun v62 h63 q64 => ?_)
  obtain ⟨rfl, rfl⟩ := q64
  refine Rx.walk 0 (pc' := 43) (L' := [some (.ref 0), some (.int (iz 4)), some (.int (iz 4)), some (.int (iz 1)), some (.int (iz 6)), some (.int (iz 2))]) (st' := [.int (iz 1), .int (iz 4)]) (h' := cmH z zl (uf f 22 od) fl tx) rfl ?_
  refine Rx.eq1 rfl rfl ⟨by omega, by omega⟩ (fun b65 => by omega) (fun b65 => ?_)
  refine Rx.walk 2 (pc' := 51) (L' := [some (.ref 0), some (.int (iz 4)), some (.int (iz 4)), some (.int (iz 1)), some (.int (iz 6)), some (.int (iz 2))]) (st' := [.int (iz 0), .int (iz 4)]) (h' := cmH z zl (uf f 22 od) fl tx) rfl ?_
  refine Rx.iadd rfl ?_
  refine Rx.walk 0 (pc' := 52) (L' := [some (.ref 0), some (.int (iz 4)), some (.int (iz 4)), some (.int (iz 1)), some (.int (iz 6)), some (.int (iz 2))]) (st' := [.int (iz 4)]) (h' := cmH z zl (uf f 22 od) fl tx) rfl ?_
  refine Rx.walk 3 (pc' := 55) (L' := [some (.ref 0), some (.int (iz 4)), some (.int (iz 4)), some (.int (iz 1)), some (.int (iz 6)), some (.int (iz 2))]) (st' := [.int (iz 1), .int (iz 1)]) (h' := cmH z zl (uf f 22 od) fl tx) rfl ?_
  refine Rx.iadd rfl ?_
  refine Rx.walk 0 (pc' := 56) (L' := [some (.ref 0), some (.int (iz 4)), some (.int (iz 4)), some (.int (iz 1)), some (.int (iz 6)), some (.int (iz 2))]) (st' := [.int (iz 2)]) (h' := cmH z zl (uf f 22 od) fl tx) rfl ?_
  refine Rx.walk 1 (pc' := 57) (L' := [some (.ref 0), some (.int (iz 4)), some (.int (iz 4)), some (.int (iz 1)), some (.int (iz 6)), some (.int (iz 2))]) (st' := [.int (iz 4), .int (iz 2)]) (h' := cmH z zl (uf f 22 od) fl tx) rfl ?_
  refine Rx.irem rfl ⟨by omega, by omega⟩ ⟨by omega, by omega⟩ (by omega) (by omega) ?_
  refine Rx.walk 4 (pc' := 19) (L' := [some (.ref 0), some (.int (iz 4)), some (.int (iz 4)), some (.int (iz 2)), some (.int (iz 6)), some (.int (iz 2))]) (st' := [.int (iz 2), .int (iz 6)]) (h' := cmH z zl (uf f 22 od) fl tx) rfl ?_
  refine Rx.callx (m' := m_X12_has) (as := [.int (iz 6), .int (iz 2)]) (rest := []) rfl (n_has_6_2 _ (cmH z zl (uf f 22 od) fl tx)   ) (fun v66 h67 q68 => ?_)
  obtain ⟨rfl, rfl⟩ := q68
  refine Rx.walk 0 (pc' := 22) (L' := [some (.ref 0), some (.int (iz 4)), some (.int (iz 4)), some (.int (iz 2)), some (.int (iz 6)), some (.int (iz 2))]) (st' := [.int (iz 1)]) (h' := cmH z zl (uf f 22 od) fl tx) rfl ?_
  refine Rx.ne1 rfl rfl ⟨by omega, by omega⟩ (fun b69 => ?_) (fun b69 => by omega)
  refine Rx.walk 3 (pc' := 40) (L' := [some (.ref 0), some (.int (iz 4)), some (.int (iz 4)), some (.int (iz 2)), some (.int (iz 6)), some (.int (iz 2))]) (st' := [.int (iz 2), .int (iz 6), .int (iz 4)]) (h' := cmH z zl (uf f 22 od) fl tx) rfl ?_
  refine Rx.callx (m' := m_X12_has) (as := [.int (iz 6), .int (iz 2)]) (rest := [.int (iz 4)]) rfl (n_has_6_2 _ (cmH z zl (uf f 22 od) fl tx)   ) (fun v70 h71 q72 => ?_)
  obtain ⟨rfl, rfl⟩ := q72
  refine Rx.walk 0 (pc' := 43) (L' := [some (.ref 0), some (.int (iz 4)), some (.int (iz 4)), some (.int (iz 2)), some (.int (iz 6)), some (.int (iz 2))]) (st' := [.int (iz 1), .int (iz 4)]) (h' := cmH z zl (uf f 22 od) fl tx) rfl ?_
  refine Rx.eq1 rfl rfl ⟨by omega, by omega⟩ (fun b73 => by omega) (fun b73 => ?_)
  refine Rx.walk 2 (pc' := 51) (L' := [some (.ref 0), some (.int (iz 4)), some (.int (iz 4)), some (.int (iz 2)), some (.int (iz 6)), some (.int (iz 2))]) (st' := [.int (iz 0), .int (iz 4)]) (h' := cmH z zl (uf f 22 od) fl tx) rfl ?_
  refine Rx.iadd rfl ?_
  refine Rx.walk 0 (pc' := 52) (L' := [some (.ref 0), some (.int (iz 4)), some (.int (iz 4)), some (.int (iz 2)), some (.int (iz 6)), some (.int (iz 2))]) (st' := [.int (iz 4)]) (h' := cmH z zl (uf f 22 od) fl tx) rfl ?_
  refine Rx.walk 3 (pc' := 55) (L' := [some (.ref 0), some (.int (iz 4)), some (.int (iz 4)), some (.int (iz 2)), some (.int (iz 6)), some (.int (iz 2))]) (st' := [.int (iz 1), .int (iz 2)]) (h' := cmH z zl (uf f 22 od) fl tx) rfl ?_
  refine Rx.iadd rfl ?_
  refine Rx.walk 0 (pc' := 56) (L' := [some (.ref 0), some (.int (iz 4)), some (.int (iz 4)), some (.int (iz 2)), some (.int (iz 6)), some (.int (iz 2))]) (st' := [.int (iz 3)]) (h' := cmH z zl (uf f 22 od) fl tx) rfl ?_
  refine Rx.walk 1 (pc' := 57) (L' := [some (.ref 0), some (.int (iz 4)), some (.int (iz 4)), some (.int (iz 2)), some (.int (iz 6)), some (.int (iz 2))]) (st' := [.int (iz 4), .int (iz 3)]) (h' := cmH z zl (uf f 22 od) fl tx) rfl ?_
  refine Rx.irem rfl ⟨by omega, by omega⟩ ⟨by omega, by omega⟩ (by omega) (by omega) ?_
  refine Rx.walk 4 (pc' := 19) (L' := [some (.ref 0), some (.int (iz 4)), some (.int (iz 4)), some (.int (iz 3)), some (.int (iz 6)), some (.int (iz 2))]) (st' := [.int (iz 3), .int (iz 6)]) (h' := cmH z zl (uf f 22 od) fl tx) rfl ?_
  refine Rx.callx (m' := m_X12_has) (as := [.int (iz 6), .int (iz 3)]) (rest := []) rfl (n_has_6_3 _ (cmH z zl (uf f 22 od) fl tx)   ) (fun v74 h75 q76 => ?_)
  obtain ⟨rfl, rfl⟩ := q76
  refine Rx.walk 0 (pc' := 22) (L' := [some (.ref 0), some (.int (iz 4)), some (.int (iz 4)), some (.int (iz 3)), some (.int (iz 6)), some (.int (iz 2))]) (st' := [.int (iz 0)]) (h' := cmH z zl (uf f 22 od) fl tx) rfl ?_
  refine Rx.ne1 rfl rfl ⟨by omega, by omega⟩ (fun b77 => by omega) (fun b77 => ?_)
  refine Rx.walk 4 (pc' := 32) (L' := [some (.ref 0), some (.int (iz 4)), some (.int (iz 4)), some (.int (iz 3)), some (.int (iz 6)), some (.int (iz 2))]) (st' := [.int (iz 2), .ref 22, .int (iz 3)]) (h' := cmH z zl (uf f 22 od) fl tx) rfl ?_
  refine Rx.ial (g := od) rfl rfl (by omega) (by omega) (by omega) ?_
  rw [show (od 2) = 0 from h2]
  refine Rx.eq2 rfl rfl ⟨by omega, by omega⟩ ⟨by omega, by omega⟩ (fun b78 => by omega) (fun b78 => ?_)
  refine Rx.walk 3 (pc' := 40) (L' := [some (.ref 0), some (.int (iz 4)), some (.int (iz 4)), some (.int (iz 3)), some (.int (iz 6)), some (.int (iz 2))]) (st' := [.int (iz 3), .int (iz 6), .int (iz 4)]) (h' := cmH z zl (uf f 22 od) fl tx) rfl ?_
  refine Rx.callx (m' := m_X12_has) (as := [.int (iz 6), .int (iz 3)]) (rest := [.int (iz 4)]) rfl (n_has_6_3 _ (cmH z zl (uf f 22 od) fl tx)   ) (fun v79 h80 q81 => ?_)
  obtain ⟨rfl, rfl⟩ := q81
  refine Rx.walk 0 (pc' := 43) (L' := [some (.ref 0), some (.int (iz 4)), some (.int (iz 4)), some (.int (iz 3)), some (.int (iz 6)), some (.int (iz 2))]) (st' := [.int (iz 0), .int (iz 4)]) (h' := cmH z zl (uf f 22 od) fl tx) rfl ?_
  refine Rx.eq1 rfl rfl ⟨by omega, by omega⟩ (fun b82 => ?_) (fun b82 => by omega)
  refine Rx.walk 1 (pc' := 51) (L' := [some (.ref 0), some (.int (iz 4)), some (.int (iz 4)), some (.int (iz 3)), some (.int (iz 6)), some (.int (iz 2))]) (st' := [.int (iz 1), .int (iz 4)]) (h' := cmH z zl (uf f 22 od) fl tx) rfl ?_
  refine Rx.iadd rfl ?_
  refine Rx.walk 0 (pc' := 52) (L' := [some (.ref 0), some (.int (iz 4)), some (.int (iz 4)), some (.int (iz 3)), some (.int (iz 6)), some (.int (iz 2))]) (st' := [.int (iz 5)]) (h' := cmH z zl (uf f 22 od) fl tx) rfl ?_
  refine Rx.walk 3 (pc' := 55) (L' := [some (.ref 0), some (.int (iz 4)), some (.int (iz 5)), some (.int (iz 3)), some (.int (iz 6)), some (.int (iz 2))]) (st' := [.int (iz 1), .int (iz 3)]) (h' := cmH z zl (uf f 22 od) fl tx) rfl ?_
  refine Rx.iadd rfl ?_
  refine Rx.walk 0 (pc' := 56) (L' := [some (.ref 0), some (.int (iz 4)), some (.int (iz 5)), some (.int (iz 3)), some (.int (iz 6)), some (.int (iz 2))]) (st' := [.int (iz 4)]) (h' := cmH z zl (uf f 22 od) fl tx) rfl ?_
  refine Rx.walk 1 (pc' := 57) (L' := [some (.ref 0), some (.int (iz 4)), some (.int (iz 5)), some (.int (iz 3)), some (.int (iz 6)), some (.int (iz 2))]) (st' := [.int (iz 4), .int (iz 4)]) (h' := cmH z zl (uf f 22 od) fl tx) rfl ?_
  refine Rx.irem rfl ⟨by omega, by omega⟩ ⟨by omega, by omega⟩ (by omega) (by omega) ?_
  refine Rx.walk 4 (pc' := 19) (L' := [some (.ref 0), some (.int (iz 4)), some (.int (iz 5)), some (.int (iz 0)), some (.int (iz 6)), some (.int (iz 2))]) (st' := [.int (iz 0), .int (iz 6)]) (h' := cmH z zl (uf f 22 od) fl tx) rfl ?_
  refine Rx.callx (m' := m_X12_has) (as := [.int (iz 6), .int (iz 0)]) (rest := []) rfl (n_has_6_0 _ (cmH z zl (uf f 22 od) fl tx)   ) (fun v83 h84 q85 => ?_)
  obtain ⟨rfl, rfl⟩ := q85
  refine Rx.walk 0 (pc' := 22) (L' := [some (.ref 0), some (.int (iz 4)), some (.int (iz 5)), some (.int (iz 0)), some (.int (iz 6)), some (.int (iz 2))]) (st' := [.int (iz 0)]) (h' := cmH z zl (uf f 22 od) fl tx) rfl ?_
  refine Rx.ne1 rfl rfl ⟨by omega, by omega⟩ (fun b86 => by omega) (fun b86 => ?_)
  refine Rx.walk 4 (pc' := 32) (L' := [some (.ref 0), some (.int (iz 4)), some (.int (iz 5)), some (.int (iz 0)), some (.int (iz 6)), some (.int (iz 2))]) (st' := [.int (iz 2), .ref 22, .int (iz 0)]) (h' := cmH z zl (uf f 22 od) fl tx) rfl ?_
  refine Rx.ial (g := od) rfl rfl (by omega) (by omega) (by omega) ?_
  rw [show (od 2) = 0 from h2]
  refine Rx.eq2 rfl rfl ⟨by omega, by omega⟩ ⟨by omega, by omega⟩ (fun b87 => ?_) (fun b87 => by omega)
  refine Rx.walk 3 (pc' := 66) (L' := [some (.ref 0), some (.int (iz 4)), some (.int (iz 5)), some (.int (iz 0)), some (.int (iz 6)), some (.int (iz 2))]) (st' := [.int (iz 0), .int (iz 1), .int (iz 6)]) (h' := cmH z zl (uf f 22 od) fl tx) rfl ?_
  refine Rx.ishl (c := 1) rfl (by decide) ?_
  refine Rx.ior (c := 7) rfl (by decide) ?_
  refine Rx.walk 1 (pc' := 70) (L' := [some (.ref 0), some (.int (iz 4)), some (.int (iz 5)), some (.int (iz 0)), some (.int (iz 7)), some (.int (iz 2))]) (st' := []) (h' := cmH z zl (uf f 22 od) fl tx) rfl ?_
  refine Rx.iinc (b := 1) rfl rfl rfl ?_
  refine Rx.walk 0 (pc' := 73) (L' := [some (.ref 0), some (.int (iz 4)), some (.int (iz 5)), some (.int (iz 0)), some (.int (iz 7)), some (.int (iz 3))]) (st' := []) (h' := cmH z zl (uf f 22 od) fl tx) rfl ?_
  refine Rx.walk 3 (pc' := 13) (L' := [some (.ref 0), some (.int (iz 4)), some (.int (iz 5)), some (.int (iz 0)), some (.int (iz 7)), some (.int (iz 3))]) (st' := [.int (iz 4), .int (iz 3)]) (h' := cmH z zl (uf f 22 od) fl tx) rfl ?_
  refine Rx.ge2 rfl rfl ⟨by omega, by omega⟩ ⟨by omega, by omega⟩ (fun b88 => by omega) (fun b88 => ?_)
  refine Rx.walk 2 (pc' := 19) (L' := [some (.ref 0), some (.int (iz 4)), some (.int (iz 5)), some (.int (iz 0)), some (.int (iz 7)), some (.int (iz 3))]) (st' := [.int (iz 0), .int (iz 7)]) (h' := cmH z zl (uf f 22 od) fl tx) rfl ?_
  refine Rx.callx (m' := m_X12_has) (as := [.int (iz 7), .int (iz 0)]) (rest := []) rfl (n_has_7_0 _ (cmH z zl (uf f 22 od) fl tx)   ) (fun v89 h90 q91 => ?_)
  obtain ⟨rfl, rfl⟩ := q91
  refine Rx.walk 0 (pc' := 22) (L' := [some (.ref 0), some (.int (iz 4)), some (.int (iz 5)), some (.int (iz 0)), some (.int (iz 7)), some (.int (iz 3))]) (st' := [.int (iz 1)]) (h' := cmH z zl (uf f 22 od) fl tx) rfl ?_
  refine Rx.ne1 rfl rfl ⟨by omega, by omega⟩ (fun b92 => ?_) (fun b92 => by omega)
  refine Rx.walk 3 (pc' := 40) (L' := [some (.ref 0), some (.int (iz 4)), some (.int (iz 5)), some (.int (iz 0)), some (.int (iz 7)), some (.int (iz 3))]) (st' := [.int (iz 0), .int (iz 7), .int (iz 5)]) (h' := cmH z zl (uf f 22 od) fl tx) rfl ?_
  refine Rx.callx (m' := m_X12_has) (as := [.int (iz 7), .int (iz 0)]) (rest := [.int (iz 5)]) rfl (n_has_7_0 _ (cmH z zl (uf f 22 od) fl tx)   ) (fun v93 h94 q95 => ?_)
  obtain ⟨rfl, rfl⟩ := q95
  refine Rx.walk 0 (pc' := 43) (L' := [some (.ref 0), some (.int (iz 4)), some (.int (iz 5)), some (.int (iz 0)), some (.int (iz 7)), some (.int (iz 3))]) (st' := [.int (iz 1), .int (iz 5)]) (h' := cmH z zl (uf f 22 od) fl tx) rfl ?_
  refine Rx.eq1 rfl rfl ⟨by omega, by omega⟩ (fun b96 => by omega) (fun b96 => ?_)
  refine Rx.walk 2 (pc' := 51) (L' := [some (.ref 0), some (.int (iz 4)), some (.int (iz 5)), some (.int (iz 0)), some (.int (iz 7)), some (.int (iz 3))]) (st' := [.int (iz 0), .int (iz 5)]) (h' := cmH z zl (uf f 22 od) fl tx) rfl ?_
  refine Rx.iadd rfl ?_
  refine Rx.walk 0 (pc' := 52) (L' := [some (.ref 0), some (.int (iz 4)), some (.int (iz 5)), some (.int (iz 0)), some (.int (iz 7)), some (.int (iz 3))]) (st' := [.int (iz 5)]) (h' := cmH z zl (uf f 22 od) fl tx) rfl ?_
  refine Rx.walk 3 (pc' := 55) (L' := [some (.ref 0), some (.int (iz 4)), some (.int (iz 5)), some (.int (iz 0)), some (.int (iz 7)), some (.int (iz 3))]) (st' := [.int (iz 1), .int (iz 0)]) (h' := cmH z zl (uf f 22 od) fl tx) rfl ?_
  refine Rx.iadd rfl ?_
  refine Rx.walk 0 (pc' := 56) (L' := [some (.ref 0), some (.int (iz 4)), some (.int (iz 5)), some (.int (iz 0)), some (.int (iz 7)), some (.int (iz 3))]) (st' := [.int (iz 1)]) (h' := cmH z zl (uf f 22 od) fl tx) rfl ?_
  refine Rx.walk 1 (pc' := 57) (L' := [some (.ref 0), some (.int (iz 4)), some (.int (iz 5)), some (.int (iz 0)), some (.int (iz 7)), some (.int (iz 3))]) (st' := [.int (iz 4), .int (iz 1)]) (h' := cmH z zl (uf f 22 od) fl tx) rfl ?_
  refine Rx.irem rfl ⟨by omega, by omega⟩ ⟨by omega, by omega⟩ (by omega) (by omega) ?_
  refine Rx.walk 4 (pc' := 19) (L' := [some (.ref 0), some (.int (iz 4)), some (.int (iz 5)), some (.int (iz 1)), some (.int (iz 7)), some (.int (iz 3))]) (st' := [.int (iz 1), .int (iz 7)]) (h' := cmH z zl (uf f 22 od) fl tx) rfl ?_
  refine Rx.callx (m' := m_X12_has) (as := [.int (iz 7), .int (iz 1)]) (rest := []) rfl (n_has_7_1 _ (cmH z zl (uf f 22 od) fl tx)   ) (fun v97 h98 q99 => ?_)
  obtain ⟨rfl, rfl⟩ := q99
  refine Rx.walk 0 (pc' := 22) (L' := [some (.ref 0), some (.int (iz 4)), some (.int (iz 5)), some (.int (iz 1)), some (.int (iz 7)), some (.int (iz 3))]) (st' := [.int (iz 1)]) (h' := cmH z zl (uf f 22 od) fl tx) rfl ?_
  refine Rx.ne1 rfl rfl ⟨by omega, by omega⟩ (fun b100 => ?_) (fun b100 => by omega)
  refine Rx.walk 3 (pc' := 40) (L' := [some (.ref 0), some (.int (iz 4)), some (.int (iz 5)), some (.int (iz 1)), some (.int (iz 7)), some (.int (iz 3))]) (st' := [.int (iz 1), .int (iz 7), .int (iz 5)]) (h' := cmH z zl (uf f 22 od) fl tx) rfl ?_
  refine Rx.callx (m' := m_X12_has) (as := [.int (iz 7), .int (iz 1)]) (rest := [.int (iz 5)]) rfl (n_has_7_1 _ (cmH z zl (uf f 22 od) fl tx)   ) (fun v101 h102 q103 => ?_)
  obtain ⟨rfl, rfl⟩ := q103
  refine Rx.walk 0 (pc' := 43) (L' := [some (.ref 0), some (.int (iz 4)), some (.int (iz 5)), some (.int (iz 1)), some (.int (iz 7)), some (.int (iz 3))]) (st' := [.int (iz 1), .int (iz 5)]) (h' := cmH z zl (uf f 22 od) fl tx) rfl ?_
  refine Rx.eq1 rfl rfl ⟨by omega, by omega⟩ (fun b104 => by omega) (fun b104 => ?_)
  refine Rx.walk 2 (pc' := 51) (L' := [some (.ref 0), some (.int (iz 4)), some (.int (iz 5)), some (.int (iz 1)), some (.int (iz 7)), some (.int (iz 3))]) (st' := [.int (iz 0), .int (iz 5)]) (h' := cmH z zl (uf f 22 od) fl tx) rfl ?_
  refine Rx.iadd rfl ?_
  refine Rx.walk 0 (pc' := 52) (L' := [some (.ref 0), some (.int (iz 4)), some (.int (iz 5)), some (.int (iz 1)), some (.int (iz 7)), some (.int (iz 3))]) (st' := [.int (iz 5)]) (h' := cmH z zl (uf f 22 od) fl tx) rfl ?_
  refine Rx.walk 3 (pc' := 55) (L' := [some (.ref 0), some (.int (iz 4)), some (.int (iz 5)), some (.int (iz 1)), some (.int (iz 7)), some (.int (iz 3))]) (st' := [.int (iz 1), .int (iz 1)]) (h' := cmH z zl (uf f 22 od) fl tx) rfl ?_
  refine Rx.iadd rfl ?_
  refine Rx.walk 0 (pc' := 56) (L' := [some (.ref 0), some (.int (iz 4)), some (.int (iz 5)), some (.int (iz 1)), some (.int (iz 7)), some (.int (iz 3))]) (st' := [.int (iz 2)]) (h' := cmH z zl (uf f 22 od) fl tx) rfl ?_
  refine Rx.walk 1 (pc' := 57) (L' := [some (.ref 0), some (.int (iz 4)), some (.int (iz 5)), some (.int (iz 1)), some (.int (iz 7)), some (.int (iz 3))]) (st' := [.int (iz 4), .int (iz 2)]) (h' := cmH z zl (uf f 22 od) fl tx) rfl ?_
  refine Rx.irem rfl ⟨by omega, by omega⟩ ⟨by omega, by omega⟩ (by omega) (by omega) ?_
  refine Rx.walk 4 (pc' := 19) (L' := [some (.ref 0), some (.int (iz 4)), some (.int (iz 5)), some (.int (iz 2)), some (.int (iz 7)), some (.int (iz 3))]) (st' := [.int (iz 2), .int (iz 7)]) (h' := cmH z zl (uf f 22 od) fl tx) rfl ?_
  refine Rx.callx (m' := m_X12_has) (as := [.int (iz 7), .int (iz 2)]) (rest := []) rfl (n_has_7_2 _ (cmH z zl (uf f 22 od) fl tx)   ) (fun v105 h106 q107 => ?_)
  obtain ⟨rfl, rfl⟩ := q107
  refine Rx.walk 0 (pc' := 22) (L' := [some (.ref 0), some (.int (iz 4)), some (.int (iz 5)), some (.int (iz 2)), some (.int (iz 7)), some (.int (iz 3))]) (st' := [.int (iz 1)]) (h' := cmH z zl (uf f 22 od) fl tx) rfl ?_
  refine Rx.ne1 rfl rfl ⟨by omega, by omega⟩ (fun b108 => ?_) (fun b108 => by omega)
  refine Rx.walk 3 (pc' := 40) (L' := [some (.ref 0), some (.int (iz 4)), some (.int (iz 5)), some (.int (iz 2)), some (.int (iz 7)), some (.int (iz 3))]) (st' := [.int (iz 2), .int (iz 7), .int (iz 5)]) (h' := cmH z zl (uf f 22 od) fl tx) rfl ?_
  refine Rx.callx (m' := m_X12_has) (as := [.int (iz 7), .int (iz 2)]) (rest := [.int (iz 5)]) rfl (n_has_7_2 _ (cmH z zl (uf f 22 od) fl tx)   ) (fun v109 h110 q111 => ?_)
  obtain ⟨rfl, rfl⟩ := q111
  refine Rx.walk 0 (pc' := 43) (L' := [some (.ref 0), some (.int (iz 4)), some (.int (iz 5)), some (.int (iz 2)), some (.int (iz 7)), some (.int (iz 3))]) (st' := [.int (iz 1), .int (iz 5)]) (h' := cmH z zl (uf f 22 od) fl tx) rfl ?_
  refine Rx.eq1 rfl rfl ⟨by omega, by omega⟩ (fun b112 => by omega) (fun b112 => ?_)
  refine Rx.walk 2 (pc' := 51) (L' := [some (.ref 0), some (.int (iz 4)), some (.int (iz 5)), some (.int (iz 2)), some (.int (iz 7)), some (.int (iz 3))]) (st' := [.int (iz 0), .int (iz 5)]) (h' := cmH z zl (uf f 22 od) fl tx) rfl ?_
  refine Rx.iadd rfl ?_
  refine Rx.walk 0 (pc' := 52) (L' := [some (.ref 0), some (.int (iz 4)), some (.int (iz 5)), some (.int (iz 2)), some (.int (iz 7)), some (.int (iz 3))]) (st' := [.int (iz 5)]) (h' := cmH z zl (uf f 22 od) fl tx) rfl ?_
  refine Rx.walk 3 (pc' := 55) (L' := [some (.ref 0), some (.int (iz 4)), some (.int (iz 5)), some (.int (iz 2)), some (.int (iz 7)), some (.int (iz 3))]) (st' := [.int (iz 1), .int (iz 2)]) (h' := cmH z zl (uf f 22 od) fl tx) rfl ?_
  refine Rx.iadd rfl ?_
  refine Rx.walk 0 (pc' := 56) (L' := [some (.ref 0), some (.int (iz 4)), some (.int (iz 5)), some (.int (iz 2)), some (.int (iz 7)), some (.int (iz 3))]) (st' := [.int (iz 3)]) (h' := cmH z zl (uf f 22 od) fl tx) rfl ?_
  refine Rx.walk 1 (pc' := 57) (L' := [some (.ref 0), some (.int (iz 4)), some (.int (iz 5)), some (.int (iz 2)), some (.int (iz 7)), some (.int (iz 3))]) (st' := [.int (iz 4), .int (iz 3)]) (h' := cmH z zl (uf f 22 od) fl tx) rfl ?_
  refine Rx.irem rfl ⟨by omega, by omega⟩ ⟨by omega, by omega⟩ (by omega) (by omega) ?_
  refine Rx.walk 4 (pc' := 19) (L' := [some (.ref 0), some (.int (iz 4)), some (.int (iz 5)), some (.int (iz 3)), some (.int (iz 7)), some (.int (iz 3))]) (st' := [.int (iz 3), .int (iz 7)]) (h' := cmH z zl (uf f 22 od) fl tx) rfl ?_
  refine Rx.callx (m' := m_X12_has) (as := [.int (iz 7), .int (iz 3)]) (rest := []) rfl (n_has_7_3 _ (cmH z zl (uf f 22 od) fl tx)   ) (fun v113 h114 q115 => ?_)
  obtain ⟨rfl, rfl⟩ := q115
  refine Rx.walk 0 (pc' := 22) (L' := [some (.ref 0), some (.int (iz 4)), some (.int (iz 5)), some (.int (iz 3)), some (.int (iz 7)), some (.int (iz 3))]) (st' := [.int (iz 0)]) (h' := cmH z zl (uf f 22 od) fl tx) rfl ?_
  refine Rx.ne1 rfl rfl ⟨by omega, by omega⟩ (fun b116 => by omega) (fun b116 => ?_)
  refine Rx.walk 4 (pc' := 32) (L' := [some (.ref 0), some (.int (iz 4)), some (.int (iz 5)), some (.int (iz 3)), some (.int (iz 7)), some (.int (iz 3))]) (st' := [.int (iz 3), .ref 22, .int (iz 3)]) (h' := cmH z zl (uf f 22 od) fl tx) rfl ?_
  refine Rx.ial (g := od) rfl rfl (by omega) (by omega) (by omega) ?_
  rw [show (od 3) = 3 from h3]
  refine Rx.eq2 rfl rfl ⟨by omega, by omega⟩ ⟨by omega, by omega⟩ (fun b117 => ?_) (fun b117 => by omega)
  refine Rx.walk 3 (pc' := 66) (L' := [some (.ref 0), some (.int (iz 4)), some (.int (iz 5)), some (.int (iz 3)), some (.int (iz 7)), some (.int (iz 3))]) (st' := [.int (iz 3), .int (iz 1), .int (iz 7)]) (h' := cmH z zl (uf f 22 od) fl tx) rfl ?_
  refine Rx.ishl (c := 8) rfl (by decide) ?_
  refine Rx.ior (c := 15) rfl (by decide) ?_
  refine Rx.walk 1 (pc' := 70) (L' := [some (.ref 0), some (.int (iz 4)), some (.int (iz 5)), some (.int (iz 3)), some (.int (iz 15)), some (.int (iz 3))]) (st' := []) (h' := cmH z zl (uf f 22 od) fl tx) rfl ?_
  refine Rx.iinc (b := 1) rfl rfl rfl ?_
  refine Rx.walk 0 (pc' := 73) (L' := [some (.ref 0), some (.int (iz 4)), some (.int (iz 5)), some (.int (iz 3)), some (.int (iz 15)), some (.int (iz 4))]) (st' := []) (h' := cmH z zl (uf f 22 od) fl tx) rfl ?_
  refine Rx.walk 3 (pc' := 13) (L' := [some (.ref 0), some (.int (iz 4)), some (.int (iz 5)), some (.int (iz 3)), some (.int (iz 15)), some (.int (iz 4))]) (st' := [.int (iz 4), .int (iz 4)]) (h' := cmH z zl (uf f 22 od) fl tx) rfl ?_
  refine Rx.ge2 rfl rfl ⟨by omega, by omega⟩ ⟨by omega, by omega⟩ (fun b118 => ?_) (fun b118 => by omega)
  refine Rx.walk 1 (pc' := 77) (L' := [some (.ref 0), some (.int (iz 4)), some (.int (iz 5)), some (.int (iz 3)), some (.int (iz 15)), some (.int (iz 4))]) (st' := [.int (iz 5)]) (h' := cmH z zl (uf f 22 od) fl tx) rfl ?_
  refine Rx.ret rfl ?_
  exact ⟨rfl, rfl⟩
set_option maxRecDepth 100000 in
set_option maxHeartbeats 4000000 in
theorem m_stepsOf4_15 (d : Nat) (z : Nat → Int) (zl : Nat → Int) (f : Nat → Int → Int) (fl : Nat → Int → Int) (tx : Nat)  (od : Int → Int) (h0 : od 0 = 2) (h1 : od 1 = 1) (h2 : od 2 = 3) (h3 : od 3 = 0) : Rx (d + 1) m_X12_stepsOf 0 (am_ent [.ref 0, .int (iz 4)] 6) [] (cmH z zl (uf f 22 od) fl tx) (fun rv h => rv = some (.int (iz 4)) ∧ h = cmH z zl (uf f 22 od) fl tx) := by
  refine Rx.walk 0 (pc' := 0) (L' := [some (.ref 0), some (.int (iz 4)), none, none, none, none]) (st' := []) (h' := cmH z zl (uf f 22 od) fl tx) rfl ?_
  refine Rx.walk 10 (pc' := 13) (L' := [some (.ref 0), some (.int (iz 4)), some (.int (iz 0)), some (.int (iz 0)), some (.int (iz 0)), some (.int (iz 0))]) (st' := [.int (iz 4), .int (iz 0)]) (h' := cmH z zl (uf f 22 od) fl tx) rfl ?_
  refine Rx.ge2 rfl rfl ⟨by omega, by omega⟩ ⟨by omega, by omega⟩ (fun b1 => by omega) (fun b1 => ?_)
  refine Rx.walk 2 (pc' := 19) (L' := [some (.ref 0), some (.int (iz 4)), some (.int (iz 0)), some (.int (iz 0)), some (.int (iz 0)), some (.int (iz 0))]) (st' := [.int (iz 0), .int (iz 0)]) (h' := cmH z zl (uf f 22 od) fl tx) rfl ?_
  refine Rx.callx (m' := m_X12_has) (as := [.int (iz 0), .int (iz 0)]) (rest := []) rfl (n_has_0_0 _ (cmH z zl (uf f 22 od) fl tx)   ) (fun v2 h3 q4 => ?_)
  obtain ⟨rfl, rfl⟩ := q4
  refine Rx.walk 0 (pc' := 22) (L' := [some (.ref 0), some (.int (iz 4)), some (.int (iz 0)), some (.int (iz 0)), some (.int (iz 0)), some (.int (iz 0))]) (st' := [.int (iz 0)]) (h' := cmH z zl (uf f 22 od) fl tx) rfl ?_
  refine Rx.ne1 rfl rfl ⟨by omega, by omega⟩ (fun b5 => by omega) (fun b5 => ?_)
  refine Rx.walk 4 (pc' := 32) (L' := [some (.ref 0), some (.int (iz 4)), some (.int (iz 0)), some (.int (iz 0)), some (.int (iz 0)), some (.int (iz 0))]) (st' := [.int (iz 0), .ref 22, .int (iz 0)]) (h' := cmH z zl (uf f 22 od) fl tx) rfl ?_
  refine Rx.ial (g := od) rfl rfl (by omega) (by omega) (by omega) ?_
  rw [show (od 0) = 2 from h0]
  refine Rx.eq2 rfl rfl ⟨by omega, by omega⟩ ⟨by omega, by omega⟩ (fun b6 => by omega) (fun b6 => ?_)
  refine Rx.walk 3 (pc' := 40) (L' := [some (.ref 0), some (.int (iz 4)), some (.int (iz 0)), some (.int (iz 0)), some (.int (iz 0)), some (.int (iz 0))]) (st' := [.int (iz 0), .int (iz 0), .int (iz 0)]) (h' := cmH z zl (uf f 22 od) fl tx) rfl ?_
  refine Rx.callx (m' := m_X12_has) (as := [.int (iz 0), .int (iz 0)]) (rest := [.int (iz 0)]) rfl (n_has_0_0 _ (cmH z zl (uf f 22 od) fl tx)   ) (fun v7 h8 q9 => ?_)
  obtain ⟨rfl, rfl⟩ := q9
  refine Rx.walk 0 (pc' := 43) (L' := [some (.ref 0), some (.int (iz 4)), some (.int (iz 0)), some (.int (iz 0)), some (.int (iz 0)), some (.int (iz 0))]) (st' := [.int (iz 0), .int (iz 0)]) (h' := cmH z zl (uf f 22 od) fl tx) rfl ?_
  refine Rx.eq1 rfl rfl ⟨by omega, by omega⟩ (fun b10 => ?_) (fun b10 => by omega)
  refine Rx.walk 1 (pc' := 51) (L' := [some (.ref 0), some (.int (iz 4)), some (.int (iz 0)), some (.int (iz 0)), some (.int (iz 0)), some (.int (iz 0))]) (st' := [.int (iz 1), .int (iz 0)]) (h' := cmH z zl (uf f 22 od) fl tx) rfl ?_
  refine Rx.iadd rfl ?_
  refine Rx.walk 0 (pc' := 52) (L' := [some (.ref 0), some (.int (iz 4)), some (.int (iz 0)), some (.int (iz 0)), some (.int (iz 0)), some (.int (iz 0))]) (st' := [.int (iz 1)]) (h' := cmH z zl (uf f 22 od) fl tx) rfl ?_
  refine Rx.walk 3 (pc' := 55) (L' := [some (.ref 0), some (.int (iz 4)), some (.int (iz 1)), some (.int (iz 0)), some (.int (iz 0)), some (.int (iz 0))]) (st' := [.int (iz 1), .int (iz 0)]) (h' := cmH z zl (uf f 22 od) fl tx) rfl ?_
  refine Rx.iadd rfl ?_
  refine Rx.walk 0 (pc' := 56) (L' := [some (.ref 0), some (.int (iz 4)), some (.int (iz 1)), some (.int (iz 0)), some (.int (iz 0)), some (.int (iz 0))]) (st' := [.int (iz 1)]) (h' := cmH z zl (uf f 22 od) fl tx) rfl ?_
  refine Rx.walk 1 (pc' := 57) (L' := [some (.ref 0), some (.int (iz 4)), some (.int (iz 1)), some (.int (iz 0)), some (.int (iz 0)), some (.int (iz 0))]) (st' := [.int (iz 4), .int (iz 1)]) (h' := cmH z zl (uf f 22 od) fl tx) rfl ?_
  refine Rx.irem rfl ⟨by omega, by omega⟩ ⟨by omega, by omega⟩ (by omega) (by omega) ?_
  refine Rx.walk 4 (pc' := 19) (L' := [some (.ref 0), some (.int (iz 4)), some (.int (iz 1)), some (.int (iz 1)), some (.int (iz 0)), some (.int (iz 0))]) (st' := [.int (iz 1), .int (iz 0)]) (h' := cmH z zl (uf f 22 od) fl tx) rfl ?_
  refine Rx.callx (m' := m_X12_has) (as := [.int (iz 0), .int (iz 1)]) (rest := []) rfl (n_has_0_1 _ (cmH z zl (uf f 22 od) fl tx)   ) (fun v11 h12 q13 => ?_)
  obtain ⟨rfl, rfl⟩ := q13
  refine Rx.walk 0 (pc' := 22) (L' := [some (.ref 0), some (.int (iz 4)), some (.int (iz 1)), some (.int (iz 1)), some (.int (iz 0)), some (.int (iz 0))]) (st' := [.int (iz 0)]) (h' := cmH z zl (uf f 22 od) fl tx) rfl ?_
  refine Rx.ne1 rfl rfl ⟨by omega, by omega⟩ (fun b14 => by omega) (fun b14 => ?_)
  refine Rx.walk 4 (pc' := 32) (L' := [some (.ref 0), some (.int (iz 4)), some (.int (iz 1)), some (.int (iz 1)), some (.int (iz 0)), some (.int (iz 0))]) (st' := [.int (iz 0), .ref 22, .int (iz 1)]) (h' := cmH z zl (uf f 22 od) fl tx) rfl ?_
  refine Rx.ial (g := od) rfl rfl (by omega) (by omega) (by omega) ?_
  rw [show (od 0) = 2 from h0]
  refine Rx.eq2 rfl rfl ⟨by omega, by omega⟩ ⟨by omega, by omega⟩ (fun b15 => by omega) (fun b15 => ?_)
  refine Rx.walk 3 (pc' := 40) (L' := [some (.ref 0), some (.int (iz 4)), some (.int (iz 1)), some (.int (iz 1)), some (.int (iz 0)), some (.int (iz 0))]) (st' := [.int (iz 1), .int (iz 0), .int (iz 1)]) (h' := cmH z zl (uf f 22 od) fl tx) rfl ?_
  refine Rx.callx (m' := m_X12_has) (as := [.int (iz 0), .int (iz 1)]) (rest := [.int (iz 1)]) rfl (n_has_0_1 _ (cmH z zl (uf f 22 od) fl tx)   ) (fun v16 h17 q18 => ?_)
  obtain ⟨rfl, rfl⟩ := q18
  refine Rx.walk 0 (pc' := 43) (L' := [some (.ref 0), some (.int (iz 4)), some (.int (iz 1)), some (.int (iz 1)), some (.int (iz 0)), some (.int (iz 0))]) (st' := [.int (iz 0), .int (iz 1)]) (h' := cmH z zl (uf f 22 od) fl tx) rfl ?_
  refine Rx.eq1 rfl rfl ⟨by omega, by omega⟩ (fun b19 => ?_) (fun b19 => by omega)
  refine Rx.walk 1 (pc' := 51) (L' := [some (.ref 0), some (.int (iz 4)), some (.int (iz 1)), some (.int (iz 1)), some (.int (iz 0)), some (.int (iz 0))]) (st' := [.int (iz 1), .int (iz 1)]) (h' := cmH z zl (uf f 22 od) fl tx) rfl ?_
  refine Rx.iadd rfl ?_
  refine Rx.walk 0 (pc' := 52) (L' := [some (.ref 0), some (.int (iz 4)), some (.int (iz 1)), some (.int (iz 1)), some (.int (iz 0)), some (.int (iz 0))]) (st' := [.int (iz 2)]) (h' := cmH z zl (uf f 22 od) fl tx) rfl ?_
  refine Rx.walk 3 (pc' := 55) (L' := [some (.ref 0), some (.int (iz 4)), some (.int (iz 2)), some (.int (iz 1)), some (.int (iz 0)), some (.int (iz 0))]) (st' := [.int (iz 1), .int (iz 1)]) (h' := cmH z zl (uf f 22 od) fl tx) rfl ?_
  refine Rx.iadd rfl ?_
  refine Rx.walk 0 (pc' := 56) (L' := [some (.ref 0), some (.int (iz 4)), some (.int (iz 2)), some (.int (iz 1)), some (.int (iz 0)), some (.int (iz 0))]) (st' := [.int (iz 2)]) (h' := cmH z zl (uf f 22 od) fl tx) rfl ?_
  refine Rx.walk 1 (pc' := 57) (L' := [some (.ref 0), some (.int (iz 4)), some (.int (iz 2)), some (.int (iz 1)), some (.int (iz 0)), some (.int (iz 0))]) (st' := [.int (iz 4), .int (iz 2)]) (h' := cmH z zl (uf f 22 od) fl tx) rfl ?_
  refine Rx.irem rfl ⟨by omega, by omega⟩ ⟨by omega, by omega⟩ (by omega) (by omega) ?_
  refine Rx.walk 4 (pc' := 19) (L' := [some (.ref 0), some (.int (iz 4)), some (.int (iz 2)), some (.int (iz 2)), some (.int (iz 0)), some (.int (iz 0))]) (st' := [.int (iz 2), .int (iz 0)]) (h' := cmH z zl (uf f 22 od) fl tx) rfl ?_
  refine Rx.callx (m' := m_X12_has) (as := [.int (iz 0), .int (iz 2)]) (rest := []) rfl (n_has_0_2 _ (cmH z zl (uf f 22 od) fl tx)   ) (fun v20 h21 q22 => ?_)
  obtain ⟨rfl, rfl⟩ := q22
  refine Rx.walk 0 (pc' := 22) (L' := [some (.ref 0), some (.int (iz 4)), some (.int (iz 2)), some (.int (iz 2)), some (.int (iz 0)), some (.int (iz 0))]) (st' := [.int (iz 0)]) (h' := cmH z zl (uf f 22 od) fl tx) rfl ?_
  refine Rx.ne1 rfl rfl ⟨by omega, by omega⟩ (fun b23 => by omega) (fun b23 => ?_)
  refine Rx.walk 4 (pc' := 32) (L' := [some (.ref 0), some (.int (iz 4)), some (.int (iz 2)), some (.int (iz 2)), some (.int (iz 0)), some (.int (iz 0))]) (st' := [.int (iz 0), .ref 22, .int (iz 2)]) (h' := cmH z zl (uf f 22 od) fl tx) rfl ?_
  refine Rx.ial (g := od) rfl rfl (by omega) (by omega) (by omega) ?_
  rw [show (od 0) = 2 from h0]
  refine Rx.eq2 rfl rfl ⟨by omega, by omega⟩ ⟨by omega, by omega⟩ (fun b24 => ?_) (fun b24 => by omega)
  refine Rx.walk 3 (pc' := 66) (L' := [some (.ref 0), some (.int (iz 4)), some (.int (iz 2)), some (.int (iz 2)), some (.int (iz 0)), some (.int (iz 0))]) (st' := [.int (iz 2), .int (iz 1), .int (iz 0)]) (h' := cmH z zl (uf f 22 od) fl tx) rfl ?_
  refine Rx.ishl (c := 4) rfl (by decide) ?_
  refine Rx.ior (c := 4) rfl (by decide) ?_
  refine Rx.walk 1 (pc' := 70) (L' := [some (.ref 0), some (.int (iz 4)), some (.int (iz 2)), some (.int (iz 2)), some (.int (iz 4)), some (.int (iz 0))]) (st' := []) (h' := cmH z zl (uf f 22 od) fl tx) rfl ?_
  refine Rx.iinc (b := 1) rfl rfl rfl ?_
  refine Rx.walk 0 (pc' := 73) (L' := [some (.ref 0), some (.int (iz 4)), some (.int (iz 2)), some (.int (iz 2)), some (.int (iz 4)), some (.int (iz 1))]) (st' := []) (h' := cmH z zl (uf f 22 od) fl tx) rfl ?_
  refine Rx.walk 3 (pc' := 13) (L' := [some (.ref 0), some (.int (iz 4)), some (.int (iz 2)), some (.int (iz 2)), some (.int (iz 4)), some (.int (iz 1))]) (st' := [.int (iz 4), .int (iz 1)]) (h' := cmH z zl (uf f 22 od) fl tx) rfl ?_
  refine Rx.ge2 rfl rfl ⟨by omega, by omega⟩ ⟨by omega, by omega⟩ (fun b25 => by omega) (fun b25 => ?_)
  refine Rx.walk 2 (pc' := 19) (L' := [some (.ref 0), some (.int (iz 4)), some (.int (iz 2)), some (.int (iz 2)), some (.int (iz 4)), some (.int (iz 1))]) (st' := [.int (iz 2), .int (iz 4)]) (h' := cmH z zl (uf f 22 od) fl tx) rfl ?_
  refine Rx.callx (m' := m_X12_has) (as := [.int (iz 4), .int (iz 2)]) (rest := []) rfl (n_has_4_2 _ (cmH z zl (uf f 22 od) fl tx)   ) (fun v26 h27 q28 => ?_)
  obtain ⟨rfl, rfl⟩ := q28
  refine Rx.walk 0 (pc' := 22) (L' := [some (.ref 0), some (.int (iz 4)), some (.int (iz 2)), some (.int (iz 2)), some (.int (iz 4)), some (.int (iz 1))]) (st' := [.int (iz 1)]) (h' := cmH z zl (uf f 22 od) fl tx) rfl ?_
  refine Rx.ne1 rfl rfl ⟨by omega, by omega⟩ (fun b29 => ?_) (fun b29 => by omega)
  refine Rx.walk 3 (pc' := 40) (L' := [some (.ref 0), some (.int (iz 4)), some (.int (iz 2)), some (.int (iz 2)), some (.int (iz 4)), some (.int (iz 1))]) (st' := [.int (iz 2), .int (iz 4), .int (iz 2)]) (h' := cmH z zl (uf f 22 od) fl tx) rfl ?_
  refine Rx.callx (m' := m_X12_has) (as := [.int (iz 4), .int (iz 2)]) (rest := [.int (iz 2)]) rfl (n_has_4_2 _ (cmH z zl (uf f 22 od) fl tx)   ) (fun v30 h31 q32 => ?_)
  obtain ⟨rfl, rfl⟩ := q32
  refine Rx.walk 0 (pc' := 43) (L' := [some (.ref 0), some (.int (iz 4)), some (.int (iz 2)), some (.int (iz 2)), some (.int (iz 4)), some (.int (iz 1))]) (st' := [.int (iz 1), .int (iz 2)]) (h' := cmH z zl (uf f 22 od) fl tx) rfl ?_
  refine Rx.eq1 rfl rfl ⟨by omega, by omega⟩ (fun b33 => by omega) (fun b33 => ?_)
  refine Rx.walk 2 (pc' := 51) (L' := [some (.ref 0), some (.int (iz 4)), some (.int (iz 2)), some (.int (iz 2)), some (.int (iz 4)), some (.int (iz 1))]) (st' := [.int (iz 0), .int (iz 2)]) (h' := cmH z zl (uf f 22 od) fl tx) rfl ?_
  refine Rx.iadd rfl ?_
  refine Rx.walk 0 (pc' := 52) (L' := [some (.ref 0), some (.int (iz 4)), some (.int (iz 2)), some (.int (iz 2)), some (.int (iz 4)), some (.int (iz 1))]) (st' := [.int (iz 2)]) (h' := cmH z zl (uf f 22 od) fl tx) rfl ?_
  refine Rx.walk 3 (pc' := 55) (L' := [some (.ref 0), some (.int (iz 4)), some (.int (iz 2)), some (.int (iz 2)), some (.int (iz 4)), some (.int (iz 1))]) (st' := [.int (iz 1), .int (iz 2)]) (h' := cmH z zl (uf f 22 od) fl tx) rfl ?_
  refine Rx.iadd rfl ?_
  refine Rx.walk 0 (pc' := 56) (L' := [some (.ref 0), some (.int (iz 4)), some (.int (iz 2)), some (.int (iz 2)), some (.int (iz 4)), some (.int (iz 1))]) (st' := [.int (iz 3)]) (h' := cmH z zl (uf f 22 od) fl tx) rfl ?_
  refine Rx.walk 1 (pc' := 57) (L' := [some (.ref 0), some (.int (iz 4)), some (.int (iz 2)), some (.int (iz 2)), some (.int (iz 4)), some (.int (iz 1))]) (st' := [.int (iz 4), .int (iz 3)]) (h' := cmH z zl (uf f 22 od) fl tx) rfl ?_
  refine Rx.irem rfl ⟨by omega, by omega⟩ ⟨by omega, by omega⟩ (by omega) (by omega) ?_
  refine Rx.walk 4 (pc' := 19) (L' := [some (.ref 0), some (.int (iz 4)), some (.int (iz 2)), some (.int (iz 3)), some (.int (iz 4)), some (.int (iz 1))]) (st' := [.int (iz 3), .int (iz 4)]) (h' := cmH z zl (uf f 22 od) fl tx) rfl ?_
  refine Rx.callx (m' := m_X12_has) (as := [.int (iz 4), .int (iz 3)]) (rest := []) rfl (n_has_4_3 _ (cmH z zl (uf f 22 od) fl tx)   ) (fun v34 h35 q36 => ?_)
  obtain ⟨rfl, rfl⟩ := q36
  refine Rx.walk 0 (pc' := 22) (L' := [some (.ref 0), some (.int (iz 4)), some (.int (iz 2)), some (.int (iz 3)), some (.int (iz 4)), some (.int (iz 1))]) (st' := [.int (iz 0)]) (h' := cmH z zl (uf f 22 od) fl tx) rfl ?_
  refine Rx.ne1 rfl rfl ⟨by omega, by omega⟩ (fun b37 => by omega) (fun b37 => ?_)
  refine Rx.walk 4 (pc' := 32) (L' := [some (.ref 0), some (.int (iz 4)), some (.int (iz 2)), some (.int (iz 3)), some (.int (iz 4)), some (.int (iz 1))]) (st' := [.int (iz 1), .ref 22, .int (iz 3)]) (h' := cmH z zl (uf f 22 od) fl tx) rfl ?_
  refine Rx.ial (g := od) rfl rfl (by omega) (by omega) (by omega) ?_
  rw [show (od 1) = 1 from h1]
  refine Rx.eq2 rfl rfl ⟨by omega, by omega⟩ ⟨by omega, by omega⟩ (fun b38 => by omega) (fun b38 => ?_)
  refine Rx.walk 3 (pc' := 40) (L' := [some (.ref 0), some (.int (iz 4)), some (.int (iz 2)), some (.int (iz 3)), some (.int (iz 4)), some (.int (iz 1))]) (st' := [.int (iz 3), .int (iz 4), .int (iz 2)]) (h' := cmH z zl (uf f 22 od) fl tx) rfl ?_
  refine Rx.callx (m' := m_X12_has) (as := [.int (iz 4), .int (iz 3)]) (rest := [.int (iz 2)]) rfl (n_has_4_3 _ (cmH z zl (uf f 22 od) fl tx)   ) (fun v39 h40 q41 => ?_)
  obtain ⟨rfl, rfl⟩ := q41
  refine Rx.walk 0 (pc' := 43) (L' := [some (.ref 0), some (.int (iz 4)), some (.int (iz 2)), some (.int (iz 3)), some (.int (iz 4)), some (.int (iz 1))]) (st' := [.int (iz 0), .int (iz 2)]) (h' := cmH z zl (uf f 22 od) fl tx) rfl ?_
  refine Rx.eq1 rfl rfl ⟨by omega, by omega⟩ (fun b42 => ?_) (fun b42 => by omega)
  refine Rx.walk 1 (pc' := 51) (L' := [some (.ref 0), some (.int (iz 4)), some (.int (iz 2)), some (.int (iz 3)), some (.int (iz 4)), some (.int (iz 1))]) (st' := [.int (iz 1), .int (iz 2)]) (h' := cmH z zl (uf f 22 od) fl tx) rfl ?_
  refine Rx.iadd rfl ?_
  refine Rx.walk 0 (pc' := 52) (L' := [some (.ref 0), some (.int (iz 4)), some (.int (iz 2)), some (.int (iz 3)), some (.int (iz 4)), some (.int (iz 1))]) (st' := [.int (iz 3)]) (h' := cmH z zl (uf f 22 od) fl tx) rfl ?_
  refine Rx.walk 3 (pc' := 55) (L' := [some (.ref 0), some (.int (iz 4)), some (.int (iz 3)), some (.int (iz 3)), some (.int (iz 4)), some (.int (iz 1))]) (st' := [.int (iz 1), .int (iz 3)]) (h' := cmH z zl (uf f 22 od) fl tx) rfl ?_
  refine Rx.iadd rfl ?_
  refine Rx.walk 0 (pc' := 56) (L' := [some (.ref 0), some (.int (iz 4)), some (.int (iz 3)), some (.int (iz 3)), some (.int (iz 4)), some (.int (iz 1))]) (st' := [.int (iz 4)]) (h' := cmH z zl (uf f 22 od) fl tx) rfl ?_
  refine Rx.walk 1 (pc' := 57) (L' := [some (.ref 0), some (.int (iz 4)), some (.int (iz 3)), some (.int (iz 3)), some (.int (iz 4)), some (.int (iz 1))]) (st' := [.int (iz 4), .int (iz 4)]) (h' := cmH z zl (uf f 22 od) fl tx) rfl ?_
  refine Rx.irem rfl ⟨by omega, by omega⟩ ⟨by omega, by omega⟩ (by omega) (by omega) ?_
  refine Rx.walk 4 (pc' := 19) (L' := [some (.ref 0), some (.int (iz 4)), some (.int (iz 3)), some (.int (iz 0)), some (.int (iz 4)), some (.int (iz 1))]) (st' := [.int (iz 0), .int (iz 4)]) (h' := cmH z zl (uf f 22 od) fl tx) rfl ?_
  refine Rx.callx (m' := m_X12_has) (as := [.int (iz 4), .int (iz 0)]) (rest := []) rfl (n_has_4_0 _ (cmH z zl (uf f 22 od) fl tx)   ) (fun v43 h44 q45 => ?_)
  obtain ⟨rfl, rfl⟩ := q45
  refine Rx.walk 0 (pc' := 22) (L' := [some (.ref 0), some (.int (iz 4)), some (.int (iz 3)), some (.int (iz 0)), some (.int (iz 4)), some (.int (iz 1))]) (st' := [.int (iz 0)]) (h' := cmH z zl (uf f 22 od) fl tx) rfl ?_
  refine Rx.ne1 rfl rfl ⟨by omega, by omega⟩ (fun b46 => by omega) (fun b46 => ?_)
  refine Rx.walk 4 (pc' := 32) (L' := [some (.ref 0), some (.int (iz 4)), some (.int (iz 3)), some (.int (iz 0)), some (.int (iz 4)), some (.int (iz 1))]) (st' := [.int (iz 1), .ref 22, .int (iz 0)]) (h' := cmH z zl (uf f 22 od) fl tx) rfl ?_
  refine Rx.ial (g := od) rfl rfl (by omega) (by omega) (by omega) ?_
  rw [show (od 1) = 1 from h1]
  refine Rx.eq2 rfl rfl ⟨by omega, by omega⟩ ⟨by omega, by omega⟩ (fun b47 => by omega) (fun b47 => ?_)
  refine Rx.walk 3 (pc' := 40) (L' := [some (.ref 0), some (.int (iz 4)), some (.int (iz 3)), some (.int (iz 0)), some (.int (iz 4)), some (.int (iz 1))]) (st' := [.int (iz 0), .int (iz 4), .int (iz 3)]) (h' := cmH z zl (uf f 22 od) fl tx) rfl ?_
  refine Rx.callx (m' := m_X12_has) (as := [.int (iz 4), .int (iz 0)]) (rest := [.int (iz 3)]) rfl (n_has_4_0 _ (cmH z zl (uf f 22 od) fl tx)   ) (fun v48 h49 q50 => ?_)
  obtain ⟨rfl, rfl⟩ := q50
  refine Rx.walk 0 (pc' := 43) (L' := [some (.ref 0), some (.int (iz 4)), some (.int (iz 3)), some (.int (iz 0)), some (.int (iz 4)), some (.int (iz 1))]) (st' := [.int (iz 0), .int (iz 3)]) (h' := cmH z zl (uf f 22 od) fl tx) rfl ?_
  refine Rx.eq1 rfl rfl ⟨by omega, by omega⟩ (fun b51 => ?_) (fun b51 => by omega)
  refine Rx.walk 1 (pc' := 51) (L' := [some (.ref 0), some (.int (iz 4)), some (.int (iz 3)), some (.int (iz 0)), some (.int (iz 4)), some (.int (iz 1))]) (st' := [.int (iz 1), .int (iz 3)]) (h' := cmH z zl (uf f 22 od) fl tx) rfl ?_
  refine Rx.iadd rfl ?_
  refine Rx.walk 0 (pc' := 52) (L' := [some (.ref 0), some (.int (iz 4)), some (.int (iz 3)), some (.int (iz 0)), some (.int (iz 4)), some (.int (iz 1))]) (st' := [.int (iz 4)]) (h' := cmH z zl (uf f 22 od) fl tx) rfl ?_
  refine Rx.walk 3 (pc' := 55) (L' := [some (.ref 0), some (.int (iz 4)), some (.int (iz 4)), some (.int (iz 0)), some (.int (iz 4)), some (.int (iz 1))]) (st' := [.int (iz 1), .int (iz 0)]) (h' := cmH z zl (uf f 22 od) fl tx) rfl ?_
  refine Rx.iadd rfl ?_
  refine Rx.walk 0 (pc' := 56) (L' := [some (.ref 0), some (.int (iz 4)), some (.int (iz 4)), some (.int (iz 0)), some (.int (iz 4)), some (.int (iz 1))]) (st' := [.int (iz 1)]) (h' := cmH z zl (uf f 22 od) fl tx) rfl ?_
  refine Rx.walk 1 (pc' := 57) (L' := [some (.ref 0), some (.int (iz 4)), some (.int (iz 4)), some (.int (iz 0)), some (.int (iz 4)), some (.int (iz 1))]) (st' := [.int (iz 4), .int (iz 1)]) (h' := cmH z zl (uf f 22 od) fl tx) rfl ?_
  refine Rx.irem rfl ⟨by omega, by omega⟩ ⟨by omega, by omega⟩ (by omega) (by omega) ?_
  refine Rx.walk 4 (pc' := 19) (L' := [some (.ref 0), some (.int (iz 4)), some (.int (iz 4)), some (.int (iz 1)), some (.int (iz 4)), some (.int (iz 1))]) (st' := [.int (iz 1), .int (iz 4)]) (h' := cmH z zl (uf f 22 od) fl tx) rfl ?_
  refine Rx.callx (m' := m_X12_has) (as := [.int (iz 4), .int (iz 1)]) (rest := []) rfl (n_has_4_1 _ (cmH z zl (uf f 22 od) fl tx)   ) (fun v52 h53 q54 => ?_)
  obtain ⟨rfl, rfl⟩ := q54
  refine Rx.walk 0 (pc' := 22) (L' := [some (.ref 0), some (.int (iz 4)), some (.int (iz 4)), some (.int (iz 1)), some (.int (iz 4)), some (.int (iz 1))]) (st' := [.int (iz 0)]) (h' := cmH z zl (uf f 22 od) fl tx) rfl ?_
  refine Rx.ne1 rfl rfl ⟨by omega, by omega⟩ (fun b55 => by omega) (fun b55 => ?_)
  refine Rx.walk 4 (pc' := 32) (L' := [some (.ref 0), some (.int (iz 4)), some (.int (iz 4)), some (.int (iz 1)), some (.int (iz 4)), some (.int (iz 1))]) (st' := [.int (iz 1), .ref 22, .int (iz 1)]) (h' := cmH z zl (uf f 22 od) fl tx) rfl ?_
  refine Rx.ial (g := od) rfl rfl (by omega) (by omega) (by omega) ?_
  rw [show (od 1) = 1 from h1]
  refine Rx.eq2 rfl rfl ⟨by omega, by omega⟩ ⟨by omega, by omega⟩ (fun b56 => ?_) (fun b56 => by omega)
  refine Rx.walk 3 (pc' := 66) (L' := [some (.ref 0), some (.int (iz 4)), some (.int (iz 4)), some (.int (iz 1)), some (.int (iz 4)), some (.int (iz 1))]) (st' := [.int (iz 1), .int (iz 1), .int (iz 4)]) (h' := cmH z zl (uf f 22 od) fl tx) rfl ?_
  refine Rx.ishl (c := 2) rfl (by decide) ?_
  refine Rx.ior (c := 6) rfl (by decide) ?_
  refine Rx.walk 1 (pc' := 70) (L' := [some (.ref 0), some (.int (iz 4)), some (.int (iz 4)), some (.int (iz 1)), some (.int (iz 6)), some (.int (iz 1))]) (st' := []) (h' := cmH z zl (uf f 22 od) fl tx) rfl ?_
  refine Rx.iinc (b := 1) rfl rfl rfl ?_
  refine Rx.walk 0 (pc' := 73) (L' := [some (.ref 0), some (.int (iz 4)), some (.int (iz 4)), some (.int (iz 1)), some (.int (iz 6)), some (.int (iz 2))]) (st' := []) (h' := cmH z zl (uf f 22 od) fl tx) rfl ?_
  refine Rx.walk 3 (pc' := 13) (L' := [some (.ref 0), some (.int (iz 4)), some (.int (iz 4)), some (.int (iz 1)), some (.int (iz 6)), some (.int (iz 2))]) (st' := [.int (iz 4), .int (iz 2)]) (h' := cmH z zl (uf f 22 od) fl tx) rfl ?_
  refine Rx.ge2 rfl rfl ⟨by omega, by omega⟩ ⟨by omega, by omega⟩ (fun b57 => by omega) (fun b57 => ?_)
  refine Rx.walk 2 (pc' := 19) (L' := [some (.ref 0), some (.int (iz 4)), some (.int (iz 4)), some (.int (iz 1)), some (.int (iz 6)), some (.int (iz 2))]) (st' := [.int (iz 1), .int (iz 6)]) (h' := cmH z zl (uf f 22 od) fl tx) rfl ?_
  refine Rx.callx (m' := m_X12_has) (as := [.int (iz 6), .int (iz 1)]) (rest := []) rfl (n_has_6_1 _ (cmH z zl (uf f 22 od) fl tx)   ) (fun v58 h59 q60 => ?_)
  obtain ⟨rfl, rfl⟩ := q60
  refine Rx.walk 0 (pc' := 22) (L' := [some (.ref 0), some (.int (iz 4)), some (.int (iz 4)), some (.int (iz 1)), some (.int (iz 6)), some (.int (iz 2))]) (st' := [.int (iz 1)]) (h' := cmH z zl (uf f 22 od) fl tx) rfl ?_
  refine Rx.ne1 rfl rfl ⟨by omega, by omega⟩ (fun b61 => ?_) (fun b61 => by omega)
  refine Rx.walk 3 (pc' := 40) (L' := [some (.ref 0), some (.int (iz 4)), some (.int (iz 4)), some (.int (iz 1)), some (.int (iz 6)), some (.int (iz 2))]) (st' := [.int (iz 1), .int (iz 6), .int (iz 4)]) (h' := cmH z zl (uf f 22 od) fl tx) rfl ?_
  refine Rx.callx (m' := m_X12_has) (as := [.int (iz 6), .int (iz 1)]) (rest := [.int (iz 4)]) rfl (n_has_6_1 _ (cmH z zl (uf f 22 od) fl tx)   ) (fun v62 h63 q64 => ?_)
  obtain ⟨rfl, rfl⟩ := q64
  refine Rx.walk 0 (pc' := 43) (L' := [some (.ref 0), some (.int (iz 4)), some (.int (iz 4)), some (.int (iz 1)), some (.int (iz 6)), some (.int (iz 2))]) (st' := [.int (iz 1), .int (iz 4)]) (h' := cmH z zl (uf f 22 od) fl tx) rfl ?_
  refine Rx.eq1 rfl rfl ⟨by omega, by omega⟩ (fun b65 => by omega) (fun b65 => ?_)
  refine Rx.walk 2 (pc' := 51) (L' := [some (.ref 0), some (.int (iz 4)), some (.int (iz 4)), some (.int (iz 1)), some (.int (iz 6)), some (.int (iz 2))]) (st' := [.int (iz 0), .int (iz 4)]) (h' := cmH z zl (uf f 22 od) fl tx) rfl ?_
  refine Rx.iadd rfl ?_
  refine Rx.walk 0 (pc' := 52) (L' := [some (.ref 0), some (.int (iz 4)), some (.int (iz 4)), some (.int (iz 1)), some (.int (iz 6)), some (.int (iz 2))]) (st' := [.int (iz 4)]) (h' := cmH z zl (uf f 22 od) fl tx) rfl ?_
  refine Rx.walk 3 (pc' := 55) (L' := [some (.ref 0), some (.int (iz 4)), some (.int (iz 4)), some (.int (iz 1)), some (.int (iz 6)), some (.int (iz 2))]) (st' := [.int (iz 1), .int (iz 1)]) (h' := cmH z zl (uf f 22 od) fl tx) rfl ?_
  refine Rx.iadd rfl ?_
  refine Rx.walk 0 (pc' := 56) (L' := [some (.ref 0), some (.int (iz 4)), some (.int (iz 4)), some (.int (iz 1)), some (.int (iz 6)), some (.int (iz 2))]) (st' := [.int (iz 2)]) (h' := cmH z zl (uf f 22 od) fl tx) rfl ?_
  refine Rx.walk 1 (pc' := 57) (L' := [some (.ref 0), some (.int (iz 4)), some (.int (iz 4)), some (.int (iz 1)), some (.int (iz 6)), some (.int (iz 2))]) (st' := [.int (iz 4), .int (iz 2)]) (h' := cmH z zl (uf f 22 od) fl tx) rfl ?_
  refine Rx.irem rfl ⟨by omega, by omega⟩ ⟨by omega, by omega⟩ (by omega) (by omega) ?_
  refine Rx.walk 4 (pc' := 19) (L' := [some (.ref 0), some (.int (iz 4)), some (.int (iz 4)), some (.int (iz 2)), some (.int (iz 6)), some (.int (iz 2))]) (st' := [.int (iz 2), .int (iz 6)]) (h' := cmH z zl (uf f 22 od) fl tx) rfl ?_
  refine Rx.callx (m' := m_X12_has) (as := [.int (iz 6), .int (iz 2)]) (rest := []) rfl (n_has_6_2 _ (cmH z zl (uf f 22 od) fl tx)   ) (fun v66 h67 q68 => ?_)
  obtain ⟨rfl, rfl⟩ := q68
  refine Rx.walk 0 (pc' := 22) (L' := [some (.ref 0), some (.int (iz 4)), some (.int (iz 4)), some (.int (iz 2)), some (.int (iz 6)), some (.int (iz 2))]) (st' := [.int (iz 1)]) (h' := cmH z zl (uf f 22 od) fl tx) rfl ?_
  refine Rx.ne1 rfl rfl ⟨by omega, by omega⟩ (fun b69 => ?_) (fun b69 => by omega)
  refine Rx.walk 3 (pc' := 40) (L' := [some (.ref 0), some (.int (iz 4)), some (.int (iz 4)), some (.int (iz 2)), some (.int (iz 6)), some (.int (iz 2))]) (st' := [.int (iz 2), .int (iz 6), .int (iz 4)]) (h' := cmH z zl (uf f 22 od) fl tx) rfl ?_
  refine Rx.callx (m' := m_X12_has) (as := [.int (iz 6), .int (iz 2)]) (rest := [.int (iz 4)]) rfl (n_has_6_2 _ (cmH z zl (uf f 22 od) fl tx)   ) (fun v70 h71 q72 => ?_)
  obtain ⟨rfl, rfl⟩ := q72
  refine Rx.walk 0 (pc' := 43) (L' := [some (.ref 0), some (.int (iz 4)), some (.int (iz 4)), some (.int (iz 2)), some (.int (iz 6)), some (.int (iz 2))]) (st' := [.int (iz 1), .int (iz 4)]) (h' := cmH z zl (uf f 22 od) fl tx) rfl ?_
  refine Rx.eq1 rfl rfl ⟨by omega, by omega⟩ (fun b73 => by omega) (fun b73 => ?_)
  refine Rx.walk 2 (pc' := 51) (L' := [some (.ref 0), some (.int (iz 4)), some (.int (iz 4)), some (.int (iz 2)), some (.int (iz 6)), some (.int (iz 2))]) (st' := [.int (iz 0), .int (iz 4)]) (h' := cmH z zl (uf f 22 od) fl tx) rfl ?_
  refine Rx.iadd rfl ?_
  refine Rx.walk 0 (pc' := 52) (L' := [some (.ref 0), some (.int (iz 4)), some (.int (iz 4)), some (.int (iz 2)), some (.int (iz 6)), some (.int (iz 2))]) (st' := [.int (iz 4)]) (h' := cmH z zl (uf f 22 od) fl tx) rfl ?_
  refine Rx.walk 3 (pc' := 55) (L' := [some (.ref 0), some (.int (iz 4)), some (.int (iz 4)), some (.int (iz 2)), some (.int (iz 6)), some (.int (iz 2))]) (st' := [.int (iz 1), .int (iz 2)]) (h' := cmH z zl (uf f 22 od) fl tx) rfl ?_
  refine Rx.iadd rfl ?_
  refine Rx.walk 0 (pc' := 56) (L' := [some (.ref 0), some (.int (iz 4)), some (.int (iz 4)), some (.int (iz 2)), some (.int (iz 6)), some (.int (iz 2))]) (st' := [.int (iz 3)]) (h' := cmH z zl (uf f 22 od) fl tx) rfl ?_
  refine Rx.walk 1 (pc' := 57) (L' := [some (.ref 0), some (.int (iz 4)), some (.int (iz 4)), some (.int (iz 2)), some (.int (iz 6)), some (.int (iz 2))]) (st' := [.int (iz 4), .int (iz 3)]) (h' := cmH z zl (uf f 22 od) fl tx) rfl ?_
  refine Rx.irem rfl ⟨by omega, by omega⟩ ⟨by omega, by omega⟩ (by omega) (by omega) ?_
  refine Rx.walk 4 (pc' := 19) (L' := [some (.ref 0), some (.int (iz 4)), some (.int (iz 4)), some (.int (iz 3)), some (.int (iz 6)), some (.int (iz 2))]) (st' := [.int (iz 3), .int (iz 6)]) (h' := cmH z zl (uf f 22 od) fl tx) rfl ?_
  refine Rx.callx (m' := m_X12_has) (as := [.int (iz 6), .int (iz 3)]) (rest := []) rfl (n_has_6_3 _ (cmH z zl (uf f 22 od) fl tx)   ) (fun v74 h75 q76 => ?_)
  obtain ⟨rfl, rfl⟩ := q76
  refine Rx.walk 0 (pc' := 22) (L' := [some (.ref 0), some (.int (iz 4)), some (.int (iz 4)), some (.int (iz 3)), some (.int (iz 6)), some (.int (iz 2))]) (st' := [.int (iz 0)]) (h' := cmH z zl (uf f 22 od) fl tx) rfl ?_
  refine Rx.ne1 rfl rfl ⟨by omega, by omega⟩ (fun b77 => by omega) (fun b77 => ?_)
  refine Rx.walk 4 (pc' := 32) (L' := [some (.ref 0), some (.int (iz 4)), some (.int (iz 4)), some (.int (iz 3)), some (.int (iz 6)), some (.int (iz 2))]) (st' := [.int (iz 2), .ref 22, .int (iz 3)]) (h' := cmH z zl (uf f 22 od) fl tx) rfl ?_
  refine Rx.ial (g := od) rfl rfl (by omega) (by omega) (by omega) ?_
  rw [show (od 2) = 3 from h2]
  refine Rx.eq2 rfl rfl ⟨by omega, by omega⟩ ⟨by omega, by omega⟩ (fun b78 => ?_) (fun b78 => by omega)
  refine Rx.walk 3 (pc' := 66) (L' := [some (.ref 0), some (.int (iz 4)), some (.int (iz 4)), some (.int (iz 3)), some (.int (iz 6)), some (.int (iz 2))]) (st' := [.int (iz 3), .int (iz 1), .int (iz 6)]) (h' := cmH z zl (uf f 22 od) fl tx) rfl ?_
  refine Rx.ishl (c := 8) rfl (by decide) ?_
  refine Rx.ior (c := 14) rfl (by decide) ?_
  refine Rx.walk 1 (pc' := 70) (L' := [some (.ref 0), some (.int (iz 4)), some (.int (iz 4)), some (.int (iz 3)), some (.int (iz 14)), some (.int (iz 2))]) (st' := []) (h' := cmH z zl (uf f 22 od) fl tx) rfl ?_
  refine Rx.iinc (b := 1) rfl rfl rfl ?_
  refine Rx.walk 0 (pc' := 73) (L' := [some (.ref 0), some (.int (iz 4)), some (.int (iz 4)), some (.int (iz 3)), some (.int (iz 14)), some (.int (iz 3))]) (st' := []) (h' := cmH z zl (uf f 22 od) fl tx) rfl ?_
  refine Rx.walk 3 (pc' := 13) (L' := [some (.ref 0), some (.int (iz 4)), some (.int (iz 4)), some (.int (iz 3)), some (.int (iz 14)), some (.int (iz 3))]) (st' := [.int (iz 4), .int (iz 3)]) (h' := cmH z zl (uf f 22 od) fl tx) rfl ?_
  refine Rx.ge2 rfl rfl ⟨by omega, by omega⟩ ⟨by omega, by omega⟩ (fun b79 => by omega) (fun b79 => ?_)
  refine Rx.walk 2 (pc' := 19) (L' := [some (.ref 0), some (.int (iz 4)), some (.int (iz 4)), some (.int (iz 3)), some (.int (iz 14)), some (.int (iz 3))]) (st' := [.int (iz 3), .int (iz 14)]) (h' := cmH z zl (uf f 22 od) fl tx) rfl ?_
  refine Rx.callx (m' := m_X12_has) (as := [.int (iz 14), .int (iz 3)]) (rest := []) rfl (n_has_14_3 _ (cmH z zl (uf f 22 od) fl tx)   ) (fun v80 h81 q82 => ?_)
  obtain ⟨rfl, rfl⟩ := q82
  refine Rx.walk 0 (pc' := 22) (L' := [some (.ref 0), some (.int (iz 4)), some (.int (iz 4)), some (.int (iz 3)), some (.int (iz 14)), some (.int (iz 3))]) (st' := [.int (iz 1)]) (h' := cmH z zl (uf f 22 od) fl tx) rfl ?_
  refine Rx.ne1 rfl rfl ⟨by omega, by omega⟩ (fun b83 => ?_) (fun b83 => by omega)
  refine Rx.walk 3 (pc' := 40) (L' := [some (.ref 0), some (.int (iz 4)), some (.int (iz 4)), some (.int (iz 3)), some (.int (iz 14)), some (.int (iz 3))]) (st' := [.int (iz 3), .int (iz 14), .int (iz 4)]) (h' := cmH z zl (uf f 22 od) fl tx) rfl ?_
  refine Rx.callx (m' := m_X12_has) (as := [.int (iz 14), .int (iz 3)]) (rest := [.int (iz 4)]) rfl (n_has_14_3 _ (cmH z zl (uf f 22 od) fl tx)   ) (fun v84 h85 q86 => ?_)
  obtain ⟨rfl, rfl⟩ := q86
  refine Rx.walk 0 (pc' := 43) (L' := [some (.ref 0), some (.int (iz 4)), some (.int (iz 4)), some (.int (iz 3)), some (.int (iz 14)), some (.int (iz 3))]) (st' := [.int (iz 1), .int (iz 4)]) (h' := cmH z zl (uf f 22 od) fl tx) rfl ?_
  refine Rx.eq1 rfl rfl ⟨by omega, by omega⟩ (fun b87 => by omega) (fun b87 => ?_)
  refine Rx.walk 2 (pc' := 51) (L' := [some (.ref 0), some (.int (iz 4)), some (.int (iz 4)), some (.int (iz 3)), some (.int (iz 14)), some (.int (iz 3))]) (st' := [.int (iz 0), .int (iz 4)]) (h' := cmH z zl (uf f 22 od) fl tx) rfl ?_
  refine Rx.iadd rfl ?_
  refine Rx.walk 0 (pc' := 52) (L' := [some (.ref 0), some (.int (iz 4)), some (.int (iz 4)), some (.int (iz 3)), some (.int (iz 14)), some (.int (iz 3))]) (st' := [.int (iz 4)]) (h' := cmH z zl (uf f 22 od) fl tx) rfl ?_
  refine Rx.walk 3 (pc' := 55) (L' := [some (.ref 0), some (.int (iz 4)), some (.int (iz 4)), some (.int (iz 3)), some (.int (iz 14)), some (.int (iz 3))]) (st' := [.int (iz 1), .int (iz 3)]) (h' := cmH z zl (uf f 22 od) fl tx) rfl ?_
  refine Rx.iadd rfl ?_
  refine Rx.walk 0 (pc' := 56) (L' := [some (.ref 0), some (.int (iz 4)), some (.int (iz 4)), some (.int (iz 3)), some (.int (iz 14)), some (.int (iz 3))]) (st' := [.int (iz 4)]) (h' := cmH z zl (uf f 22 od) fl tx) rfl ?_
  refine Rx.walk 1 (pc' := 57) (L' := [some (.ref 0), some (.int (iz 4)), some (.int (iz 4)), some (.int (iz 3)), some (.int (iz 14)), some (.int (iz 3))]) (st' := [.int (iz 4), .int (iz 4)]) (h' := cmH z zl (uf f 22 od) fl tx) rfl ?_
  refine Rx.irem rfl ⟨by omega, by omega⟩ ⟨by omega, by omega⟩ (by omega) (by omega) ?_
  refine Rx.walk 4 (pc' := 19) (L' := [some (.ref 0), some (.int (iz 4)), some (.int (iz 4)), some (.int (iz 0)), some (.int (iz 14)), some (.int (iz 3))]) (st' := [.int (iz 0), .int (iz 14)]) (h' := cmH z zl (uf f 22 od) fl tx) rfl ?_
  refine Rx.callx (m' := m_X12_has) (as := [.int (iz 14), .int (iz 0)]) (rest := []) rfl (n_has_14_0 _ (cmH z zl (uf f 22 od) fl tx)   ) (fun v88 h89 q90 => ?_)
  obtain ⟨rfl, rfl⟩ := q90
  refine Rx.walk 0 (pc' := 22) (L' := [some (.ref 0), some (.int (iz 4)), some (.int (iz 4)), some (.int (iz 0)), some (.int (iz 14)), some (.int (iz 3))]) (st' := [.int (iz 0)]) (h' := cmH z zl (uf f 22 od) fl tx) rfl ?_
  refine Rx.ne1 rfl rfl ⟨by omega, by omega⟩ (fun b91 => by omega) (fun b91 => ?_)
  refine Rx.walk 4 (pc' := 32) (L' := [some (.ref 0), some (.int (iz 4)), some (.int (iz 4)), some (.int (iz 0)), some (.int (iz 14)), some (.int (iz 3))]) (st' := [.int (iz 3), .ref 22, .int (iz 0)]) (h' := cmH z zl (uf f 22 od) fl tx) rfl ?_
  refine Rx.ial (g := od) rfl rfl (by omega) (by omega) (by omega) ?_
  rw [show (od 3) = 0 from h3]
  refine Rx.eq2 rfl rfl ⟨by omega, by omega⟩ ⟨by omega, by omega⟩ (fun b92 => ?_) (fun b92 => by omega)
  refine Rx.walk 3 (pc' := 66) (L' := [some (.ref 0), some (.int (iz 4)), some (.int (iz 4)), some (.int (iz 0)), some (.int (iz 14)), some (.int (iz 3))]) (st' := [.int (iz 0), .int (iz 1), .int (iz 14)]) (h' := cmH z zl (uf f 22 od) fl tx) rfl ?_
  refine Rx.ishl (c := 1) rfl (by decide) ?_
  refine Rx.ior (c := 15) rfl (by decide) ?_
  refine Rx.walk 1 (pc' := 70) (L' := [some (.ref 0), some (.int (iz 4)), some (.int (iz 4)), some (.int (iz 0)), some (.int (iz 15)), some (.int (iz 3))]) (st' := []) (h' := cmH z zl (uf f 22 od) fl tx) rfl ?_
  refine Rx.iinc (b := 1) rfl rfl rfl ?_
  refine Rx.walk 0 (pc' := 73) (L' := [some (.ref 0), some (.int (iz 4)), some (.int (iz 4)), some (.int (iz 0)), some (.int (iz 15)), some (.int (iz 4))]) (st' := []) (h' := cmH z zl (uf f 22 od) fl tx) rfl ?_
  refine Rx.walk 3 (pc' := 13) (L' := [some (.ref 0), some (.int (iz 4)), some (.int (iz 4)), some (.int (iz 0)), some (.int (iz 15)), some (.int (iz 4))]) (st' := [.int (iz 4), .int (iz 4)]) (h' := cmH z zl (uf f 22 od) fl tx) rfl ?_
  refine Rx.ge2 rfl rfl ⟨by omega, by omega⟩ ⟨by omega, by omega⟩ (fun b93 => ?_) (fun b93 => by omega)
  refine Rx.walk 1 (pc' := 77) (L' := [some (.ref 0), some (.int (iz 4)), some (.int (iz 4)), some (.int (iz 0)), some (.int (iz 15)), some (.int (iz 4))]) (st' := [.int (iz 4)]) (h' := cmH z zl (uf f 22 od) fl tx) rfl ?_
  refine Rx.ret rfl ?_
  exact ⟨rfl, rfl⟩
set_option maxRecDepth 100000 in
set_option maxHeartbeats 4000000 in
theorem n_has_12_3 (d : Nat) (h0 : AmH)   : Rx (d) m_X12_has 0 (am_ent [.int (iz 12), .int (iz 3)] 2) [] (h0) (fun rv h => rv = some (.int (iz 1)) ∧ h0 = h) := ⟨_, _, ⟨100, rfl⟩, rfl, rfl⟩
set_option maxRecDepth 100000 in
set_option maxHeartbeats 4000000 in
theorem n_has_12_0 (d : Nat) (h0 : AmH)   : Rx (d) m_X12_has 0 (am_ent [.int (iz 12), .int (iz 0)] 2) [] (h0) (fun rv h => rv = some (.int (iz 0)) ∧ h0 = h) := ⟨_, _, ⟨100, rfl⟩, rfl, rfl⟩
set_option maxRecDepth 100000 in
set_option maxHeartbeats 4000000 in
theorem m_stepsOf4_16 (d : Nat) (z : Nat → Int) (zl : Nat → Int) (f : Nat → Int → Int) (fl : Nat → Int → Int) (tx : Nat)  (od : Int → Int) (h0 : od 0 = 2) (h1 : od 1 = 3) (h2 : od 2 = 0) (h3 : od 3 = 1) : Rx (d + 1) m_X12_stepsOf 0 (am_ent [.ref 0, .int (iz 4)] 6) [] (cmH z zl (uf f 22 od) fl tx) (fun rv h => rv = some (.int (iz 2)) ∧ h = cmH z zl (uf f 22 od) fl tx) := by
  refine Rx.walk 0 (pc' := 0) (L' := [some (.ref 0), some (.int (iz 4)), none, none, none, none]) (st' := []) (h' := cmH z zl (uf f 22 od) fl tx) rfl ?_
  refine Rx.walk 10 (pc' := 13) (L' := [some (.ref 0), some (.int (iz 4)), some (.int (iz 0)), some (.int (iz 0)), some (.int (iz 0)), some (.int (iz 0))]) (st' := [.int (iz 4), .int (iz 0)]) (h' := cmH z zl (uf f 22 od) fl tx) rfl ?_
  refine Rx.ge2 rfl rfl ⟨by omega, by omega⟩ ⟨by omega, by omega⟩ (fun b1 => by omega) (fun b1 => ?_)
  refine Rx.walk 2 (pc' := 19) (L' := [some (.ref 0), some (.int (iz 4)), some (.int (iz 0)), some (.int (iz 0)), some (.int (iz 0)), some (.int (iz 0))]) (st' := [.int (iz 0), .int (iz 0)]) (h' := cmH z zl (uf f 22 od) fl tx) rfl ?_
  refine Rx.callx (m' := m_X12_has) (as := [.int (iz 0), .int (iz 0)]) (rest := []) rfl (n_has_0_0 _ (cmH z zl (uf f 22 od) fl tx)   ) (fun v2 h3 q4 => ?_)
  obtain ⟨rfl, rfl⟩ := q4
  refine Rx.walk 0 (pc' := 22) (L' := [some (.ref 0), some (.int (iz 4)), some (.int (iz 0)), some (.int (iz 0)), some (.int (iz 0)), some (.int (iz 0))]) (st' := [.int (iz 0)]) (h' := cmH z zl (uf f 22 od) fl tx) rfl ?_
  refine Rx.ne1 rfl rfl ⟨by omega, by omega⟩ (fun b5 => by omega) (fun b5 => ?_)
  refine Rx.walk 4 (pc' := 32) (L' := [some (.ref 0), some (.int (iz 4)), some (.int (iz 0)), some (.int (iz 0)), some (.int (iz 0)), some (.int (iz 0))]) (st' := [.int (iz 0), .ref 22, .int (iz 0)]) (h' := cmH z zl (uf f 22 od) fl tx) rfl ?_
  refine Rx.ial (g := od) rfl rfl (by omega) (by omega) (by omega) ?_
  rw [show (od 0) = 2 from h0]
  refine Rx.eq2 rfl rfl ⟨by omega, by omega⟩ ⟨by omega, by omega⟩ (fun b6 => by omega) (fun b6 => ?_)
  refine Rx.walk 3 (pc' := 40) (L' := [some (.ref 0), some (.int (iz 4)), some (.int (iz 0)), some (.int (iz 0)), some (.int (iz 0)), some (.int (iz 0))]) (st' := [.int (iz 0), .int (iz 0), .int (iz 0)]) (h' := cmH z zl (uf f 22 od) fl tx) rfl ?_
  refine Rx.callx (m' := m_X12_has) (as := [.int (iz 0), .int (iz 0)]) (rest := [.int (iz 0)]) rfl (n_has_0_0 _ (cmH z zl (uf f 22 od) fl tx)   ) (fun v7 h8 q9 => ?_)
  obtain ⟨rfl, rfl⟩ := q9
  refine Rx.walk 0 (pc' := 43) (L' := [some (.ref 0), some (.int (iz 4)), some (.int (iz 0)), some (.int (iz 0)), some (.int (iz 0)), some (.int (iz 0))]) (st' := [.int (iz 0), .int (iz 0)]) (h' := cmH z zl (uf f 22 od) fl tx) rfl ?_
  refine Rx.eq1 rfl rfl ⟨by omega, by omega⟩ (fun b10 => ?_) (fun b10 => by omega)
  refine Rx.walk 1 (pc' := 51) (L' := [some (.ref 0), some (.int (iz 4)), some (.int (iz 0)), some (.int (iz 0)), some (.int (iz 0)), some (.int (iz 0))]) (st' := [.int (iz 1), .int (iz 0)]) (h' := cmH z zl (uf f 22 od) fl tx) rfl ?_
  refine Rx.iadd rfl ?_
  refine Rx.walk 0 (pc' := 52) (L' := [some (.ref 0), some (.int (iz 4)), some (.int (iz 0)), some (.int (iz 0)), some (.int (iz 0)), some (.int (iz 0))]) (st' := [.int (iz 1)]) (h' := cmH z zl (uf f 22 od) fl tx) rfl ?_
  refine Rx.walk 3 (pc' := 55) (L' := [some (.ref 0), some (.int (iz 4)), some (.int (iz 1)), some (.int (iz 0)), some (.int (iz 0)), some (.int (iz 0))]) (st' := [.int (iz 1), .int (iz 0)]) (h' := cmH z zl (uf f 22 od) fl tx) rfl ?_
  refine Rx.iadd rfl ?_
  refine Rx.walk 0 (pc' := 56) (L' := [some (.ref 0), some (.int (iz 4)), some (.int (iz 1)), some (.int (iz 0)), some (.int (iz 0)), some (.int (iz 0))]) (st' := [.int (iz 1)]) (h' := cmH z zl (uf f 22 od) fl tx) rfl ?_
  refine Rx.walk 1 (pc' := 57) (L' := [some (.ref 0), some (.int (iz 4)), some (.int (iz 1)), some (.int (iz 0)), some (.int (iz 0)), some (.int (iz 0))]) (st' := [.int (iz 4), .int (iz 1)]) (h' := cmH z zl (uf f 22 od) fl tx) rfl ?_
  refine Rx.irem rfl ⟨by omega, by omega⟩ ⟨by omega, by omega⟩ (by omega) (by omega) ?_
  refine Rx.walk 4 (pc' := 19) (L' := [some (.ref 0), some (.int (iz 4)), some (.int (iz 1)), some (.int (iz 1)), some (.int (iz 0)), some (.int (iz 0))]) (st' := [.int (iz 1), .int (iz 0)]) (h' := cmH z zl (uf f 22 od) fl tx) rfl ?_
  refine Rx.callx (m' := m_X12_has) (as := [.int (iz 0), .int (iz 1)]) (rest := []) rfl (n_has_0_1 _ (cmH z zl (uf f 22 od) fl tx)   ) (fun v11 h12 q13 => ?_)
  obtain ⟨rfl, rfl⟩ := q13
  refine Rx.walk 0 (pc' := 22) (L' := [some (.ref 0), some (.int (iz 4)), some (.int (iz 1)), some (.int (iz 1)), some (.int (iz 0)), some (.int (iz 0))]) (st' := [.int (iz 0)]) (h' := cmH z zl (uf f 22 od) fl tx) rfl ?_
  refine Rx.ne1 rfl rfl ⟨by omega, by omega⟩ (fun b14 => by omega) (fun b14 => ?_)
  refine Rx.walk 4 (pc' := 32) (L' := [some (.ref 0), some (.int (iz 4)), some (.int (iz 1)), some (.int (iz 1)), some (.int (iz 0)), some (.int (iz 0))]) (st' := [.int (iz 0), .ref 22, .int (iz 1)]) (h' := cmH z zl (uf f 22 od) fl tx) rfl ?_
  refine Rx.ial (g := od) rfl rfl (by omega) (by omega) (by omega) ?_
  rw [show (od 0) = 2 from h0]
  refine Rx.eq2 rfl rfl ⟨by omega, by omega⟩ ⟨by omega, by omega⟩ (fun b15 => by omega) (fun b15 => ?_)
  refine Rx.walk 3 (pc' := 40) (L' := [some (.ref 0), some (.int (iz 4)), some (.int (iz 1)), some (.int (iz 1)), some (.int (iz 0)), some (.int (iz 0))]) (st' := [.int (iz 1), .int (iz 0), .int (iz 1)]) (h' := cmH z zl (uf f 22 od) fl tx) rfl ?_
  refine Rx.callx (m' := m_X12_has) (as := [.int (iz 0), .int (iz 1)]) (rest := [.int (iz 1)]) rfl (n_has_0_1 _ (cmH z zl (uf f 22 od) fl tx)   ) (fun v16 h17 q18 => ?_)
  obtain ⟨rfl, rfl⟩ := q18
  refine Rx.walk 0 (pc' := 43) (L' := [some (.ref 0), some (.int (iz 4)), some (.int (iz 1)), some (.int (iz 1)), some (.int (iz 0)), some (.int (iz 0))]) (st' := [.int (iz 0), .int (iz 1)]) (h' := cmH z zl (uf f 22 od) fl tx) rfl ?_
  refine Rx.eq1 rfl rfl ⟨by omega, by omega⟩ (fun b19 => ?_) (fun b19 => by omega)
  refine Rx.walk 1 (pc' := 51) (L' := [some (.ref 0), some (.int (iz 4)), some (.int (iz 1)), some (.int (iz 1)), some (.int (iz 0)), some (.int (iz 0))]) (st' := [.int (iz 1), .int (iz 1)]) (h' := cmH z zl (uf f 22 od) fl tx) rfl ?_
  refine Rx.iadd rfl ?_
  refine Rx.walk 0 (pc' := 52) (L' := [some (.ref 0), some (.int (iz 4)), some (.int (iz 1)), some (.int (iz 1)), some (.int (iz 0)), some (.int (iz 0))]) (st' := [.int (iz 2)]) (h' := cmH z zl (uf f 22 od) fl tx) rfl ?_
  refine Rx.walk 3 (pc' := 55) (L' := [some (.ref 0), some (.int (iz 4)), some (.int (iz 2)), some (.int (iz 1)), some (.int (iz 0)), some (.int (iz 0))]) (st' := [.int (iz 1), .int (iz 1)]) (h' := cmH z zl (uf f 22 od) fl tx) rfl ?_
  refine Rx.iadd rfl ?_
  refine Rx.walk 0 (pc' := 56) (L' := [some (.ref 0), some (.int (iz 4)), some (.int (iz 2)), some (.int (iz 1)), some (.int (iz 0)), some (.int (iz 0))]) (st' := [.int (iz 2)]) (h' := cmH z zl (uf f 22 od) fl tx) rfl ?_
  refine Rx.walk 1 (pc' := 57) (L' := [some (.ref 0), some (.int (iz 4)), some (.int (iz 2)), some (.int (iz 1)), some (.int (iz 0)), some (.int (iz 0))]) (st' := [.int (iz 4), .int (iz 2)]) (h' := cmH z zl (uf f 22 od) fl tx) rfl ?_
  refine Rx.irem rfl ⟨by omega, by omega⟩ ⟨by omega, by omega⟩ (by omega) (by omega) ?_
  refine Rx.walk 4 (pc' := 19) (L' := [some (.ref 0), some (.int (iz 4)), some (.int (iz 2)), some (.int (iz 2)), some (.int (iz 0)), some (.int (iz 0))]) (st' := [.int (iz 2), .int (iz 0)]) (h' := cmH z zl (uf f 22 od) fl tx) rfl ?_
  refine Rx.callx (m' := m_X12_has) (as := [.int (iz 0), .int (iz 2)]) (rest := []) rfl (n_has_0_2 _ (cmH z zl (uf f 22 od) fl tx)   ) (fun v20 h21 q22 => ?_)
  obtain ⟨rfl, rfl⟩ := q22
  refine Rx.walk 0 (pc' := 22) (L' := [some (.ref 0), some (.int (iz 4)), some (.int (iz 2)), some (.int (iz 2)), some (.int (iz 0)), some (.int (iz 0))]) (st' := [.int (iz 0)]) (h' := cmH z zl (uf f 22 od) fl tx) rfl ?_
  refine Rx.ne1 rfl rfl ⟨by omega, by omega⟩ (fun b23 => by omega) (fun b23 => ?_)
  refine Rx.walk 4 (pc' := 32) (L' := [some (.ref 0), some (.int (iz 4)), some (.int (iz 2)), some (.int (iz 2)), some (.int (iz 0)), some (.int (iz 0))]) (st' := [.int (iz 0), .ref 22, .int (iz 2)]) (h' := cmH z zl (uf f 22 od) fl tx) rfl ?_
  refine Rx.ial (g := od) rfl rfl (by omega) (by omega) (by omega) ?_
  rw [show (od 0) = 2 from h0]
  refine Rx.eq2 rfl rfl ⟨by omega, by omega⟩ ⟨by omega, by omega⟩ (fun b24 => ?_) (fun b24 => by omega)
  refine Rx.walk 3 (pc' := 66) (L' := [some (.ref 0), some (.int (iz 4)), some (.int (iz 2)), some (.int (iz 2)), some (.int (iz 0)), some (.int (iz 0))]) (st' := [.int (iz 2), .int (iz 1), .int (iz 0)]) (h' := cmH z zl (uf f 22 od) fl tx) rfl ?_
  refine Rx.ishl (c := 4) rfl (by decide) ?_
  refine Rx.ior (c := 4) rfl (by decide) ?_
  refine Rx.walk 1 (pc' := 70) (L' := [some (.ref 0), some (.int (iz 4)), some (.int (iz 2)), some (.int (iz 2)), some (.int (iz 4)), some (.int (iz 0))]) (st' := []) (h' := cmH z zl (uf f 22 od) fl tx) rfl ?_
  refine Rx.iinc (b := 1) rfl rfl rfl ?_
  refine Rx.walk 0 (pc' := 73) (L' := [some (.ref 0), some (.int (iz 4)), some (.int (iz 2)), some (.int (iz 2)), some (.int (iz 4)), some (.int (iz 1))]) (st' := []) (h' := cmH z zl (uf f 22 od) fl tx) rfl ?_
  refine Rx.walk 3 (pc' := 13) (L' := [some (.ref 0), some (.int (iz 4)), some (.int (iz 2)), some (.int (iz 2)), some (.int (iz 4)), some (.int (iz 1))]) (st' := [.int (iz 4), .int (iz 1)]) (h' := cmH z zl (uf f 22 od) fl tx) rfl ?_
  refine Rx.ge2 rfl rfl ⟨by omega, by omega⟩ ⟨by omega, by omega⟩ (fun b25 => by omega) (fun b25 => ?_)
  refine Rx.walk 2 (pc' := 19) (L' := [some (.ref 0), some (.int (iz 4)), some (.int (iz 2)), some (.int (iz 2)), some (.int (iz 4)), some (.int (iz 1))]) (st' := [.int (iz 2), .int (iz 4)]) (h' := cmH z zl (uf f 22 od) fl tx) rfl ?_
  refine Rx.callx (m' := m_X12_has) (as := [.int (iz 4), .int (iz 2)]) (rest := []) rfl (n_has_4_2 _ (cmH z zl (uf f 22 od) fl tx)   ) (fun v26 h27 q28 => ?_)
  obtain ⟨rfl, rfl⟩ := q28
  refine Rx.walk 0 (pc' := 22) (L' := [some (.ref 0), some (.int (iz 4)), some (.int (iz 2)), some (.int (iz 2)), some (.int (iz 4)), some (.int (iz 1))]) (st' := [.int (iz 1)]) (h' := cmH z zl (uf f 22 od) fl tx) rfl ?_
  refine Rx.ne1 rfl rfl ⟨by omega, by omega⟩ (fun b29 => ?_) (fun b29 => by omega)
  refine Rx.walk 3 (pc' := 40) (L' := [some (.ref 0), some (.int (iz 4)), some (.int (iz 2)), some (.int (iz 2)), some (.int (iz 4)), some (.int (iz 1))]) (st' := [.int (iz 2), .int (iz 4), .int (iz 2)]) (h' := cmH z zl (uf f 22 od) fl tx) rfl ?_
  refine Rx.callx (m' := m_X12_has) (as := [.int (iz 4), .int (iz 2)]) (rest := [.int (iz 2)]) rfl (n_has_4_2 _ (cmH z zl (uf f 22 od) fl tx)   ) (fun v30 h31 q32 => ?_)
  obtain ⟨rfl, rfl⟩ := q32
  refine Rx.walk 0 (pc' := 43) (L' := [some (.ref 0), some (.int (iz 4)), some (.int (iz 2)), some (.int (iz 2)), some (.int (iz 4)), some (.int (iz 1))]) (st' := [.int (iz 1), .int (iz 2)]) (h' := cmH z zl (uf f 22 od) fl tx) rfl ?_
  refine Rx.eq1 rfl rfl ⟨by omega, by omega⟩ (fun b33 => by omega) (fun b33 => ?_)
  refine Rx.walk 2 (pc' := 51) (L' := [some (.ref 0), some (.int (iz 4)), some (.int (iz 2)), some (.int (iz 2)), some (.int (iz 4)), some (.int (iz 1))]) (st' := [.int (iz 0), .int (iz 2)]) (h' := cmH z zl (uf f 22 od) fl tx) rfl ?_
  refine Rx.iadd rfl ?_
  refine Rx.walk 0 (pc' := 52) (L' := [some (.ref 0), some (.int (iz 4)), some (.int (iz 2)), some (.int (iz 2)), some (.int (iz 4)), some (.int (iz 1))]) (st' := [.int (iz 2)]) (h' := cmH z zl (uf f 22 od) fl tx) rfl ?_
  refine Rx.walk 3 (pc' := 55) (L' := [some (.ref 0), some (.int (iz 4)), some (.int (iz 2)), some (.int (iz 2)), some (.int (iz 4)), some (.int (iz 1))]) (st' := [.int (iz 1), .int (iz 2)]) (h' := cmH z zl (uf f 22 od) fl tx) rfl ?_
  refine Rx.iadd rfl ?_
  refine Rx.walk 0 (pc' := 56) (L' := [some (.ref 0), some (.int (iz 4)), some (.int (iz 2)), some (.int (iz 2)), some (.int (iz 4)), some (.int (iz 1))]) (st' := [.int (iz 3)]) (h' := cmH z zl (uf f 22 od) fl tx) rfl ?_
  refine Rx.walk 1 (pc' := 57) (L' := [some (.ref 0), some (.int (iz 4)), some (.int (iz 2)), some (.int (iz 2)), some (.int (iz 4)), some (.int (iz 1))]) (st' := [.int (iz 4), .int (iz 3)]) (h' := cmH z zl (uf f 22 od) fl tx) rfl ?_
  refine Rx.irem rfl ⟨by omega, by omega⟩ ⟨by omega, by omega⟩ (by omega) (by omega) ?_
  refine Rx.walk 4 (pc' := 19) (L' := [some (.ref 0), some (.int (iz 4)), some (.int (iz 2)), some (.int (iz 3)), some (.int (iz 4)), some (.int (iz 1))]) (st' := [.int (iz 3), .int (iz 4)]) (h' := cmH z zl (uf f 22 od) fl tx) rfl ?_
  refine Rx.callx (m' := m_X12_has) (as := [.int (iz 4), .int (iz 3)]) (rest := []) rfl (n_has_4_3 _ (cmH z zl (uf f 22 od) fl tx)   ) (fun v34 h35 q36 => ?_)
  obtain ⟨rfl, rfl⟩ := q36
  refine Rx.walk 0 (pc' := 22) (L' := [some (.ref 0), some (.int (iz 4)), some (.int (iz 2)), some (.int (iz 3)), some (.int (iz 4)), some (.int (iz 1))]) (st' := [.int (iz 0)]) (h' := cmH z zl (uf f 22 od) fl tx) rfl ?_
  refine Rx.ne1 rfl rfl ⟨by omega, by omega⟩ (fun b37 => by omega) (fun b37 => ?_)
  refine Rx.walk 4 (pc' := 32) (L' := [some (.ref 0), some (.int (iz 4)), some (.int (iz 2)), some (.int (iz 3)), some (.int (iz 4)), some (.int (iz 1))]) (st' := [.int (iz 1), .ref 22, .int (iz 3)]) (h' := cmH z zl (uf f 22 od) fl tx) rfl ?_
  refine Rx.ial (g := od) rfl rfl (by omega) (by omega) (by omega) ?_
  rw [show (od 1) = 3 from h1]
  refine Rx.eq2 rfl rfl ⟨by omega, by omega⟩ ⟨by omega, by omega⟩ (fun b38 => ?_) (fun b38 => by omega)
  refine Rx.walk 3 (pc' := 66) (L' := [some (.ref 0), some (.int (iz 4)), some (.int (iz 2)), some (.int (iz 3)), some (.int (iz 4)), some (.int (iz 1))]) (st' := [.int (iz 3), .int (iz 1), .int (iz 4)]) (h' := cmH z zl (uf f 22 od) fl tx) rfl ?_
  refine Rx.ishl (c := 8) rfl (by decide) ?_
  refine Rx.ior (c := 12) rfl (by decide) ?_
  refine Rx.walk 1 (pc' := 70) (L' := [some (.ref 0), some (.int (iz 4)), some (.int (iz 2)), some (.int (iz 3)), some (.int (iz 12)), some (.int (iz 1))]) (st' := []) (h' := cmH z zl (uf f 22 od) fl tx) rfl ?_
  refine Rx.iinc (b := 1) rfl rfl rfl ?_
  refine Rx.walk 0 (pc' := 73) (L' := [some (.ref 0), some (.int (iz 4)), some (.int (iz 2)), some (.int (iz 3)), some (.int (iz 12)), some (.int (iz 2))]) (st' := []) (h' := cmH z zl (uf f 22 od) fl tx) rfl ?_
  refine Rx.walk 3 (pc' := 13) (L' := [some (.ref 0), some (.int (iz 4)), some (.int (iz 2)), some (.int (iz 3)), some (.int (iz 12)), some (.int (iz 2))]) (st' := [.int (iz 4), .int (iz 2)]) (h' := cmH z zl (uf f 22 od) fl tx) rfl ?_
  refine Rx.ge2 rfl rfl ⟨by omega, by omega⟩ ⟨by omega, by omega⟩ (fun b39 => by omega) (fun b39 => ?_)
  refine Rx.walk 2 (pc' := 19) (L' := [some (.ref 0), some (.int (iz 4)), some (.int (iz 2)), some (.int (iz 3)), some (.int (iz 12)), some (.int (iz 2))]) (st' := [.int (iz 3), .int (iz 12)]) (h' := cmH z zl (uf f 22 od) fl tx) rfl ?_
  refine Rx.callx (m' := m_X12_has) (as := [.int (iz 12), .int (iz 3)]) (rest := []) rfl (n_has_12_3 _ (cmH z zl (uf f 22 od) fl tx)   ) (fun v40 h41 q42 => ?_)
  obtain ⟨rfl, rfl⟩ := q42
  refine Rx.walk 0 (pc' := 22) (L' := [some (.ref 0), some (.int (iz 4)), some (.int (iz 2)), some (.int (iz 3)), some (.int (iz 12)), some (.int (iz 2))]) (st' := [.int (iz 1)]) (h' := cmH z zl (uf f 22 od) fl tx) rfl ?_
  refine Rx.ne1 rfl rfl ⟨by omega, by omega⟩ (fun b43 => ?_) (fun b43 => by omega)
  refine Rx.walk 3 (pc' := 40) (L' := [some (.ref 0), some (.int (iz 4)), some (.int (iz 2)), some (.int (iz 3)), some (.int (iz 12)), some (.int (iz 2))]) (st' := [.int (iz 3), .int (iz 12), .int (iz 2)]) (h' := cmH z zl (uf f 22 od) fl tx) rfl ?_
  refine Rx.callx (m' := m_X12_has) (as := [.int (iz 12), .int (iz 3)]) (rest := [.int (iz 2)]) rfl (n_has_12_3 _ (cmH z zl (uf f 22 od) fl tx)   ) (fun v44 h45 q46 => ?_)
  obtain ⟨rfl, rfl⟩ := q46
  refine Rx.walk 0 (pc' := 43) (L' := [some (.ref 0), some (.int (iz 4)), some (.int (iz 2)), some (.int (iz 3)), some (.int (iz 12)), some (.int (iz 2))]) (st' := [.int (iz 1), .int (iz 2)]) (h' := cmH z zl (uf f 22 od) fl tx) rfl ?_
  refine Rx.eq1 rfl rfl ⟨by omega, by omega⟩ (fun b47 => by omega) (fun b47 => ?_)
  refine Rx.walk 2 (pc' := 51) (L' := [some (.ref 0), some (.int (iz 4)), some (.int (iz 2)), some (.int (iz 3)), some (.int (iz 12)), some (.int (iz 2))]) (st' := [.int (iz 0), .int (iz 2)]) (h' := cmH z zl (uf f 22 od) fl tx) rfl ?_
  refine Rx.iadd rfl ?_
  refine Rx.walk 0 (pc' := 52) (L' := [some (.ref 0), some (.int (iz 4)), some (.int (iz 2)), some (.int (iz 3)), some (.int (iz 12)), some (.int (iz 2))]) (st' := [.int (iz 2)]) (h' := cmH z zl (uf f 22 od) fl tx) rfl ?_
  refine Rx.walk 3 (pc' := 55) (L' := [some (.ref 0), some (.int (iz 4)), some (.int (iz 2)), some (.int (iz 3)), some (.int (iz 12)), some (.int (iz 2))]) (st' := [.int (iz 1), .int (iz 3)]) (h' := cmH z zl (uf f 22 od) fl tx) rfl ?_
  refine Rx.iadd rfl ?_
  refine Rx.walk 0 (pc' := 56) (L' := [some (.ref 0), some (.int (iz 4)), some (.int (iz 2)), some (.int (iz 3)), some (.int (iz 12)), some (.int (iz 2))]) (st' := [.int (iz 4)]) (h' := cmH z zl (uf f 22 od) fl tx) rfl ?_
  refine Rx.walk 1 (pc' := 57) (L' := [some (.ref 0), some (.int (iz 4)), some (.int (iz 2)), some (.int (iz 3)), some (.int (iz 12)), some (.int (iz 2))]) (st' := [.int (iz 4), .int (iz 4)]) (h' := cmH z zl (uf f 22 od) fl tx) rfl ?_
  refine Rx.irem rfl ⟨by omega, by omega⟩ ⟨by omega, by omega⟩ (by omega) (by omega) ?_
  refine Rx.walk 4 (pc' := 19) (L' := [some (.ref 0), some (.int (iz 4)), some (.int (iz 2)), some (.int (iz 0)), some (.int (iz 12)), some (.int (iz 2))]) (st' := [.int (iz 0), .int (iz 12)]) (h' := cmH z zl (uf f 22 od) fl tx) rfl ?_
  refine Rx.callx (m' := m_X12_has) (as := [.int (iz 12), .int (iz 0)]) (rest := []) rfl (n_has_12_0 _ (cmH z zl (uf f 22 od) fl tx)   ) (fun v48 h49 q50 => ?_)
  obtain ⟨rfl, rfl⟩ := q50
  refine Rx.walk 0 (pc' := 22) (L' := [some (.ref 0), some (.int (iz 4)), some (.int (iz 2)), some (.int (iz 0)), some (.int (iz 12)), some (.int (iz 2))]) (st' := [.int (iz 0)]) (h' := cmH z zl (uf f 22 od) fl tx) rfl ?_
  refine Rx.ne1 rfl rfl ⟨by omega, by omega⟩ (fun b51 => by omega) (fun b51 => ?_)
  refine Rx.walk 4 (pc' := 32) (L' := [some (.ref 0), some (.int (iz 4)), some (.int (iz 2)), some (.int (iz 0)), some (.int (iz 12)), some (.int (iz 2))]) (st' := [.int (iz 2), .ref 22, .int (iz 0)]) (h' := cmH z zl (uf f 22 od) fl tx) rfl ?_
  refine Rx.ial (g := od) rfl rfl (by omega) (by omega) (by omega) ?_
  rw [show (od 2) = 0 from h2]
  refine Rx.eq2 rfl rfl ⟨by omega, by omega⟩ ⟨by omega, by omega⟩ (fun b52 => ?_) (fun b52 => by omega)
  refine Rx.walk 3 (pc' := 66) (L' := [some (.ref 0), some (.int (iz 4)), some (.int (iz 2)), some (.int (iz 0)), some (.int (iz 12)), some (.int (iz 2))]) (st' := [.int (iz 0), .int (iz 1), .int (iz 12)]) (h' := cmH z zl (uf f 22 od) fl tx) rfl ?_
  refine Rx.ishl (c := 1) rfl (by decide) ?_
  refine Rx.ior (c := 13) rfl (by decide) ?_
  refine Rx.walk 1 (pc' := 70) (L' := [some (.ref 0), some (.int (iz 4)), some (.int (iz 2)), some (.int (iz 0)), some (.int (iz 13)), some (.int (iz 2))]) (st' := []) (h' := cmH z zl (uf f 22 od) fl tx) rfl ?_
  refine Rx.iinc (b := 1) rfl rfl rfl ?_
  refine Rx.walk 0 (pc' := 73) (L' := [some (.ref 0), some (.int (iz 4)), some (.int (iz 2)), some (.int (iz 0)), some (.int (iz 13)), some (.int (iz 3))]) (st' := []) (h' := cmH z zl (uf f 22 od) fl tx) rfl ?_
  refine Rx.walk 3 (pc' := 13) (L' := [some (.ref 0), some (.int (iz 4)), some (.int (iz 2)), some (.int (iz 0)), some (.int (iz 13)), some (.int (iz 3))]) (st' := [.int (iz 4), .int (iz 3)]) (h' := cmH z zl (uf f 22 od) fl tx) rfl ?_
  refine Rx.ge2 rfl rfl ⟨by omega, by omega⟩ ⟨by omega, by omega⟩ (fun b53 => by omega) (fun b53 => ?_)
  refine Rx.walk 2 (pc' := 19) (L' := [some (.ref 0), some (.int (iz 4)), some (.int (iz 2)), some (.int (iz 0)), some (.int (iz 13)), some (.int (iz 3))]) (st' := [.int (iz 0), .int (iz 13)]) (h' := cmH z zl (uf f 22 od) fl tx) rfl ?_
  refine Rx.callx (m' := m_X12_has) (as := [.int (iz 13), .int (iz 0)]) (rest := []) rfl (n_has_13_0 _ (cmH z zl (uf f 22 od) fl tx)   ) (fun v54 h55 q56 => ?_)
  obtain ⟨rfl, rfl⟩ := q56
  refine Rx.walk 0 (pc' := 22) (L' := [some (.ref 0), some (.int (iz 4)), some (.int (iz 2)), some (.int (iz 0)), some (.int (iz 13)), some (.int (iz 3))]) (st' := [.int (iz 1)]) (h' := cmH z zl (uf f 22 od) fl tx) rfl ?_
  refine Rx.ne1 rfl rfl ⟨by omega, by omega⟩ (fun b57 => ?_) (fun b57 => by omega)
  refine Rx.walk 3 (pc' := 40) (L' := [some (.ref 0), some (.int (iz 4)), some (.int (iz 2)), some (.int (iz 0)), some (.int (iz 13)), some (.int (iz 3))]) (st' := [.int (iz 0), .int (iz 13), .int (iz 2)]) (h' := cmH z zl (uf f 22 od) fl tx) rfl ?_
  refine Rx.callx (m' := m_X12_has) (as := [.int (iz 13), .int (iz 0)]) (rest := [.int (iz 2)]) rfl (n_has_13_0 _ (cmH z zl (uf f 22 od) fl tx)   ) (fun v58 h59 q60 => ?_)
  obtain ⟨rfl, rfl⟩ := q60
  refine Rx.walk 0 (pc' := 43) (L' := [some (.ref 0), some (.int (iz 4)), some (.int (iz 2)), some (.int (iz 0)), some (.int (iz 13)), some (.int (iz 3))]) (st' := [.int (iz 1), .int (iz 2)]) (h' := cmH z zl (uf f 22 od) fl tx) rfl ?_
  refine Rx.eq1 rfl rfl ⟨by omega, by omega⟩ (fun b61 => by omega) (fun b61 => ?_)
  refine Rx.walk 2 (pc' := 51) (L' := [some (.ref 0), some (.int (iz 4)), some (.int (iz 2)), some (.int (iz 0)), some (.int (iz 13)), some (.int (iz 3))]) (st' := [.int (iz 0), .int (iz 2)]) (h' := cmH z zl (uf f 22 od) fl tx) rfl ?_
  refine Rx.iadd rfl ?_
  refine Rx.walk 0 (pc' := 52) (L' := [some (.ref 0), some (.int (iz 4)), some (.int (iz 2)), some (.int (iz 0)), some (.int (iz 13)), some (.int (iz 3))]) (st' := [.int (iz 2)]) (h' := cmH z zl (uf f 22 od) fl tx) rfl ?_
  refine Rx.walk 3 (pc' := 55) (L' := [some (.ref 0), some (.int (iz 4)), some (.int (iz 2)), some (.int (iz 0)), some (.int (iz 13)), some (.int (iz 3))]) (st' := [.int (iz 1), .int (iz 0)]) (h' := cmH z zl (uf f 22 od) fl tx) rfl ?_
  refine Rx.iadd rfl ?_
  refine Rx.walk 0 (pc' := 56) (L' := [some (.ref 0), some (.int (iz 4)), some (.int (iz 2)), some (.int (iz 0)), some (.int (iz 13)), some (.int (iz 3))]) (st' := [.int (iz 1)]) (h' := cmH z zl (uf f 22 od) fl tx) rfl ?_
  refine Rx.walk 1 (pc' := 57) (L' := [some (.ref 0), some (.int (iz 4)), some (.int (iz 2)), some (.int (iz 0)), some (.int (iz 13)), some (.int (iz 3))]) (st' := [.int (iz 4), .int (iz 1)]) (h' := cmH z zl (uf f 22 od) fl tx) rfl ?_
  refine Rx.irem rfl ⟨by omega, by omega⟩ ⟨by omega, by omega⟩ (by omega) (by omega) ?_
  refine Rx.walk 4 (pc' := 19) (L' := [some (.ref 0), some (.int (iz 4)), some (.int (iz 2)), some (.int (iz 1)), some (.int (iz 13)), some (.int (iz 3))]) (st' := [.int (iz 1), .int (iz 13)]) (h' := cmH z zl (uf f 22 od) fl tx) rfl ?_
  refine Rx.callx (m' := m_X12_has) (as := [.int (iz 13), .int (iz 1)]) (rest := []) rfl (n_has_13_1 _ (cmH z zl (uf f 22 od) fl tx)   ) (fun v62 h63 q64 => ?_)
  obtain ⟨rfl, rfl⟩ := q64
  refine Rx.walk 0 (pc' := 22) (L' := [some (.ref 0), some (.int (iz 4)), some (.int (iz 2)), some (.int (iz 1)), some (.int (iz 13)), some (.int (iz 3))]) (st' := [.int (iz 0)]) (h' := cmH z zl (uf f 22 od) fl tx) rfl ?_
  refine Rx.ne1 rfl rfl ⟨by omega, by omega⟩ (fun b65 => by omega) (fun b65 => ?_)
  refine Rx.walk 4 (pc' := 32) (L' := [some (.ref 0), some (.int (iz 4)), some (.int (iz 2)), some (.int (iz 1)), some (.int (iz 13)), some (.int (iz 3))]) (st' := [.int (iz 3), .ref 22, .int (iz 1)]) (h' := cmH z zl (uf f 22 od) fl tx) rfl ?_
  refine Rx.ial (g := od) rfl rfl (by omega) (by omega) (by omega) ?_
  rw [show (od 3) = 1 from h3]
  refine Rx.eq2 rfl rfl ⟨by omega, by omega⟩ ⟨by omega, by omega⟩ (fun b66 => ?_) (fun b66 => by omega)
  refine Rx.walk 3 (pc' := 66) (L' := [some (.ref 0), some (.int (iz 4)), some (.int (iz 2)), some (.int (iz 1)), some (.int (iz 13)), some (.int (iz 3))]) (st' := [.int (iz 1), .int (iz 1), .int (iz 13)]) (h' := cmH z zl (uf f 22 od) fl tx) rfl ?_
  refine Rx.ishl (c := 2) rfl (by decide) ?_
  refine Rx.ior (c := 15) rfl (by decide) ?_
  refine Rx.walk 1 (pc' := 70) (L' := [some (.ref 0), some (.int (iz 4)), some (.int (iz 2)), some (.int (iz 1)), some (.int (iz 15)), some (.int (iz 3))]) (st' := []) (h' := cmH z zl (uf f 22 od) fl tx) rfl ?_
  refine Rx.iinc (b := 1) rfl rfl rfl ?_
  refine Rx.walk 0 (pc' := 73) (L' := [some (.ref 0), some (.int (iz 4)), some (.int (iz 2)), some (.int (iz 1)), some (.int (iz 15)), some (.int (iz 4))]) (st' := []) (h' := cmH z zl (uf f 22 od) fl tx) rfl ?_
  refine Rx.walk 3 (pc' := 13) (L' := [some (.ref 0), some (.int (iz 4)), some (.int (iz 2)), some (.int (iz 1)), some (.int (iz 15)), some (.int (iz 4))]) (st' := [.int (iz 4), .int (iz 4)]) (h' := cmH z zl (uf f 22 od) fl tx) rfl ?_
  refine Rx.ge2 rfl rfl ⟨by omega, by omega⟩ ⟨by omega, by omega⟩ (fun b67 => ?_) (fun b67 => by omega)
  refine Rx.walk 1 (pc' := 77) (L' := [some (.ref 0), some (.int (iz 4)), some (.int (iz 2)), some (.int (iz 1)), some (.int (iz 15)), some (.int (iz 4))]) (st' := [.int (iz 2)]) (h' := cmH z zl (uf f 22 od) fl tx) rfl ?_
  refine Rx.ret rfl ?_
  exact ⟨rfl, rfl⟩
set_option maxRecDepth 100000 in
set_option maxHeartbeats 4000000 in
theorem n_has_12_1 (d : Nat) (h0 : AmH)   : Rx (d) m_X12_has 0 (am_ent [.int (iz 12), .int (iz 1)] 2) [] (h0) (fun rv h => rv = some (.int (iz 0)) ∧ h0 = h) := ⟨_, _, ⟨100, rfl⟩, rfl, rfl⟩
set_option maxRecDepth 100000 in
set_option maxHeartbeats 4000000 in
theorem n_has_14_1 (d : Nat) (h0 : AmH)   : Rx (d) m_X12_has 0 (am_ent [.int (iz 14), .int (iz 1)] 2) [] (h0) (fun rv h => rv = some (.int (iz 1)) ∧ h0 = h) := ⟨_, _, ⟨100, rfl⟩, rfl, rfl⟩
set_option maxRecDepth 100000 in
set_option maxHeartbeats 4000000 in
theorem m_stepsOf4_17 (d : Nat) (z : Nat → Int) (zl : Nat → Int) (f : Nat → Int → Int) (fl : Nat → Int → Int) (tx : Nat)  (od : Int → Int) (h0 : od 0 = 2) (h1 : od 1 = 3) (h2 : od 2 = 1) (h3 : od 3 = 0) : Rx (d + 1) m_X12_stepsOf 0 (am_ent [.ref 0, .int (iz 4)] 6) [] (cmH z zl (uf f 22 od) fl tx) (fun rv h => rv = some (.int (iz 3)) ∧ h = cmH z zl (uf f 22 od) fl tx) := by
  refine Rx.walk 0 (pc' := 0) (L' := [some (.ref 0), some (.int (iz 4)), none, none, none, none]) (st' := []) (h' := cmH z zl (uf f 22 od) fl tx) rfl ?_
  refine Rx.walk 10 (pc' := 13) (L' := [some (.ref 0), some (.int (iz 4)), some (.int (iz 0)), some (.int (iz 0)), some (.int (iz 0)), some (.int (iz 0))]) (st' := [.int (iz 4), .int (iz 0)]) (h' := cmH z zl (uf f 22 od) fl tx) rfl ?_
  refine Rx.ge2 rfl rfl ⟨by omega, by omega⟩ ⟨by omega, by omega⟩ (fun b1 => by omega) (fun b1 => ?_)
  refine Rx.walk 2 (pc' := 19) (L' := [some (.ref 0), some (.int (iz 4)), some (.int (iz 0)), some (.int (iz 0)), some (.int (iz 0)), some (.int (iz 0))]) (st' := [.int (iz 0), .int (iz 0)]) (h' := cmH z zl (uf f 22 od) fl tx) rfl ?_
  refine Rx.callx (m' := m_X12_has) (as := [.int (iz 0), .int (iz 0)]) (rest := []) rfl (n_has_0_0 _ (cmH z zl (uf f 22 od) fl tx)   ) (fun v2 h3 q4 => ?_)
  obtain ⟨rfl, rfl⟩ := q4
  refine Rx.walk 0 (pc' := 22) (L' := [some (.ref 0), some (.int (iz 4)), some (.int (iz 0)), some (.int (iz 0)), some (.int (iz 0)), some (.int (iz 0))]) (st' := [.int (iz 0)]) (h' := cmH z zl (uf f 22 od) fl tx) rfl ?_
  refine Rx.ne1 rfl rfl ⟨by omega, by omega⟩ (fun b5 => by omega) (fun b5 => ?_)
  refine Rx.walk 4 (pc' := 32) (L' := [some (.ref 0), some (.int (iz 4)), some (.int (iz 0)), some (.int (iz 0)), some (.int (iz 0)), some (.int (iz 0))]) (st' := [.int (iz 0), .ref 22, .int (iz 0)]) (h' := cmH z zl (uf f 22 od) fl tx) rfl ?_
  refine Rx.ial (g := od) rfl rfl (by omega) (by omega) (by omega) ?_
  rw [show (od 0) = 2 from h0]
  refine Rx.eq2 rfl rfl ⟨by omega, by omega⟩ ⟨by omega, by omega⟩ (fun b6 => by omega) (fun b6 => ?_)
  refine Rx.walk 3 (pc' := 40) (L' := [some (.ref 0), some (.int (iz 4)), some (.int (iz 0)), some (.int (iz 0)), some (.int (iz 0)), some (.int (iz 0))]) (st' := [.int (iz 0), .int (iz 0), .int (iz 0)]) (h' := cmH z zl (uf f 22 od) fl tx) rfl ?_
  refine Rx.callx (m' := m_X12_has) (as := [.int (iz 0), .int (iz 0)]) (rest := [.int (iz 0)]) rfl (n_has_0_0 _ (cmH z zl (uf f 22 od) fl tx)   ) (fun v7 h8 q9 => ?_)
  obtain ⟨rfl, rfl⟩ := q9
  refine Rx.walk 0 (pc' := 43) (L' := [some (.ref 0), some (.int (iz 4)), some (.int (iz 0)), some (.int (iz 0)), some (.int (iz 0)), some (.int (iz 0))]) (st' := [.int (iz 0), .int (iz 0)]) (h' := cmH z zl (uf f 22 od) fl tx) rfl ?_
  refine Rx.eq1 rfl rfl ⟨by omega, by omega⟩ (fun b10 => ?_) (fun b10 => by omega)
  refine Rx.walk 1 (pc' := 51) (L' := [some (.ref 0), some (.int (iz 4)), some (.int (iz 0)), some (.int (iz 0)), some (.int (iz 0)), some (.int (iz 0))]) (st' := [.int (iz 1), .int (iz 0)]) (h' := cmH z zl (uf f 22 od) fl tx) rfl ?_
  refine Rx.iadd rfl ?_
  refine Rx.walk 0 (pc' := 52) (L' := [some (.ref 0), some (.int (iz 4)), some (.int (iz 0)), some (.int (iz 0)), some (.int (iz 0)), some (.int (iz 0))]) (st' := [.int (iz 1)]) (h' := cmH z zl (uf f 22 od) fl tx) rfl ?_
  refine Rx.walk 3 (pc' := 55) (L' := [some (.ref 0), some (.int (iz 4)), some (.int (iz 1)), some (.int (iz 0)), some (.int (iz 0)), some (.int (iz 0))]) (st' := [.int (iz 1), .int (iz 0)]) (h' := cmH z zl (uf f 22 od) fl tx) rfl ?_
  refine Rx.iadd rfl ?_
  refine Rx.walk 0 (pc' := 56) (L' := [some (.ref 0), some (.int (iz 4)), some (.int (iz 1)), some (.int (iz 0)), some (.int (iz 0)), some (.int (iz 0))]) (st' := [.int (iz 1)]) (h' := cmH z zl (uf f 22 od) fl tx) rfl ?_
  refine Rx.walk 1 (pc' := 57) (L' := [some (.ref 0), some (.int (iz 4)), some (.int (iz 1)), some (.int (iz 0)), some (.int (iz 0)), some (.int (iz 0))]) (st' := [.int (iz 4), .int (iz 1)]) (h' := cmH z zl (uf f 22 od) fl tx) rfl ?_
  refine Rx.irem rfl ⟨by omega, by omega⟩ ⟨by omega, by omega⟩ (by omega) (by omega) ?_
  refine Rx.walk 4 (pc' := 19) (L' := [some (.ref 0), some (.int (iz 4)), some (.int (iz 1)), some (.int (iz 1)), some (.int (iz 0)), some (.int (iz 0))]) (st' := [.int (iz 1), .int (iz 0)]) (h' := cmH z zl (uf f 22 od) fl tx) rfl ?_
  refine Rx.callx (m' := m_X12_has) (as := [.int (iz 0), .int (iz 1)]) (rest := []) rfl (n_has_0_1 _ (cmH z zl (uf f 22 od) fl tx)   ) (fun v11 h12 q13 => ?_)
  obtain ⟨rfl, rfl⟩ := q13
  refine Rx.walk 0 (pc' := 22) (L' := [some (.ref 0), some (.int (iz 4)), some (.int (iz 1)), some (.int (iz 1)), some (.int (iz 0)), some (.int (iz 0))]) (st' := [.int (iz 0)]) (h' := cmH z zl (uf f 22 od) fl tx) rfl ?_
  refine Rx.ne1 rfl rfl ⟨by omega, by omega⟩ (fun b14 => by omega) (fun b14 => ?_)
  refine Rx.walk 4 (pc' := 32) (L' := [some (.ref 0), some (.int (iz 4)), some (.int (iz 1)), some (.int (iz 1)), some (.int (iz 0)), some (.int (iz 0))]) (st' := [.int (iz 0), .ref 22, .int (iz 1)]) (h' := cmH z zl (uf f 22 od) fl tx) rfl ?_
  refine Rx.ial (g := od) rfl rfl (by omega) (by omega) (by omega) ?_
  rw [show (od 0) = 2 from h0]
  refine Rx.eq2 rfl rfl ⟨by omega, by omega⟩ ⟨by omega, by omega⟩ (fun b15 => by omega) (fun b15 => ?_)
  refine Rx.walk 3 (pc' := 40) (L' := [some (.ref 0), some (.int (iz 4)), some (.int (iz 1)), some (.int (iz 1)), some (.int (iz 0)), some (.int (iz 0))]) (st' := [.int (iz 1), .int (iz 0), .int (iz 1)]) (h' := cmH z zl (uf f 22 od) fl tx) rfl ?_
  refine Rx.callx (m' := m_X12_has) (as := [.int (iz 0), .int (iz 1)]) (rest := [.int (iz 1)]) rfl (n_has_0_1 _ (cmH z zl (uf f 22 od) fl tx)   ) (fun v16 h17 q18 => ?_)
  obtain ⟨rfl, rfl⟩ := q18
  refine Rx.walk 0 (pc' := 43) (L' := [some (.ref 0), some (.int (iz 4)), some (.int (iz 1)), some (.int (iz 1)), some (.int (iz 0)), some (.int (iz 0))]) (st' := [.int (iz 0), .int (iz 1)]) (h' := cmH z zl (uf f 22 od) fl tx) rfl ?_
  refine Rx.eq1 rfl rfl ⟨by omega, by omega⟩ (fun b19 => ?_) (fun b19 => by omega)
  refine Rx.walk 1 (pc' := 51) (L' := [some (.ref 0), some (.int (iz 4)), some (.int (iz 1)), some (.int (iz 1)), some (.int (iz 0)), some (.int (iz 0))]) (st' := [.int (iz 1), .int (iz 1)]) (h' := cmH z zl (uf f 22 od) fl tx) rfl ?_
  refine Rx.iadd rfl ?_
  refine Rx.walk 0 (pc' := 52) (L' := [some (.ref 0), some (.int (iz 4)), some (.int (iz 1)), some (.int (iz 1)), some (.int (iz 0)), some (.int (iz 0))]) (st' := [.int (iz 2)]) (h' := cmH z zl (uf f 22 od) fl tx) rfl ?_
  refine Rx.walk 3 (pc' := 55) (L' := [some (.ref 0), some (.int (iz 4)), some (.int (iz 2)), some (.int (iz 1)), some (.int (iz 0)), some (.int (iz 0))]) (st' := [.int (iz 1), .int (iz 1)]) (h' := cmH z zl (uf f 22 od) fl tx) rfl ?_
  refine Rx.iadd rfl ?_
  refine Rx.walk 0 (pc' := 56) (L' := [some (.ref 0), some (.int (iz 4)), some (.int (iz 2)), some (.int (iz 1)), some (.int (iz 0)), some (.int (iz 0))]) (st' := [.int (iz 2)]) (h' := cmH z zl (uf f 22 od) fl tx) rfl ?_
  refine Rx.walk 1 (pc' := 57) (L' := [some (.ref 0), some (.int (iz 4)), some (.int (iz 2)), some (.int (iz 1)), some (.int (iz 0)), some (.int (iz 0))]) (st' := [.int (iz 4), .int (iz 2)]) (h' := cmH z zl (uf f 22 od) fl tx) rfl ?_
  refine Rx.irem rfl ⟨by omega, by omega⟩ ⟨by omega, by omega⟩ (by omega) (by omega) ?_
  refine Rx.walk 4 (pc' := 19) (L' := [some (.ref 0), some (.int (iz 4)), some (.int (iz 2)), some (.int (iz 2)), some (.int (iz 0)), some (.int (iz 0))]) (st' := [.int (iz 2), .int (iz 0)]) (h' := cmH z zl (uf f 22 od) fl tx) rfl ?_
  refine Rx.callx (m' := m_X12_has) (as := [.int (iz 0), .int (iz 2)]) (rest := []) rfl (n_has_0_2 _ (cmH z zl (uf f 22 od) fl tx)   ) (fun v20 h21 q22 => ?_)
  obtain ⟨rfl, rfl⟩ := q22
  refine Rx.walk 0 (pc' := 22) (L' := [some (.ref 0), some (.int (iz 4)), some (.int (iz 2)), some (.int (iz 2)), some (.int (iz 0)), some (.int (iz 0))]) (st' := [.int (iz 0)]) (h' := cmH z zl (uf f 22 od) fl tx) rfl ?_
  refine Rx.ne1 rfl rfl ⟨by omega, by omega⟩ (fun b23 => by omega) (fun b23 => ?_)
  refine Rx.walk 4 (pc' := 32) (L' := [some (.ref 0), some (.int (iz 4)), some (.int (iz 2)), some (.int (iz 2)), some (.int (iz 0)), some (.int (iz 0))]) (st' := [.int (iz 0), .ref 22, .int (iz 2)]) (h' := cmH z zl (uf f 22 od) fl tx) rfl ?_
  refine Rx.ial (g := od) rfl rfl (by omega) (by omega) (by omega) ?_
  rw [show (od 0) = 2 from h0]
  refine Rx.eq2 rfl rfl ⟨by omega, by omega⟩ ⟨by omega, by omega⟩ (fun b24 => ?_) (fun b24 => by omega)
  refine Rx.walk 3 (pc' := 66) (L' := [some (.ref 0), some (.int (iz 4)), some (.int (iz 2)), some (.int (iz 2)), some (.int (iz 0)), some (.int (iz 0))]) (st' := [.int (iz 2), .int (iz 1), .int (iz 0)]) (h' := cmH z zl (uf f 22 od) fl tx) rfl ?_
  refine Rx.ishl (c := 4) rfl (by decide) ?_
  refine Rx.ior (c := 4) rfl (by decide) ?_
  refine Rx.walk 1 (pc' := 70) (L' := [some (.ref 0), some (.int (iz 4)), some (.int (iz 2)), some (.int (iz 2)), some (.int (iz 4)), some (.int (iz 0))]) (st' := []) (h' := cmH z zl (uf f 22 od) fl tx) rfl ?_
  refine Rx.iinc (b := 1) rfl rfl rfl ?_
  refine Rx.walk 0 (pc' := 73) (L' := [some (.ref 0), some (.int (iz 4)), some (.int (iz 2)), some (.int (iz 2)), some (.int (iz 4)), some (.int (iz 1))]) (st' := []) (h' := cmH z zl (uf f 22 od) fl tx) rfl ?_
  refine Rx.walk 3 (pc' := 13) (L' := [some (.ref 0), some (.int (iz 4)), some (.int (iz 2)), some (.int (iz 2)), some (.int (iz 4)), some (.int (iz 1))]) (st' := [.int (iz 4), .int (iz 1)]) (h' := cmH z zl (uf f 22 od) fl tx) rfl ?_
  refine Rx.ge2 rfl rfl ⟨by omega, by omega⟩ ⟨by omega, by omega⟩ (fun b25 => by omega) (fun b25 => ?_)
  refine Rx.walk 2 (pc' := 19) (L' := [some (.ref 0), some (.int (iz 4)), some (.int (iz 2)), some (.int (iz 2)), some (.int (iz 4)), some (.int (iz 1))]) (st' := [.int (iz 2), .int (iz 4)]) (h' := cmH z zl (uf f 22 od) fl tx) rfl ?_
  refine Rx.callx (m' := m_X12_has) (as := [.int (iz 4), .int (iz 2)]) (rest := []) rfl (n_has_4_2 _ (cmH z zl (uf f 22 od) fl tx)   ) (fun v26 h27 q28 => ?_)
  obtain ⟨rfl, rfl⟩ := q28
  refine Rx.walk 0 (pc' := 22) (L' := [some (.ref 0), some (.int (iz 4)), some (.int (iz 2)), some (.int (iz 2)), some (.int (iz 4)), some (.int (iz 1))]) (st' := [.int (iz 1)]) (h' := cmH z zl (uf f 22 od) fl tx) rfl ?_
  refine Rx.ne1 rfl rfl ⟨by omega, by omega⟩ (fun b29 => ?_) (fun b29 => by omega)
  refine Rx.walk 3 (pc' := 40) (L' := [some (.ref 0), some (.int (iz 4)), some (.int (iz 2)), some (.int (iz 2)), some (.int (iz 4)), some (.int (iz 1))]) (st' := [.int (iz 2), .int (iz 4), .int (iz 2)]) (h' := cmH z zl (uf f 22 od) fl tx) rfl ?_
  refine Rx.callx (m' := m_X12_has) (as := [.int (iz 4), .int (iz 2)]) (rest := [.int (iz 2)]) rfl (n_has_4_2 _ (cmH z zl (uf f 22 od) fl tx)   ) (fun v30 h31 q32 => ?_)
  obtain ⟨rfl, rfl⟩ := q32
  refine Rx.walk 0 (pc' := 43) (L' := [some (.ref 0), some (.int (iz 4)), some (.int (iz 2)), some (.int (iz 2)), some (.int (iz 4)), some (.int (iz 1))]) (st' := [.int (iz 1), .int (iz 2)]) (h' := cmH z zl (uf f 22 od) fl tx) rfl ?_
  refine Rx.eq1 rfl rfl ⟨by omega, by omega⟩ (fun b33 => by omega) (fun b33 => ?_)
  refine Rx.walk 2 (pc' := 51) (L' := [some (.ref 0), some (.int (iz 4)), some (.int (iz 2)), some (.int (iz 2)), some (.int (iz 4)), some (.int (iz 1))]) (st' := [.int (iz 0), .int (iz 2)]) (h' := cmH z zl (uf f 22 od) fl tx) rfl ?_
  refine Rx.iadd rfl ?_
  refine Rx.walk 0 (pc' := 52) (L' := [some (.ref 0), some (.int (iz 4)), some (.int (iz 2)), some (.int (iz 2)), some (.int (iz 4)), some (.int (iz 1))]) (st' := [.int (iz 2)]) (h' := cmH z zl (uf f 22 od) fl tx) rfl ?_
  refine Rx.walk 3 (pc' := 55) (L' := [some (.ref 0), some (.int (iz 4)), some (.int (iz 2)), some (.int (iz 2)), some (.int (iz 4)), some (.int (iz 1))]) (st' := [.int (iz 1), .int (iz 2)]) (h' := cmH z zl (uf f 22 od) fl tx) rfl ?_
  refine Rx.iadd rfl ?_
  refine Rx.walk 0 (pc' := 56) (L' := [some (.ref 0), some (.int (iz 4)), some (.int (iz 2)), some (.int (iz 2)), some (.int (iz 4)), some (.int (iz 1))]) (st' := [.int (iz 3)]) (h' := cmH z zl (uf f 22 od) fl tx) rfl ?_
  refine Rx.walk 1 (pc' := 57) (L' := [some (.ref 0), some (.int (iz 4)), some (.int (iz 2)), some (.int (iz 2)), some (.int (iz 4)), some (.int (iz 1))]) (st' := [.int (iz 4), .int (iz 3)]) (h' := cmH z zl (uf f 22 od) fl tx) rfl ?_
  refine Rx.irem rfl ⟨by omega, by omega⟩ ⟨by omega, by omega⟩ (by omega) (by omega) ?_
  refine Rx.walk 4 (pc' := 19) (L' := [some (.ref 0), some (.int (iz 4)), some (.int (iz 2)), some (.int (iz 3)), some (.int (iz 4)), some (.int (iz 1))]) (st' := [.int (iz 3), .int (iz 4)]) (h' := cmH z zl (uf f 22 od) fl tx) rfl ?_
  refine Rx.callx (m' := m_X12_has) (as := [.int (iz 4), .int (iz 3)]) (rest := []) rfl (n_has_4_3 _ (cmH z zl (uf f 22 od) fl tx)   ) (fun v34 h35 q36 => ?_)
  obtain ⟨rfl, rfl⟩ := q36
  refine Rx.walk 0 (pc' := 22) (L' := [some (.ref 0), some (.int (iz 4)), some (.int (iz 2)), some (.int (iz 3)), some (.int (iz 4)), some (.int (iz 1))]) (st' := [.int (iz 0)]) (h' := cmH z zl (uf f 22 od) fl tx) rfl ?_
  refine Rx.ne1 rfl rfl ⟨by omega, by omega⟩ (fun b37 => by omega) (fun b37 => ?_)
  refine Rx.walk 4 (pc' := 32) (L' := [some (.ref 0), some (.int (iz 4)), some (.int (iz 2)), some (.int (iz 3)), some (.int (iz 4)), some (.int (iz 1))]) (st' := [.int (iz 1), .ref 22, .int (iz 3)]) (h' := cmH z zl (uf f 22 od) fl tx) rfl ?_
  refine Rx.ial (g := od) rfl rfl (by omega) (by omega) (by omega) ?_
  rw [show (od 1) = 3 from h1]
  refine Rx.eq2 rfl rfl ⟨by omega, by omega⟩ ⟨by omega, by omega⟩ (fun b38 => ?_) (fun b38 => by omega)
  refine Rx.walk 3 (pc' := 66) (L' := [some (.ref 0), some (.int (iz 4)), some (.int (iz 2)), some (.int (iz 3)), some (.int (iz 4)), some (.int (iz 1))]) (st' := [.int (iz 3), .int (iz 1), .int (iz 4)]) (h' := cmH z zl (uf f 22 od) fl tx) rfl ?_
  refine Rx.ishl (c := 8) rfl (by decide) ?_
  refine Rx.ior (c := 12) rfl (by decide) ?_
  refine Rx.walk 1 (pc' := 70) (L' := [some (.ref 0), some (.int (iz 4)), some (.int (iz 2)), some (.int (iz 3)), some (.int (iz 12)), some (.int (iz 1))]) (st' := []) (h' := cmH z zl (uf f 22 od) fl tx) rfl ?_
  refine Rx.iinc (b := 1) rfl rfl rfl ?_
  refine Rx.walk 0 (pc' := 73) (L' := [some (.ref 0), some (.int (iz 4)), some (.int (iz 2)), some (.int (iz 3)), some (.int (iz 12)), some (.int (iz 2))]) (st' := []) (h' := cmH z zl (uf f 22 od) fl tx) rfl ?_
  refine Rx.walk 3 (pc' := 13) (L' := [some (.ref 0), some (.int (iz 4)), some (.int (iz 2)), some (.int (iz 3)), some (.int (iz 12)), some (.int (iz 2))]) (st' := [.int (iz 4), .int (iz 2)]) (h' := cmH z zl (uf f 22 od) fl tx) rfl ?_
  refine Rx.ge2 rfl rfl ⟨by omega, by omega⟩ ⟨by omega, by omega⟩ (fun b39 => by omega) (fun b39 => ?_)
  refine Rx.walk 2 (pc' := 19) (L' := [some (.ref 0), some (.int (iz 4)), some (.int (iz 2)), some (.int (iz 3)), some (.int (iz 12)), some (.int (iz 2))]) (st' := [.int (iz 3), .int (iz 12)]) (h' := cmH z zl (uf f 22 od) fl tx) rfl ?_
  refine Rx.callx (m' := m_X12_has) (as := [.int (iz 12), .int (iz 3)]) (rest := []) rfl (n_has_12_3 _ (cmH z zl (uf f 22 od) fl tx)   ) (fun v40 h41 q42 => ?_)
  obtain ⟨rfl, rfl⟩ := q42
  refine Rx.walk 0 (pc' := 22) (L' := [some (.ref 0), some (.int (iz 4)), some (.int (iz 2)), some (.int (iz 3)), some (.int (iz 12)), some (.int (iz 2))]) (st' := [.int (iz 1)]) (h' := cmH z zl (uf f 22 od) fl tx) rfl ?_
  refine Rx.ne1 rfl rfl ⟨by omega, by omega⟩ (fun b43 => ?_) (fun b43 => by omega)
  refine Rx.walk 3 (pc' := 40) (L' := [some (.ref 0), some (.int (iz 4)), some (.int (iz 2)), some (.int (iz 3)), some (.int (iz 12)), some (.int (iz 2))]) (st' := [.int (iz 3), .int (iz 12), .int (iz 2)]) (h' := cmH z zl (uf f 22 od) fl tx) rfl ?_
  refine Rx.callx (m' := m_X12_has) (as := [.int (iz 12), .int (iz 3)]) (rest := [.int (iz 2)]) rfl (n_has_12_3 _ (cmH z zl (uf f 22 od) fl tx)   ) (fun v44 h45 q46 => ?_)
  obtain ⟨rfl, rfl⟩ := q46
  refine Rx.walk 0 (pc' := 43) (L' := [some (.ref 0), some (.int (iz 4)), some (.int (iz 2)), some (.int (iz 3)), some (.int (iz 12)), some (.int (iz 2))]) (st' := [.int (iz 1), .int (iz 2)]) (h' := cmH z zl (uf f 22 od) fl tx) rfl ?_
  refine Rx.eq1 rfl rfl ⟨by omega, by omega⟩ (fun b47 => by omega) (fun b47 => ?_)
  refine Rx.walk 2 (pc' := 51) (L' := [some (.ref 0), some (.int (iz 4)), some (.int (iz 2)), some (.int (iz 3)), some (.int (iz 12)), some (.int (iz 2))]) (st' := [.int (iz 0), .int (iz 2)]) (h' := cmH z zl (uf f 22 od) fl tx) rfl ?_
  refine Rx.iadd rfl ?_
  refine Rx.walk 0 (pc' := 52) (L' := [some (.ref 0), some (.int (iz 4)), some (.int (iz 2)), some (.int (iz 3)), some (.int (iz 12)), some (.int (iz 2))]) (st' := [.int (iz 2)]) (h' := cmH z zl (uf f 22 od) fl tx) rfl ?_
  refine Rx.walk 3 (pc' := 55) (L' := [some (.ref 0), some (.int (iz 4)), some (.int (iz 2)), some (.int (iz 3)), some (.int (iz 12)), some (.int (iz 2))]) (st' := [.int (iz 1), .int (iz 3)]) (h' := cmH z zl (uf f 22 od) fl tx) rfl ?_
  refine Rx.iadd rfl ?_
  refine Rx.walk 0 (pc' := 56) (L' := [some (.ref 0), some (.int (iz 4)), some (.int (iz 2)), some (.int (iz 3)), some (.int (iz 12)), some (.int (iz 2))]) (st' := [.int (iz 4)]) (h' := cmH z zl (uf f 22 od) fl tx) rfl ?_
  refine Rx.walk 1 (pc' := 57) (L' := [some (.ref 0), some (.int (iz 4)), some (.int (iz 2)), some (.int (iz 3)), some (.int (iz 12)), some (.int (iz 2))]) (st' := [.int (iz 4), .int (iz 4)]) (h' := cmH z zl (uf f 22 od) fl tx) rfl ?_
  refine Rx.irem rfl ⟨by omega, by omega⟩ ⟨by omega, by omega⟩ (by omega) (by omega) ?_
  refine Rx.walk 4 (pc' := 19) (L' := [some (.ref 0), some (.int (iz 4)), some (.int (iz 2)), some (.int (iz 0)), some (.int (iz 12)), some (.int (iz 2))]) (st' := [.int (iz 0), .int (iz 12)]) (h' := cmH z zl (uf f 22 od) fl tx) rfl ?_
  refine Rx.callx (m' := m_X12_has) (as := [.int (iz 12), .int (iz 0)]) (rest := []) rfl (n_has_12_0 _ (cmH z zl (uf f 22 od) fl tx)   ) (fun v48 h49 q50 => ?_)
  obtain ⟨rfl, rfl⟩ := q50
  refine Rx.walk 0 (pc' := 22) (L' := [some (.ref 0), some (.int (iz 4)), some (.int (iz 2)), some (.int (iz 0)), some (.int (iz 12)), some (.int (iz 2))]) (st' := [.int (iz 0)]) (h' := cmH z zl (uf f 22 od) fl tx) rfl ?_
  refine Rx.ne1 rfl rfl ⟨by omega, by omega⟩ (fun b51 => by omega) (fun b51 => ?_)
  refine Rx.walk 4 (pc' := 32) (L' := [some (.ref 0), some (.int (iz 4)), some (.int (iz 2)), some (.int (iz 0)), some (.int (iz 12)), some (.int (iz 2))]) (st' := [.int (iz 2), .ref 22, .int (iz 0)]) (h' := cmH z zl (uf f 22 od) fl tx) rfl ?_
  refine Rx.ial (g := od) rfl rfl (by omega) (by omega) (by omega) ?_
  rw [show (od 2) = 1 from h2]
  refine Rx.eq2 rfl rfl ⟨by omega, by omega⟩ ⟨by omega, by omega⟩ (fun b52 => by omega) (fun b52 => ?_)
  refine Rx.walk 3 (pc' := 40) (L' := [some (.ref 0), some (.int (iz 4)), some (.int (iz 2)), some (.int (iz 0)), some (.int (iz 12)), some (.int (iz 2))]) (st' := [.int (iz 0), .int (iz 12), .int (iz 2)]) (h' := cmH z zl (uf f 22 od) fl tx) rfl ?_
  refine Rx.callx (m' := m_X12_has) (as := [.int (iz 12), .int (iz 0)]) (rest := [.int (iz 2)]) rfl (n_has_12_0 _ (cmH z zl (uf f 22 od) fl tx)   ) (fun v53 h54 q55 => ?_)
  obtain ⟨rfl, rfl⟩ := q55
  refine Rx.walk 0 (pc' := 43) (L' := [some (.ref 0), some (.int (iz 4)), some (.int (iz 2)), some (.int (iz 0)), some (.int (iz 12)), some (.int (iz 2))]) (st' := [.int (iz 0), .int (iz 2)]) (h' := cmH z zl (uf f 22 od) fl tx) rfl ?_
  refine Rx.eq1 rfl rfl ⟨by omega, by omega⟩ (fun b56 => ?_) (fun b56 => by omega)
  refine Rx.walk 1 (pc' := 51) (L' := [some (.ref 0), some (.int (iz 4)), some (.int (iz 2)), some (.int (iz 0)), some (.int (iz 12)), some (.int (iz 2))]) (st' := [.int (iz 1), .int (iz 2)]) (h' := cmH z zl (uf f 22 od) fl tx) rfl ?_
  refine Rx.iadd rfl ?_
  refine Rx.walk 0 (pc' := 52) (L' := [some (.ref 0), some (.int (iz 4)), some (.int (iz 2)), some (.int (iz 0)), some (.int (iz 12)), some (.int (iz 2))]) (st' := [.int (iz 3)]) (h' := cmH z zl (uf f 22 od) fl tx) rfl ?_
  refine Rx.walk 3 (pc' := 55) (L' := [some (.ref 0), some (.int (iz 4)), some (.int (iz 3)), some (.int (iz 0)), some (.int (iz 12)), some (.int (iz 2))]) (st' := [.int (iz 1), .int (iz 0)]) (h' := cmH z zl (uf f 22 od) fl tx) rfl ?_
  refine Rx.iadd rfl ?_
  refine Rx.walk 0 (pc' := 56) (L' := [some (.ref 0), some (.int (iz 4)), some (.int (iz 3)), some (.int (iz 0)), some (.int (iz 12)), some (.int (iz 2))]) (st' := [.int (iz 1)]) (h' := cmH z zl (uf f 22 od) fl tx) rfl ?_
  refine Rx.walk 1 (pc' := 57) (L' := [some (.ref 0), some (.int (iz 4)), some (.int (iz 3)), some (.int (iz 0)), some (.int (iz 12)), some (.int (iz 2))]) (st' := [.int (iz 4), .int (iz 1)]) (h' := cmH z zl (uf f 22 od) fl tx) rfl ?_
  refine Rx.irem rfl ⟨by omega, by omega⟩ ⟨by omega, by omega⟩ (by omega) (by omega) ?_
  refine Rx.walk 4 (pc' := 19) (L' := [some (.ref 0), some (.int (iz 4)), some (.int (iz 3)), some (.int (iz 1)), some (.int (iz 12)), some (.int (iz 2))]) (st' := [.int (iz 1), .int (iz 12)]) (h' := cmH z zl (uf f 22 od) fl tx) rfl ?_
  refine Rx.callx (m' := m_X12_has) (as := [.int (iz 12), .int (iz 1)]) (rest := []) rfl (n_has_12_1 _ (cmH z zl (uf f 22 od) fl tx)   ) (fun v57 h58 q59 => ?_)
  obtain ⟨rfl, rfl⟩ := q59
  refine Rx.walk 0 (pc' := 22) (L' := [some (.ref 0), some (.int (iz 4)), some (.int (iz 3)), some (.int (iz 1)), some (.int (iz 12)), some (.int (iz 2))]) (st' := [.int (iz 0)]) (h' := cmH z zl (uf f 22 od) fl tx) rfl ?_
  refine Rx.ne1 rfl rfl ⟨by omega, by omega⟩ (fun b60 => by omega) (fun b60 => ?_)
  refine Rx.walk 4 (pc' := 32) (L' := [some (.ref 0), some (.int (iz 4)), some (.int (iz 3)), some (.int (iz 1)), some (.int (iz 12)), some (.int (iz 2))]) (st' := [.int (iz 2), .ref 22, .int (iz 1)]) (h' := cmH z zl (uf f 22 od) fl tx) rfl ?_
  refine Rx.ial (g := od) rfl rfl (by omega) (by omega) (by omega) ?_
  rw [show (od 2) = 1 from h2]
  refine Rx.eq2 rfl rfl ⟨by omega, by omega⟩ ⟨by omega, by omega⟩ (fun b61 => ?_) (fun b61 => by omega)
  refine Rx.walk 3 (pc' := 66) (L' := [some (.ref 0), some (.int (iz 4)), some (.int (iz 3)), some (.int (iz 1)), some (.int (iz 12)), some (.int (iz 2))]) (st' := [.int (iz 1), .int (iz 1), .int (iz 12)]) (h' := cmH z zl (uf f 22 od) fl tx) rfl ?_
  refine Rx.ishl (c := 2) rfl (by decide) ?_
  refine Rx.ior (c := 14) rfl (by decide) ?_
  refine Rx.walk 1 (pc' := 70) (L' := [some (.ref 0), some (.int (iz 4)), some (.int (iz 3)), some (.int (iz 1)), some (.int (iz 14)), some (.int (iz 2))]) (st' := []) (h' := cmH z zl (uf f 22 od) fl tx) rfl ?_
  refine Rx.iinc (b := 1) rfl rfl rfl ?_
  refine Rx.walk 0 (pc' := 73) (L' := [some (.ref 0), some (.int (iz 4)), some (.int (iz 3)), some (.int (iz 1)), some (.int (iz 14)), some (.int (iz 3))]) (st' := []) (h' := cmH z zl (uf f 22 od) fl tx) rfl ?_
  refine Rx.walk 3 (pc' := 13) (L' := [some (.ref 0), some (.int (iz 4)), some (.int (iz 3)), some (.int (iz 1)), some (.int (iz 14)), some (.int (iz 3))]) (st' := [.int (iz 4), .int (iz 3)]) (h' := cmH z zl (uf f 22 od) fl tx) rfl ?_
  refine Rx.ge2 rfl rfl ⟨by omega, by omega⟩ ⟨by omega, by omega⟩ (fun b62 => by omega) (fun b62 => ?_)
  refine Rx.walk 2 (pc' := 19) (L' := [some (.ref 0), some (.int (iz 4)), some (.int (iz 3)), some (.int (iz 1)), some (.int (iz 14)), some (.int (iz 3))]) (st' := [.int (iz 1), .int (iz 14)]) (h' := cmH z zl (uf f 22 od) fl tx) rfl ?_
  refine Rx.callx (m' := m_X12_has) (as := [.int (iz 14), .int (iz 1)]) (rest := []) rfl (n_has_14_1 _ (cmH z zl (uf f 22 od) fl tx)   ) (fun v63 h64 q65 => ?_)
  obtain ⟨rfl, rfl⟩ := q65
  refine Rx.walk 0 (pc' := 22) (L' := [some (.ref 0), some (.int (iz 4)), some (.int (iz 3)), some (.int (iz 1)), some (.int (iz 14)), some (.int (iz 3))]) (st' := [.int (iz 1)]) (h' := cmH z zl (uf f 22 od) fl tx) rfl ?_
  refine Rx.ne1 rfl rfl ⟨by omega, by omega⟩ (fun b66 => ?_) (fun b66 => by omega)
  refine Rx.walk 3 (pc' := 40) (L' := [some (.ref 0), some (.int (iz 4)), some (.int (iz 3)), some (.int (iz 1)), some (.int (iz 14)), some (.int (iz 3))]) (st' := [.int (iz 1), .int (iz 14), .int (iz 3)]) (h' := cmH z zl (uf f 22 od) fl tx) rfl ?_
  refine Rx.callx (m' := m_X12_has) (as := [.int (iz 14), .int (iz 1)]) (rest := [.int (iz 3)]) rfl (n_has_14_1 _ (cmH z zl (uf f 22 od) fl tx)   ) (fun v67 h68 q69 => ?_)
  obtain ⟨rfl, rfl⟩ := q69
  refine Rx.walk 0 (pc' := 43) (L' := [some (.ref 0), some (.int (iz 4)), some (.int (iz 3)), some (.int (iz 1)), some (.int (iz 14)), some (.int (iz 3))]) (st' := [.int (iz 1), .int (iz 3)]) (h' := cmH z zl (uf f 22 od) fl tx) rfl ?_
  refine Rx.eq1 rfl rfl ⟨by omega, by omega⟩ (fun b70 => by omega) (fun b70 => ?_)
  refine Rx.walk 2 (pc' := 51) (L' := [some (.ref 0), some (.int (iz 4)), some (.int (iz 3)), some (.int (iz 1)), some (.int (iz 14)), some (.int (iz 3))]) (st' := [.int (iz 0), .int (iz 3)]) (h' := cmH z zl (uf f 22 od) fl tx) rfl ?_
  refine Rx.iadd rfl ?_
  refine Rx.walk 0 (pc' := 52) (L' := [some (.ref 0), some (.int (iz 4)), some (.int (iz 3)), some (.int (iz 1)), some (.int (iz 14)), some (.int (iz 3))]) (st' := [.int (iz 3)]) (h' := cmH z zl (uf f 22 od) fl tx) rfl ?_
  refine Rx.walk 3 (pc' := 55) (L' := [some (.ref 0), some (.int (iz 4)), some (.int (iz 3)), some (.int (iz 1)), some (.int (iz 14)), some (.int (iz 3))]) (st' := [.int (iz 1), .int (iz 1)]) (h' := cmH z zl (uf f 22 od) fl tx) rfl ?_
  refine Rx.iadd rfl ?_
  refine Rx.walk 0 (pc' := 56) (L' := [some (.ref 0), some (.int (iz 4)), some (.int (iz 3)), some (.int (iz 1)), some (.int (iz 14)), some (.int (iz 3))]) (st' := [.int (iz 2)]) (h' := cmH z zl (uf f 22 od) fl tx) rfl ?_
  refine Rx.walk 1 (pc' := 57) (L' := [some (.ref 0), some (.int (iz 4)), some (.int (iz 3)), some (.int (iz 1)), some (.int (iz 14)), some (.int (iz 3))]) (st' := [.int (iz 4), .int (iz 2)]) (h' := cmH z zl (uf f 22 od) fl tx) rfl ?_
  refine Rx.irem rfl ⟨by omega, by omega⟩ ⟨by omega, by omega⟩ (by omega) (by omega) ?_
  refine Rx.walk 4 (pc' := 19) (L' := [some (.ref 0), some (.int (iz 4)), some (.int (iz 3)), some (.int (iz 2)), some (.int (iz 14)), some (.int (iz 3))]) (st' := [.int (iz 2), .int (iz 14)]) (h' := cmH z zl (uf f 22 od) fl tx) rfl ?_
  refine Rx.callx (m' := m_X12_has) (as := [.int (iz 14), .int (iz 2)]) (rest := []) rfl (n_has_14_2 _ (cmH z zl (uf f 22 od) fl tx)   ) (fun v71 h72 q73 => ?_)
  obtain ⟨rfl, rfl⟩ := q73
  refine Rx.walk 0 (pc' := 22) (L' := [some (.ref 0), some (.int (iz 4)), some (.int (iz 3)), some (.int (iz 2)), some (.int (iz 14)), some (.int (iz 3))]) (st' := [.int (iz 1)]) (h' := cmH z zl (uf f 22 od) fl tx) rfl ?_
  refine Rx.ne1 rfl rfl ⟨by omega, by omega⟩ (fun b74 => ?_) (fun b74 => by omega)
  refine Rx.walk 3 (pc' := 40) (L' := [some (.ref 0), some (.int (iz 4)), some (.int (iz 3)), some (.int (iz 2)), some (.int (iz 14)), some (.int (iz 3))]) (st' := [.int (iz 2), .int (iz 14), .int (iz 3)]) (h' := cmH z zl (uf f 22 od) fl tx) rfl ?_
  refine Rx.callx (m' := m_X12_has) (as := [.int (iz 14), .int (iz 2)]) (rest := [.int (iz 3)]) rfl (n_has_14_2 _ (cmH z zl (uf f 22 od) fl tx)   ) (fun v75 h76 q77 => ?_)
  obtain ⟨rfl, rfl⟩ := q77
  refine Rx.walk 0 (pc' := 43) (L' := [some (.ref 0), some (.int (iz 4)), some (.int (iz 3)), some (.int (iz 2)), some (.int (iz 14)), some (.int (iz 3))]) (st' := [.int (iz 1), .int (iz 3)]) (h' := cmH z zl (uf f 22 od) fl tx) rfl ?_
  refine Rx.eq1 rfl rfl ⟨by omega, by omega⟩ (fun b78 => by omega) (fun b78 => ?_)
  refine Rx.walk 2 (pc' := 51) (L' := [some (.ref 0), some (.int (iz 4)), some (.int (iz 3)), some (.int (iz 2)), some (.int (iz 14)), some (.int (iz 3))]) (st' := [.int (iz 0), .int (iz 3)]) (h' := cmH z zl (uf f 22 od) fl tx) rfl ?_
  refine Rx.iadd rfl ?_
  refine Rx.walk 0 (pc' := 52) (L' := [some (.ref 0), some (.int (iz 4)), some (.int (iz 3)), some (.int (iz 2)), some (.int (iz 14)), some (.int (iz 3))]) (st' := [.int (iz 3)]) (h' := cmH z zl (uf f 22 od) fl tx) rfl ?_
  refine Rx.walk 3 (pc' := 55) (L' := [some (.ref 0), some (.int (iz 4)), some (.int (iz 3)), some (.int (iz 2)), some (.int (iz 14)), some (.int (iz 3))]) (st' := [.int (iz 1), .int (iz 2)]) (h' := cmH z zl (uf f 22 od) fl tx) rfl ?_
  refine Rx.iadd rfl ?_
  refine Rx.walk 0 (pc' := 56) (L' := [some (.ref 0), some (.int (iz 4)), some (.int (iz 3)), some (.int (iz 2)), some (.int (iz 14)), some (.int (iz 3))]) (st' := [.int (iz 3)]) (h' := cmH z zl (uf f 22 od) fl tx) rfl ?_
  refine Rx.walk 1 (pc' := 57) (L' := [some (.ref 0), some (.int (iz 4)), some (.int (iz 3)), some (.int (iz 2)), some (.int (iz 14)), some (.int (iz 3))]) (st' := [.int (iz 4), .int (iz 3)]) (h' := cmH z zl (uf f 22 od) fl tx) rfl ?_
  refine Rx.irem rfl ⟨by omega, by omega⟩ ⟨by omega, by omega⟩ (by omega) (by omega) ?_
  refine Rx.walk 4 (pc' := 19) (L' := [some (.ref 0), some (.int (iz 4)), some (.int (iz 3)), some (.int (iz 3)), some (.int (iz 14)), some (.int (iz 3))]) (st' := [.int (iz 3), .int (iz 14)]) (h' := cmH z zl (uf f 22 od) fl tx) rfl ?_
  refine Rx.callx (m' := m_X12_has) (as := [.int (iz 14), .int (iz 3)]) (rest := []) rfl (n_has_14_3 _ (cmH z zl (uf f 22 od) fl tx)   ) (fun v79 h80 q81 => ?_)
  obtain ⟨rfl, rfl⟩ := q81
  refine Rx.walk 0 (pc' := 22) (L' := [some (.ref 0), some (.int (iz 4)), some (.int (iz 3)), some (.int (iz 3)), some (.int (iz 14)), some (.int (iz 3))]) (st' := [.int (iz 1)]) (h' := cmH z zl (uf f 22 od) fl tx) rfl ?_
  refine Rx.ne1 rfl rfl ⟨by omega, by omega⟩ (fun b82 => ?_) (fun b82 => by omega)
  refine Rx.walk 3 (pc' := 40) (L' := [some (.ref 0), some (.int (iz 4)), some (.int (iz 3)), some (.int (iz 3)), some (.int (iz 14)), some (.int (iz 3))]) (st' := [.int (iz 3), .int (iz 14), .int (iz 3)]) (h' := cmH z zl (uf f 22 od) fl tx) rfl ?_
  refine Rx.callx (m' := m_X12_has) (as := [.int (iz 14), .int (iz 3)]) (rest := [.int (iz 3)]) rfl (n_has_14_3 _ (cmH z zl (uf f 22 od) fl tx)   ) (fun v83 h84 q85 => ?_)
  obtain ⟨rfl, rfl⟩ := q85
  refine Rx.walk 0 (pc' := 43) (L' := [some (.ref 0), some (.int (iz 4)), some (.int (iz 3)), some (.int (iz 3)), some (.int (iz 14)), some (.int (iz 3))]) (st' := [.int (iz 1), .int (iz 3)]) (h' := cmH z zl (uf f 22 od) fl tx) rfl ?_
  refine Rx.eq1 rfl rfl ⟨by omega, by omega⟩ (fun b86 => by omega) (fun b86 => ?_)
  refine Rx.walk 2 (pc' := 51) (L' := [some (.ref 0), some (.int (iz 4)), some (.int (iz 3)), some (.int (iz 3)), some (.int (iz 14)), some (.int (iz 3))]) (st' := [.int (iz 0), .int (iz 3)]) (h' := cmH z zl (uf f 22 od) fl tx) rfl ?_
  refine Rx.iadd rfl ?_
  refine Rx.walk 0 (pc' := 52) (L' := [some (.ref 0), some (.int (iz 4)), some (.int (iz 3)), some (.int (iz 3)), some (.int (iz 14)), some (.int (iz 3))]) (st' := [.int (iz 3)]) (h' := cmH z zl (uf f 22 od) fl tx) rfl ?_
  refine Rx.walk 3 (pc' := 55) (L' := [some (.ref 0), some (.int (iz 4)), some (.int (iz 3)), some (.int (iz 3)), some (.int (iz 14)), some (.int (iz 3))]) (st' := [.int (iz 1), .int (iz 3)]) (h' := cmH z zl (uf f 22 od) fl tx) rfl ?_
  refine Rx.iadd rfl ?_
  refine Rx.walk 0 (pc' := 56) (L' := [some (.ref 0), some (.int (iz 4)), some (.int (iz 3)), some (.int (iz 3)), some (.int (iz 14)), some (.int (iz 3))]) (st' := [.int (iz 4)]) (h' := cmH z zl (uf f 22 od) fl tx) rfl ?_
  refine Rx.walk 1 (pc' := 57) (L' := [some (.ref 0), some (.int (iz 4)), some (.int (iz 3)), some (.int (iz 3)), some (.int (iz 14)), some (.int (iz 3))]) (st' := [.int (iz 4), .int (iz 4)]) (h' := cmH z zl (uf f 22 od) fl tx) rfl ?_
  refine Rx.irem rfl ⟨by omega, by omega⟩ ⟨by omega, by omega⟩ (by omega) (by omega) ?_
  refine Rx.walk 4 (pc' := 19) (L' := [some (.ref 0), some (.int (iz 4)), some (.int (iz 3)), some (.int (iz 0)), some (.int (iz 14)), some (.int (iz 3))]) (st' := [.int (iz 0), .int (iz 14)]) (h' := cmH z zl (uf f 22 od) fl tx) rfl ?_
  refine Rx.callx (m' := m_X12_has) (as := [.int (iz 14), .int (iz 0)]) (rest := []) rfl (n_has_14_0 _ (cmH z zl (uf f 22 od) fl tx)   ) (fun v87 h88 q89 => ?_)
  obtain ⟨rfl, rfl⟩ := q89
  refine Rx.walk 0 (pc' := 22) (L' := [some (.ref 0), some (.int (iz 4)), some (.int (iz 3)), some (.int (iz 0)), some (.int (iz 14)), some (.int (iz 3))]) (st' := [.int (iz 0)]) (h' := cmH z zl (uf f 22 od) fl tx) rfl ?_
  refine Rx.ne1 rfl rfl ⟨by omega, by omega⟩ (fun b90 => by omega) (fun b90 => ?_)
  refine Rx.walk 4 (pc' := 32) (L' := [some (.ref 0), some (.int (iz 4)), some (.int (iz 3)), some (.int (iz 0)), some (.int (iz 14)), some (.int (iz 3))]) (st' := [.int (iz 3), .ref 22, .int (iz 0)]) (h' := cmH z zl (uf f 22 od) fl tx) rfl ?_
  refine Rx.ial (g := od) rfl rfl (by omega) (by omega) (by omega) ?_
  rw [show (od 3) = 0 from h3]
  refine Rx.eq2 rfl rfl ⟨by omega, by omega⟩ ⟨by omega, by omega⟩ (fun b91 => ?_) (fun b91 => by omega)
  refine Rx.walk 3 (pc' := 66) (L' := [some (.ref 0), some (.int (iz 4)), some (.int (iz 3)), some (.int (iz 0)), some (.int (iz 14)), some (.int (iz 3))]) (st' := [.int (iz 0), .int (iz 1), .int (iz 14)]) (h' := cmH z zl (uf f 22 od) fl tx) rfl ?_
  refine Rx.ishl (c := 1) rfl (by decide) ?_
  refine Rx.ior (c := 15) rfl (by decide) ?_
  refine Rx.walk 1 (pc' := 70) (L' := [some (.ref 0), some (.int (iz 4)), some (.int (iz 3)), some (.int (iz 0)), some (.int (iz 15)), some (.int (iz 3))]) (st' := []) (h' := cmH z zl (uf f 22 od) fl tx) rfl ?_
  refine Rx.iinc (b := 1) rfl rfl rfl ?_
  refine Rx.walk 0 (pc' := 73) (L' := [some (.ref 0), some (.int (iz 4)), some (.int (iz 3)), some (.int (iz 0)), some (.int (iz 15)), some (.int (iz 4))]) (st' := []) (h' := cmH z zl (uf f 22 od) fl tx) rfl ?_
  refine Rx.walk 3 (pc' := 13) (L' := [some (.ref 0), some (.int (iz 4)), some (.int (iz 3)), some (.int (iz 0)), some (.int (iz 15)), some (.int (iz 4))]) (st' := [.int (iz 4), .int (iz 4)]) (h' := cmH z zl (uf f 22 od) fl tx) rfl ?_
  refine Rx.ge2 rfl rfl ⟨by omega, by omega⟩ ⟨by omega, by omega⟩ (fun b92 => ?_) (fun b92 => by omega)
  refine Rx.walk 1 (pc' := 77) (L' := [some (.ref 0), some (.int (iz 4)), some (.int (iz 3)), some (.int (iz 0)), some (.int (iz 15)), some (.int (iz 4))]) (st' := [.int (iz 3)]) (h' := cmH z zl (uf f 22 od) fl tx) rfl ?_
  refine Rx.ret rfl ?_
  exact ⟨rfl, rfl⟩
set_option maxRecDepth 100000 in
set_option maxHeartbeats 4000000 in
theorem n_has_0_3 (d : Nat) (h0 : AmH)   : Rx (d) m_X12_has 0 (am_ent [.int (iz 0), .int (iz 3)] 2) [] (h0) (fun rv h => rv = some (.int (iz 0)) ∧ h0 = h) := ⟨_, _, ⟨100, rfl⟩, rfl, rfl⟩
set_option maxRecDepth 100000 in
set_option maxHeartbeats 4000000 in
theorem n_has_8_3 (d : Nat) (h0 : AmH)   : Rx (d) m_X12_has 0 (am_ent [.int (iz 8), .int (iz 3)] 2) [] (h0) (fun rv h => rv = some (.int (iz 1)) ∧ h0 = h) := ⟨_, _, ⟨100, rfl⟩, rfl, rfl⟩
set_option maxRecDepth 100000 in
set_option maxHeartbeats 4000000 in
theorem n_has_8_0 (d : Nat) (h0 : AmH)   : Rx (d) m_X12_has 0 (am_ent [.int (iz 8), .int (iz 0)] 2) [] (h0) (fun rv h => rv = some (.int (iz 0)) ∧ h0 = h) := ⟨_, _, ⟨100, rfl⟩, rfl, rfl⟩
set_option maxRecDepth 100000 in
set_option maxHeartbeats 4000000 in
theorem m_stepsOf4_18 (d : Nat) (z : Nat → Int) (zl : Nat → Int) (f : Nat → Int → Int) (fl : Nat → Int → Int) (tx : Nat)  (od : Int → Int) (h0 : od 0 = 3) (h1 : od 1 = 0) (h2 : od 2 = 1) (h3 : od 3 = 2) : Rx (d + 1) m_X12_stepsOf 0 (am_ent [.ref 0, .int (iz 4)] 6) [] (cmH z zl (uf f 22 od) fl tx) (fun rv h => rv = some (.int (iz 3)) ∧ h = cmH z zl (uf f 22 od) fl tx) := by
  refine Rx.walk 0 (pc' := 0) (L' := [some (.ref 0), some (.int (iz 4)), none, none, none, none]) (st' := []) (h' := cmH z zl (uf f 22 od) fl tx) rfl ?_
  refine Rx.walk 10 (pc' := 13) (L' := [some (.ref 0), some (.int (iz 4)), some (.int (iz 0)), some (.int (iz 0)), some (.int (iz 0)), some (.int (iz 0))]) (st' := [.int (iz 4), .int (iz 0)]) (h' := cmH z zl (uf f 22 od) fl tx) rfl ?_
  refine Rx.ge2 rfl rfl ⟨by omega, by omega⟩ ⟨by omega, by omega⟩ (fun b1 => by omega) (fun b1 => ?_)
  refine Rx.walk 2 (pc' := 19) (L' := [some (.ref 0), some (.int (iz 4)), some (.int (iz 0)), some (.int (iz 0)), some (.int (iz 0)), some (.int (iz 0))]) (st' := [.int (iz 0), .int (iz 0)]) (h' := cmH z zl (uf f 22 od) fl tx) rfl ?_
  refine Rx.callx (m' := m_X12_has) (as := [.int (iz 0), .int (iz 0)]) (rest := []) rfl (n_has_0_0 _ (cmH z zl (uf f 22 od) fl tx)   ) (fun v2 h3 q4 => ?_)
  obtain ⟨rfl, rfl⟩ := q4
  refine Rx.walk 0 (pc' := 22) (L' := [some (.ref 0), some (.int (iz 4)), some (.int (iz 0)), some (.int (iz 0)), some (.int (iz 0)), some (.int (iz 0))]) (st' := [.int (iz 0)]) (h' := cmH z zl (uf f 22 od) fl tx) rfl ?_
  refine Rx.ne1 rfl rfl ⟨by omega, by omega⟩ (fun b5 => by omega) (fun b5 => ?_)
  refine Rx.walk 4 (pc' := 32) (L' := [some (.ref 0), some (.int (iz 4)), some (.int (iz 0)), some (.int (iz 0)), some (.int (iz 0)), some (.int (iz 0))]) (st' := [.int (iz 0), .ref 22, .int (iz 0)]) (h' := cmH z zl (uf f 22 od) fl tx) rfl ?_
  refine Rx.ial (g := od) rfl rfl (by omega) (by omega) (by omega) ?_
  rw [show (od 0) = 3 from h0]
  refine Rx.eq2 rfl rfl ⟨by omega, by omega⟩ ⟨by omega, by omega⟩ (fun b6 => by omega) (fun b6 => ?_)
  refine Rx.walk 3 (pc' := 40) (L' := [some (.ref 0), some (.int (iz 4)), some (.int (iz 0)), some (.int (iz 0)), some (.int (iz 0)), some (.int (iz 0))]) (st' := [.int (iz 0), .int (iz 0), .int (iz 0)]) (h' := cmH z zl (uf f 22 od) fl tx) rfl ?_
  refine Rx.callx (m' := m_X12_has) (as := [.int (iz 0), .int (iz 0)]) (rest := [.int (iz 0)]) rfl (n_has_0_0 _ (cmH z zl (uf f 22 od) fl tx)   ) (fun v7 h8 q9 => ?_)
  obtain ⟨rfl, rfl⟩ := q9
  refine Rx.walk 0 (pc' := 43) (L' := [some (.ref 0), some (.int (iz 4)), some (.int (iz 0)), some (.int (iz 0)), some (.int (iz 0)), some (.int (iz 0))]) (st' := [.int (iz 0), .int (iz 0)]) (h' := cmH z zl (uf f 22 od) fl tx) rfl ?_
  refine Rx.eq1 rfl rfl ⟨by omega, by omega⟩ (fun b10 => ?_) (fun b10 => by omega)
  refine Rx.walk 1 (pc' := 51) (L' := [some (.ref 0), some (.int (iz 4)), some (.int (iz 0)), some (.int (iz 0)), some (.int (iz 0)), some (.int (iz 0))]) (st' := [.int (iz 1), .int (iz 0)]) (h' := cmH z zl (uf f 22 od) fl tx) rfl ?_
  refine Rx.iadd rfl ?_
  refine Rx.walk 0 (pc' := 52) (L' := [some (.ref 0), some (.int (iz 4)), some (.int (iz 0)), some (.int (iz 0)), some (.int (iz 0)), some (.int (iz 0))]) (st' := [.int (iz 1)]) (h' := cmH z zl (uf f 22 od) fl tx) rfl ?_
  refine Rx.walk 3 (pc' := 55) (L' := [some (.ref 0), some (.int (iz 4)), some (.int (iz 1)), some (.int (iz 0)), some (.int (iz 0)), some (.int (iz 0))]) (st' := [.int (iz 1), .int (iz 0)]) (h' := cmH z zl (uf f 22 od) fl tx) rfl ?_
  refine Rx.iadd rfl ?_
  refine Rx.walk 0 (pc' := 56) (L' := [some (.ref 0), some (.int (iz 4)), some (.int (iz 1)), some (.int (iz 0)), some (.int (iz 0)), some (.int (iz 0))]) (st' := [.int (iz 1)]) (h' := cmH z zl (uf f 22 od) fl tx) rfl ?_
  refine Rx.walk 1 (pc' := 57) (L' := [some (.ref 0), some (.int (iz 4)), some (.int (iz 1)), some (.int (iz 0)), some (.int (iz 0)), some (.int (iz 0))]) (st' := [.int (iz 4), .int (iz 1)]) (h' := cmH z zl (uf f 22 od) fl tx) rfl ?_
  refine Rx.irem rfl ⟨by omega, by omega⟩ ⟨by omega, by omega⟩ (by omega) (by omega) ?_
  refine Rx.walk 4 (pc' := 19) (L' := [some (.ref 0), some (.int (iz 4)), some (.int (iz 1)), some (.int (iz 1)), some (.int (iz 0)), some (.int (iz 0))]) (st' := [.int (iz 1), .int (iz 0)]) (h' := cmH z zl (uf f 22 od) fl tx) rfl ?_
  refine Rx.callx (m' := m_X12_has) (as := [.int (iz 0), .int (iz 1)]) (rest := []) rfl (n_has_0_1 _ (cmH z zl (uf f 22 od) fl tx)   ) (fun v11 h12 q13 => ?_)
  obtain ⟨rfl, rfl⟩ := q13
  refine Rx.walk 0 (pc' := 22) (L' := [some (.ref 0), some (.int (iz 4)), some (.int (iz 1)), some (.int (iz 1)), some (.int (iz 0)), some (.int (iz 0))]) (st' := [.int (iz 0)]) (h' := cmH z zl (uf f 22 od) fl tx) rfl ?_
  refine Rx.ne1 rfl rfl ⟨by omega, by omega⟩ (fun b14 => by omega) (fun b14 => ?_)
  refine Rx.walk 4 (pc' := 32) (L' := [some (.ref 0), some (.int (iz 4)), some (.int (iz 1)), some (.int (iz 1)), some (.int (iz 0)), some (.int (iz 0))]) (st' := [.int (iz 0), .ref 22, .int (iz 1)]) (h' := cmH z zl (uf f 22 od) fl tx) rfl ?_
  refine Rx.ial (g := od) rfl rfl (by omega) (by omega) (by omega) ?_
  rw [show (od 0) = 3 from h0]
  refine Rx.eq2 rfl rfl ⟨by omega, by omega⟩ ⟨by omega, by omega⟩ (fun b15 => by omega) (fun b15 => ?_)
  refine Rx.walk 3 (pc' := 40) (L' := [some (.ref 0), some (.int (iz 4)), some (.int (iz 1)), some (.int (iz 1)), some (.int (iz 0)), some (.int (iz 0))]) (st' := [.int (iz 1), .int (iz 0), .int (iz 1)]) (h' := cmH z zl (uf f 22 od) fl tx) rfl ?_
  refine Rx.callx (m' := m_X12_has) (as := [.int (iz 0), .int (iz 1)]) (rest := [.int (iz 1)]) rfl (n_has_0_1 _ (cmH z zl (uf f 22 od) fl tx)   ) (fun v16 h17 q18 => ?_)
  obtain ⟨rfl, rfl⟩ := q18
  refine Rx.walk 0 (pc' := 43) (L' := [some (.ref 0), some (.int (iz 4)), some (.int (iz 1)), some (.int (iz 1)), some (.int (iz 0)), some (.int (iz 0))]) (st' := [.int (iz 0), .int (iz 1)]) (h' := cmH z zl (uf f 22 od) fl tx) rfl ?_
  refine Rx.eq1 rfl rfl ⟨by omega, by omega⟩ (fun b19 => ?_) (fun b19 => by omega)
  refine Rx.walk 1 (pc' := 51) (L' := [some (.ref 0), some (.int (iz 4)), some (.int (iz 1)), some (.int (iz 1)), some (.int (iz 0)), some (.int (iz 0))]) (st' := [.int (iz 1), .int (iz 1)]) (h' := cmH z zl (uf f 22 od) fl tx) rfl ?_
  refine Rx.iadd rfl ?_
  refine Rx.walk 0 (pc' := 52) (L' := [some (.ref 0), some (.int (iz 4)), some (.int (iz 1)), some (.int (iz 1)), some (.int (iz 0)), some (.int (iz 0))]) (st' := [.int (iz 2)]) (h' := cmH z zl (uf f 22 od) fl tx) rfl ?_
  refine Rx.walk 3 (pc' := 55) (L' := [some (.ref 0), some (.int (iz 4)), some (.int (iz 2)), some (.int (iz 1)), some (.int (iz 0)), some (.int (iz 0))]) (st' := [.int (iz 1), .int (iz 1)]) (h' := cmH z zl (uf f 22 od) fl tx) rfl ?_
  refine Rx.iadd rfl ?_
  refine Rx.walk 0 (pc' := 56) (L' := [some (.ref 0), some (.int (iz 4)), some (.int (iz 2)), some (.int (iz 1)), some (.int (iz 0)), some (.int (iz 0))]) (st' := [.int (iz 2)]) (h' := cmH z zl (uf f 22 od) fl tx) rfl ?_
  refine Rx.walk 1 (pc' := 57) (L' := [some (.ref 0), some (.int (iz 4)), some (.int (iz 2)), some (.int (iz 1)), some (.int (iz 0)), some (.int (iz 0))]) (st' := [.int (iz 4), .int (iz 2)]) (h' := cmH z zl (uf f 22 od) fl tx) rfl ?_
  refine Rx.irem rfl ⟨by omega, by omega⟩ ⟨by omega, by omega⟩ (by omega) (by omega) ?_
  refine Rx.walk 4 (pc' := 19) (L' := [some (.ref 0), some (.int (iz 4)), some (.int (iz 2)), some (.int (iz 2)), some (.int (iz 0)), some (.int (iz 0))]) (st' := [.int (iz 2), .int (iz 0)]) (h' := cmH z zl (uf f 22 od) fl tx) rfl ?_
  refine Rx.callx (m' := m_X12_has) (as := [.int (iz 0), .int (iz 2)]) (rest := []) rfl (n_has_0_2 _ (cmH z zl (uf f 22 od) fl tx)   ) (fun v20 h21 q22 => ?_)
  obtain ⟨rfl, rfl⟩ := q22
  refine Rx.walk 0 (pc' := 22) (L' := [some (.ref 0), some (.int (iz 4)), some (.int (iz 2)), some (.int (iz 2)), some (.int (iz 0)), some (.int (iz 0))]) (st' := [.int (iz 0)]) (h' := cmH z zl (uf f 22 od) fl tx) rfl ?_
  refine Rx.ne1 rfl rfl ⟨by omega, by omega⟩ (fun b23 => by omega) (fun b23 => ?_)
  refine Rx.walk 4 (pc' := 32) (L' := [some (.ref 0), some (.int (iz 4)), some (.int (iz 2)), some (.int (iz 2)), some (.int (iz 0)), some (.int (iz 0))]) (st' := [.int (iz 0), .ref 22, .int (iz 2)]) (h' := cmH z zl (uf f 22 od) fl tx) rfl ?_
  refine Rx.ial (g := od) rfl rfl (by omega) (by omega) (by omega) ?_
  rw [show (od 0) = 3 from h0]
  refine Rx.eq2 rfl rfl ⟨by omega, by omega⟩ ⟨by omega, by omega⟩ (fun b24 => by omega) (fun b24 => ?_)
  refine Rx.walk 3 (pc' := 40) (L' := [some (.ref 0), some (.int (iz 4)), some (.int (iz 2)), some (.int (iz 2)), some (.int (iz 0)), some (.int (iz 0))]) (st' := [.int (iz 2), .int (iz 0), .int (iz 2)]) (h' := cmH z zl (uf f 22 od) fl tx) rfl ?_
  refine Rx.callx (m' := m_X12_has) (as := [.int (iz 0), .int (iz 2)]) (rest := [.int (iz 2)]) rfl (n_has_0_2 _ (cmH z zl (uf f 22 od) fl tx)   ) (fun v25 h26 q27 => ?_)
  obtain ⟨rfl, rfl⟩ := q27
  refine Rx.walk 0 (pc' := 43) (L' := [some (.ref 0), some (.int (iz 4)), some (.int (iz 2)), some (.int (iz 2)), some (.int (iz 0)), some (.int (iz 0))]) (st' := [.int (iz 0), .int (iz 2)]) (h' := cmH z zl (uf f 22 od) fl tx) rfl ?_
  refine Rx.eq1 rfl rfl ⟨by omega, by omega⟩ (fun b28 => ?_) (fun b28 => by omega)
  refine Rx.walk 1 (pc' := 51) (L' := [some (.ref 0), some (.int (iz 4)), some (.int (iz 2)), some (.int (iz 2)), some (.int (iz 0)), some (.int (iz 0))]) (st' := [.int (iz 1), .int (iz 2)]) (h' := cmH z zl (uf f 22 od) fl tx) rfl ?_
  refine Rx.iadd rfl ?_
  refine Rx.walk 0 (pc' := 52) (L' := [some (.ref 0), some (.int (iz 4)), some (.int (iz 2)), some (.int (iz 2)), some (.int (iz 0)), some (.int (iz 0))]) (st' := [.int (iz 3)]) (h' := cmH z zl (uf f 22 od) fl tx) rfl ?_
  refine Rx.walk 3 (pc' := 55) (L' := [some (.ref 0), some (.int (iz 4)), some (.int (iz 3)), some (.int (iz 2)), some (.int (iz 0)), some (.int (iz 0))]) (st' := [.int (iz 1), .int (iz 2)]) (h' := cmH z zl (uf f 22 od) fl tx) rfl ?_
  refine Rx.iadd rfl ?_
  refine Rx.walk 0 (pc' := 56) (L' := [some (.ref 0), some (.int (iz 4)), some (.int (iz 3)), some (.int (iz 2)), some (.int (iz 0)), some (.int (iz 0))]) (st' := [.int (iz 3)]) (h' := cmH z zl (uf f 22 od) fl tx) rfl ?_
  refine Rx.walk 1 (pc' := 57) (L' := [some (.ref 0), some (.int (iz 4)), some (.int (iz 3)), some (.int (iz 2)), some (.int (iz 0)), some (.int (iz 0))]) (st' := [.int (iz 4), .int (iz 3)]) (h' := cmH z zl (uf f 22 od) fl tx) rfl ?_
  refine Rx.irem rfl ⟨by omega, by omega⟩ ⟨by omega, by omega⟩ (by omega) (by omega) ?_
  refine Rx.walk 4 (pc' := 19) (L' := [some (.ref 0), some (.int (iz 4)), some (.int (iz 3)), some (.int (iz 3)), some (.int (iz 0)), some (.int (iz 0))]) (st' := [.int (iz 3), .int (iz 0)]) (h' := cmH z zl (uf f 22 od) fl tx) rfl ?_
  refine Rx.callx (m' := m_X12_has) (as := [.int (iz 0), .int (iz 3)]) (rest := []) rfl (n_has_0_3 _ (cmH z zl (uf f 22 od) fl tx)   ) (fun v29 h30 q31 => ?_)
  obtain ⟨rfl, rfl⟩ := q31
  refine Rx.walk 0 (pc' := 22) (L' := [some (.ref 0), some (.int (iz 4)), some (.int (iz 3)), some (.int (iz 3)), some (.int (iz 0)), some (.int (iz 0))]) (st' := [.int (iz 0)]) (h' := cmH z zl (uf f 22 od) fl tx) rfl ?_
  refine Rx.ne1 rfl rfl ⟨by omega, by omega⟩ (fun b32 => by omega) (fun b32 => ?_)
  refine Rx.walk 4 (pc' := 32) (L' := [some (.ref 0), some (.int (iz 4)), some (.int (iz 3)), some (.int (iz 3)), some (.int (iz 0)), some (.int (iz 0))]) (st' := [.int (iz 0), .ref 22, .int (iz 3)]) (h' := cmH z zl (uf f 22 od) fl tx) rfl ?_
  refine Rx.ial (g := od) rfl rfl (by omega) (by omega) (by omega) ?_
  rw [show (od 0) = 3 from h0]
  refine Rx.eq2 rfl rfl ⟨by omega, by omega⟩ ⟨by omega, by omega⟩ (fun b33 => ?_) (fun b33 => by omega)
  refine Rx.walk 3 (pc' := 66) (L' := [some (.ref 0), some (.int (iz 4)), some (.int (iz 3)), some (.int (iz 3)), some (.int (iz 0)), some (.int (iz 0))]) (st' := [.int (iz 3), .int (iz 1), .int (iz 0)]) (h' := cmH z zl (uf f 22 od) fl tx) rfl ?_
  refine Rx.ishl (c := 8) rfl (by decide) ?_
  refine Rx.ior (c := 8) rfl (by decide) ?_
  refine Rx.walk 1 (pc' := 70) (L' := [some (.ref 0), some (.int (iz 4)), some (.int (iz 3)), some (.int (iz 3)), some (.int (iz 8)), some (.int (iz 0))]) (st' := []) (h' := cmH z zl (uf f 22 od) fl tx) rfl ?_
  refine Rx.iinc (b := 1) rfl rfl rfl ?_
  refine Rx.walk 0 (pc' := 73) (L' := [some (.ref 0), some (.int (iz 4)), some (.int (iz 3)), some (.int (iz 3)), some (.int (iz 8)), some (.int (iz 1))]) (st' := []) (h' := cmH z zl (uf f 22 od) fl tx) rfl ?_
  refine Rx.walk 3 (pc' := 13) (L' := [some (.ref 0), some (.int (iz 4)), some (.int (iz 3)), some (.int (iz 3)), some (.int (iz 8)), some (.int (iz 1))]) (st' := [.int (iz 4), .int (iz 1)]) (h' := cmH z zl (uf f 22 od) fl tx) rfl ?_
  refine Rx.ge2 rfl rfl ⟨by omega, by omega⟩ ⟨by omega, by omega⟩ (fun b34 => by omega) (fun b34 => ?_)
  refine Rx.walk 2 (pc' := 19) (L' := [some (.ref 0), some (.int (iz 4)), some (.int (iz 3)), some (.int (iz 3)), some (.int (iz 8)), some (.int (iz 1))]) (st' := [.int (iz 3), .int (iz 8)]) (h' := cmH z zl (uf f 22 od) fl tx) rfl ?_
  refine Rx.callx (m' := m_X12_has) (as := [.int (iz 8), .int (iz 3)]) (rest := []) rfl (n_has_8_3 _ (cmH z zl (uf f 22 od) fl tx)   ) (fun v35 h36 q37 => ?_)
  obtain ⟨rfl, rfl⟩ := q37
  refine Rx.walk 0 (pc' := 22) (L' := [some (.ref 0), some (.int (iz 4)), some (.int (iz 3)), some (.int (iz 3)), some (.int (iz 8)), some (.int (iz 1))]) (st' := [.int (iz 1)]) (h' := cmH z zl (uf f 22 od) fl tx) rfl ?_
  refine Rx.ne1 rfl rfl ⟨by omega, by omega⟩ (fun b38 => ?_) (fun b38 => by omega)
  refine Rx.walk 3 (pc' := 40) (L' := [some (.ref 0), some (.int (iz 4)), some (.int (iz 3)), some (.int (iz 3)), some (.int (iz 8)), some (.int (iz 1))]) (st' := [.int (iz 3), .int (iz 8), .int (iz 3)]) (h' := cmH z zl (uf f 22 od) fl tx) rfl ?_
  refine Rx.callx (m' := m_X12_has) (as := [.int (iz 8), .int (iz 3)]) (rest := [.int (iz 3)]) rfl (n_has_8_3 _ (cmH z zl (uf f 22 od) fl tx)   ) (fun v39 h40 q41 => ?_)
  obtain ⟨rfl, rfl⟩ := q41
  refine Rx.walk 0 (pc' := 43) (L' := [some (.ref 0), some (.int (iz 4)), some (.int (iz 3)), some (.int (iz 3)), some (.int (iz 8)), some (.int (iz 1))]) (st' := [.int (iz 1), .int (iz 3)]) (h' := cmH z zl (uf f 22 od) fl tx) rfl ?_
  refine Rx.eq1 rfl rfl ⟨by omega, by omega⟩ (fun b42 => by omega) (fun b42 => ?_)
  refine Rx.walk 2 (pc' := 51) (L' := [some (.ref 0), some (.int (iz 4)), some (.int (iz 3)), some (.int (iz 3)), some (.int (iz 8)), some (.int (iz 1))]) (st' := [.int (iz 0), .int (iz 3)]) (h' := cmH z zl (uf f 22 od) fl tx) rfl ?_
  refine Rx.iadd rfl ?_
  refine Rx.walk 0 (pc' := 52) (L' := [some (.ref 0), some (.int (iz 4)), some (.int (iz 3)), some (.int (iz 3)), some (.int (iz 8)), some (.int (iz 1))]) (st' := [.int (iz 3)]) (h' := cmH z zl (uf f 22 od) fl tx) rfl ?_
  refine Rx.walk 3 (pc' := 55) (L' := [some (.ref 0), some (.int (iz 4)), some (.int (iz 3)), some (.int (iz 3)), some (.int (iz 8)), some (.int (iz 1))]) (st' := [.int (iz 1), .int (iz 3)]) (h' := cmH z zl (uf f 22 od) fl tx) rfl ?_
  refine Rx.iadd rfl ?_
  refine Rx.walk 0 (pc' := 56) (L' := [some (.ref 0), some (.int (iz 4)), some (.int (iz 3)), some (.int (iz 3)), some (.int (iz 8)), some (.int (iz 1))]) (st' := [.int (iz 4)]) (h' := cmH z zl (uf f 22 od) fl tx) rfl ?_
  refine Rx.walk 1 (pc' := 57) (L' := [some (.ref 0), some (.int (iz 4)), some (.int (iz 3)), some (.int (iz 3)), some (.int (iz 8)), some (.int (iz 1))]) (st' := [.int (iz 4), .int (iz 4)]) (h' := cmH z zl (uf f 22 od) fl tx) rfl ?_
  refine Rx.irem rfl ⟨by omega, by omega⟩ ⟨by omega, by omega⟩ (by omega) (by omega) ?_
  refine Rx.walk 4 (pc' := 19) (L' := [some (.ref 0), some (.int (iz 4)), some (.int (iz 3)), some (.int (iz 0)), some (.int (iz 8)), some (.int (iz 1))]) (st' := [.int (iz 0), .int (iz 8)]) (h' := cmH z zl (uf f 22 od) fl tx) rfl ?_
  refine Rx.callx (m' := m_X12_has) (as := [.int (iz 8), .int (iz 0)]) (rest := []) rfl (n_has_8_0 _ (cmH z zl (uf f 22 od) fl tx)   ) (fun v43 h44 q45 => ?_)
  obtain ⟨rfl, rfl⟩ := q45
  refine Rx.walk 0 (pc' := 22) (L' := [some (.ref 0), some (.int (iz 4)), some (.int (iz 3)), some (.int (iz 0)), some (.int (iz 8)), some (.int (iz 1))]) (st' := [.int (iz 0)]) (h' := cmH z zl (uf f 22 od) fl tx) rfl ?_
  refine Rx.ne1 rfl rfl ⟨by omega, by omega⟩ (fun b46 => by omega) (fun b46 => ?_)
  refine Rx.walk 4 (pc' := 32) (L' := [some (.ref 0), some (.int (iz 4)), some (.int (iz 3)), some (.int (iz 0)), some (.int (iz 8)), some (.int (iz 1))]) (st' := [.int (iz 1), .ref 22, .int (iz 0)]) (h' := cmH z zl (uf f 22 od) fl tx) rfl ?_
  refine Rx.ial (g := od) rfl rfl (by omega) (by omega) (by omega) ?_
  rw [show (od 1) = 0 from h1]
  refine Rx.eq2 rfl rfl ⟨by omega, by omega⟩ ⟨by omega, by omega⟩ (fun b47 => ?_) (fun b47 => by omega)
  refine Rx.walk 3 (pc' := 66) (L' := [some (.ref 0), some (.int (iz 4)), some (.int (iz 3)), some (.int (iz 0)), some (.int (iz 8)), some (.int (iz 1))]) (st' := [.int (iz 0), .int (iz 1), .int (iz 8)]) (h' := cmH z zl (uf f 22 od) fl tx) rfl ?_
  refine Rx.ishl (c := 1) rfl (by decide) ?_
  refine Rx.ior (c := 9) rfl (by decide) ?_
  refine Rx.walk 1 (pc' := 70) (L' := [some (.ref 0), some (.int (iz 4)), some (.int (iz 3)), some (.int (iz 0)), some (.int (iz 9)), some (.int (iz 1))]) (st' := []) (h' := cmH z zl (uf f 22 od) fl tx) rfl ?_
  refine Rx.iinc (b := 1) rfl rfl rfl ?_
  refine Rx.walk 0 (pc' := 73) (L' := [some (.ref 0), some (.int (iz 4)), some (.int (iz 3)), some (.int (iz 0)), some (.int (iz 9)), some (.int (iz 2))]) (st' := []) (h' := cmH z zl (uf f 22 od) fl tx) rfl ?_
  refine Rx.walk 3 (pc' := 13) (L' := [some (.ref 0), some (.int (iz 4)), some (.int (iz 3)), some (.int (iz 0)), some (.int (iz 9)), some (.int (iz 2))]) (st' := [.int (iz 4), .int (iz 2)]) (h' := cmH z zl (uf f 22 od) fl tx) rfl ?_
  refine Rx.ge2 rfl rfl ⟨by omega, by omega⟩ ⟨by omega, by omega⟩ (fun b48 => by omega) (fun b48 => ?_)
  refine Rx.walk 2 (pc' := 19) (L' := [some (.ref 0), some (.int (iz 4)), some (.int (iz 3)), some (.int (iz 0)), some (.int (iz 9)), some (.int (iz 2))]) (st' := [.int (iz 0), .int (iz 9)]) (h' := cmH z zl (uf f 22 od) fl tx) rfl ?_
  refine Rx.callx (m' := m_X12_has) (as := [.int (iz 9), .int (iz 0)]) (rest := []) rfl (n_has_9_0 _ (cmH z zl (uf f 22 od) fl tx)   ) (fun v49 h50 q51 => ?_)
  obtain ⟨rfl, rfl⟩ := q51
  refine Rx.walk 0 (pc' := 22) (L' := [some (.ref 0), some (.int (iz 4)), some (.int (iz 3)), some (.int (iz 0)), some (.int (iz 9)), some (.int (iz 2))]) (st' := [.int (iz 1)]) (h' := cmH z zl (uf f 22 od) fl tx) rfl ?_
  refine Rx.ne1 rfl rfl ⟨by omega, by omega⟩ (fun b52 => ?_) (fun b52 => by omega)
  refine Rx.walk 3 (pc' := 40) (L' := [some (.ref 0), some (.int (iz 4)), some (.int (iz 3)), some (.int (iz 0)), some (.int (iz 9)), some (.int (iz 2))]) (st' := [.int (iz 0), .int (iz 9), .int (iz 3)]) (h' := cmH z zl (uf f 22 od) fl tx) rfl ?_
  refine Rx.callx (m' := m_X12_has) (as := [.int (iz 9), .int (iz 0)]) (rest := [.int (iz 3)]) rfl (n_has_9_0 _ (cmH z zl (uf f 22 od) fl tx)   ) (fun v53 h54 q55 => ?_)
  obtain ⟨rfl, rfl⟩ := q55
  refine Rx.walk 0 (pc' := 43) (L' := [some (.ref 0), some (.int (iz 4)), some (.int (iz 3)), some (.int (iz 0)), some (.int (iz 9)), some (.int (iz 2))]) (st' := [.int (iz 1), .int (iz 3)]) (h' := cmH z zl (uf f 22 od) fl tx) rfl ?_
  refine Rx.eq1 rfl rfl ⟨by omega, by omega⟩ (fun b56 => by omega) (fun b56 => ?_)
  refine Rx.walk 2 (pc' := 51) (L' := [some (.ref 0), some (.int (iz 4)), some (.int (iz 3)), some (.int (iz 0)), some (.int (iz 9)), some (.int (iz 2))]) (st' := [.int (iz 0), .int (iz 3)]) (h' := cmH z zl (uf f 22 od) fl tx) rfl ?_
  refine Rx.iadd rfl ?_
  refine Rx.walk 0 (pc' := 52) (L' := [some (.ref 0), some (.int (iz 4)), some (.int (iz 3)), some (.int (iz 0)), some (.int (iz 9)), some (.int (iz 2))]) (st' := [.int (iz 3)]) (h' := cmH z zl (uf f 22 od) fl tx) rfl ?_
  refine Rx.walk 3 (pc' := 55) (L' := [some (.ref 0), some (.int (iz 4)), some (.int (iz 3)), some (.int (iz 0)), some (.int (iz 9)), some (.int (iz 2))]) (st' := [.int (iz 1), .int (iz 0)]) (h' := cmH z zl (uf f 22 od) fl tx) rfl ?_
  refine Rx.iadd rfl ?_
  refine Rx.walk 0 (pc' := 56) (L' := [some (.ref 0), some (.int (iz 4)), some (.int (iz 3)), some (.int (iz 0)), some (.int (iz 9)), some (.int (iz 2))]) (st' := [.int (iz 1)]) (h' := cmH z zl (uf f 22 od) fl tx) rfl ?_
  refine Rx.walk 1 (pc' := 57) (L' := [some (.ref 0), some (.int (iz 4)), some (.int (iz 3)), some (.int (iz 0)), some (.int (iz 9)), some (.int (iz 2))]) (st' := [.int (iz 4), .int (iz 1)]) (h' := cmH z zl (uf f 22 od) fl tx) rfl ?_
  refine Rx.irem rfl ⟨by omega, by omega⟩ ⟨by omega, by omega⟩ (by omega) (by omega) ?_
  refine Rx.walk 4 (pc' := 19) (L' := [some (.ref 0), some (.int (iz 4)), some (.int (iz 3)), some (.int (iz 1)), some (.int (iz 9)), some (.int (iz 2))]) (st' := [.int (iz 1), .int (iz 9)]) (h' := cmH z zl (uf f 22 od) fl tx) rfl ?_
  refine Rx.callx (m' := m_X12_has) (as := [.int (iz 9), .int (iz 1)]) (rest := []) rfl (n_has_9_1 _ (cmH z zl (uf f 22 od) fl tx)   ) (fun v57 h58 q59 => ?_)
  obtain ⟨rfl, rfl⟩ := q59
  refine Rx.walk 0 (pc' := 22) (L' := [some (.ref 0), some (.int (iz 4)), some (.int (iz 3)), some (.int (iz 1)), some (.int (iz 9)), some (.int (iz 2))]) (st' := [.int (iz 0)]) (h' := cmH z zl (uf f 22 od) fl tx) rfl ?_
  refine Rx.ne1 rfl rfl ⟨by omega, by omega⟩ (fun b60 => by omega) (fun b60 => ?_)
  refine Rx.walk 4 (pc' := 32) (L' := [some (.ref 0), some (.int (iz 4)), some (.int (iz 3)), some (.int (iz 1)), some (.int (iz 9)), some (.int (iz 2))]) (st' := [.int (iz 2), .ref 22, .int (iz 1)]) (h' := cmH z zl (uf f 22 od) fl tx) rfl ?_
  refine Rx.ial (g := od) rfl rfl (by omega) (by omega) (by omega) ?_
  rw [show (od 2) = 1 from h2]
  refine Rx.eq2 rfl rfl ⟨by omega, by omega⟩ ⟨by omega, by omega⟩ (fun b61 => ?_) (fun b61 => by omega)
  refine Rx.walk 3 (pc' := 66) (L' := [some (.ref 0), some (.int (iz 4)), some (.int (iz 3)), some (.int (iz 1)), some (.int (iz 9)), some (.int (iz 2))]) (st' := [.int (iz 1), .int (iz 1), .int (iz 9)]) (h' := cmH z zl (uf f 22 od) fl tx) rfl ?_
  refine Rx.ishl (c := 2) rfl (by decide) ?_
  refine Rx.ior (c := 11) rfl (by decide) ?_
  refine Rx.walk 1 (pc' := 70) (L' := [some (.ref 0), some (.int (iz 4)), some (.int (iz 3)), some (.int (iz 1)), some (.int (iz 11)), some (.int (iz 2))]) (st' := []) (h' := cmH z zl (uf f 22 od) fl tx) rfl ?_
  refine Rx.iinc (b := 1) rfl rfl rfl ?_
  refine Rx.walk 0 (pc' := 73) (L' := [some (.ref 0), some (.int (iz 4)), some (.int (iz 3)), some (.int (iz 1)), some (.int (iz 11)), some (.int (iz 3))]) (st' := []) (h' := cmH z zl (uf f 22 od) fl tx) rfl ?_
  refine Rx.walk 3 (pc' := 13) (L' := [some (.ref 0), some (.int (iz 4)), some (.int (iz 3)), some (.int (iz 1)), some (.int (iz 11)), some (.int (iz 3))]) (st' := [.int (iz 4), .int (iz 3)]) (h' := cmH z zl (uf f 22 od) fl tx) rfl ?_
  refine Rx.ge2 rfl rfl ⟨by omega, by omega⟩ ⟨by omega, by omega⟩ (fun b62 => by omega) (fun b62 => ?_)
  refine Rx.walk 2 (pc' := 19) (L' := [some (.ref 0), some (.int (iz 4)), some (.int (iz 3)), some (.int (iz 1)), some (.int (iz 11)), some (.int (iz 3))]) (st' := [.int (iz 1), .int (iz 11)]) (h' := cmH z zl (uf f 22 od) fl tx) rfl ?_
  refine Rx.callx (m' := m_X12_has) (as := [.int (iz 11), .int (iz 1)]) (rest := []) rfl (n_has_11_1 _ (cmH z zl (uf f 22 od) fl tx)   ) (fun v63 h64 q65 => ?_)
  obtain ⟨rfl, rfl⟩ := q65
  refine Rx.walk 0 (pc' := 22) (L' := [some (.ref 0), some (.int (iz 4)), some (.int (iz 3)), some (.int (iz 1)), some (.int (iz 11)), some (.int (iz 3))]) (st' := [.int (iz 1)]) (h' := cmH z zl (uf f 22 od) fl tx) rfl ?_
  refine Rx.ne1 rfl rfl ⟨by omega, by omega⟩ (fun b66 => ?_) (fun b66 => by omega)
  refine Rx.walk 3 (pc' := 40) (L' := [some (.ref 0), some (.int (iz 4)), some (.int (iz 3)), some (.int (iz 1)), some (.int (iz 11)), some (.int (iz 3))]) (st' := [.int (iz 1), .int (iz 11), .int (iz 3)]) (h' := cmH z zl (uf f 22 od) fl tx) rfl ?_
  refine Rx.callx (m' := m_X12_has) (as := [.int (iz 11), .int (iz 1)]) (rest := [.int (iz 3)]) rfl (n_has_11_1 _ (cmH z zl (uf f 22 od) fl tx)   ) (fun v67 h68 q69 => ?_)
  obtain ⟨rfl, rfl⟩ := q69
  refine Rx.walk 0 (pc' := 43) (L' := [some (.ref 0), some (.int (iz 4)), some (.int (iz 3)), some (.int (iz 1)), some (.int (iz 11)), some (.int (iz 3))]) (st' := [.int (iz 1), .int (iz 3)]) (h' := cmH z zl (uf f 22 od) fl tx) rfl ?_
  refine Rx.eq1 rfl rfl ⟨by omega, by omega⟩ (fun b70 => by omega) (fun b70 => ?_)
  refine Rx.walk 2 (pc' := 51) (L' := [some (.ref 0), some (.int (iz 4)), some (.int (iz 3)), some (.int (iz 1)), some (.int (iz 11)), some (.int (iz 3))]) (st' := [.int (iz 0), .int (iz 3)]) (h' := cmH z zl (uf f 22 od) fl tx) rfl ?_
  refine Rx.iadd rfl ?_
  refine Rx.walk 0 (pc' := 52) (L' := [some (.ref 0), some (.int (iz 4)), some (.int (iz 3)), some (.int (iz 1)), some (.int (iz 11)), some (.int (iz 3))]) (st' := [.int (iz 3)]) (h' := cmH z zl (uf f 22 od) fl tx) rfl ?_
  refine Rx.walk 3 (pc' := 55) (L' := [some (.ref 0), some (.int (iz 4)), some (.int (iz 3)), some (.int (iz 1)), some (.int (iz 11)), some (.int (iz 3))]) (st' := [.int (iz 1), .int (iz 1)]) (h' := cmH z zl (uf f 22 od) fl tx) rfl ?_
  refine Rx.iadd rfl ?_
  refine Rx.walk 0 (pc' := 56) (L' := [some (.ref 0), some (.int (iz 4)), some (.int (iz 3)), some (.int (iz 1)), some (.int (iz 11)), some (.int (iz 3))]) (st' := [.int (iz 2)]) (h' := cmH z zl (uf f 22 od) fl tx) rfl ?_
  refine Rx.walk 1 (pc' := 57) (L' := [some (.ref 0), some (.int (iz 4)), some (.int (iz 3)), some (.int (iz 1)), some (.int (iz 11)), some (.int (iz 3))]) (st' := [.int (iz 4), .int (iz 2)]) (h' := cmH z zl (uf f 22 od) fl tx) rfl ?_
  refine Rx.irem rfl ⟨by omega, by omega⟩ ⟨by omega, by omega⟩ (by omega) (by omega) ?_
  refine Rx.walk 4 (pc' := 19) (L' := [some (.ref 0), some (.int (iz 4)), some (.int (iz 3)), some (.int (iz 2)), some (.int (iz 11)), some (.int (iz 3))]) (st' := [.int (iz 2), .int (iz 11)]) (h' := cmH z zl (uf f 22 od) fl tx) rfl ?_
  refine Rx.callx (m' := m_X12_has) (as := [.int (iz 11), .int (iz 2)]) (rest := []) rfl (n_has_11_2 _ (cmH z zl (uf f 22 od) fl tx)   ) (fun v71 h72 q73 => ?_)
  obtain ⟨rfl, rfl⟩ := q73
  refine Rx.walk 0 (pc' := 22) (L' := [some (.ref 0), some (.int (iz 4)), some (.int (iz 3)), some (.int (iz 2)), some (.int (iz 11)), some (.int (iz 3))]) (st' := [.int (iz 0)]) (h' := cmH z zl (uf f 22 od) fl tx) rfl ?_
  refine Rx.ne1 rfl rfl ⟨by omega, by omega⟩ (fun b74 => by omega) (fun b74 => ?_)
  refine Rx.walk 4 (pc' := 32) (L' := [some (.ref 0), some (.int (iz 4)), some (.int (iz 3)), some (.int (iz 2)), some (.int (iz 11)), some (.int (iz 3))]) (st' := [.int (iz 3), .ref 22, .int (iz 2)]) (h' := cmH z zl (uf f 22 od) fl tx) rfl ?_
  refine Rx.ial (g := od) rfl rfl (by omega) (by omega) (by omega) ?_
  rw [show (od 3) = 2 from h3]
  refine Rx.eq2 rfl rfl ⟨by omega, by omega⟩ ⟨by omega, by omega⟩ (fun b75 => ?_) (fun b75 => by omega)
  refine Rx.walk 3 (pc' := 66) (L' := [some (.ref 0), some (.int (iz 4)), some (.int (iz 3)), some (.int (iz 2)), some (.int (iz 11)), some (.int (iz 3))]) (st' := [.int (iz 2), .int (iz 1), .int (iz 11)]) (h' := cmH z zl (uf f 22 od) fl tx) rfl ?_
  refine Rx.ishl (c := 4) rfl (by decide) ?_
  refine Rx.ior (c := 15) rfl (by decide) ?_
  refine Rx.walk 1 (pc' := 70) (L' := [some (.ref 0), some (.int (iz 4)), some (.int (iz 3)), some (.int (iz 2)), some (.int (iz 15)), some (.int (iz 3))]) (st' := []) (h' := cmH z zl (uf f 22 od) fl tx) rfl ?_
  refine Rx.iinc (b := 1) rfl rfl rfl ?_
  refine Rx.walk 0 (pc' := 73) (L' := [some (.ref 0), some (.int (iz 4)), some (.int (iz 3)), some (.int (iz 2)), some (.int (iz 15)), some (.int (iz 4))]) (st' := []) (h' := cmH z zl (uf f 22 od) fl tx) rfl ?_
  refine Rx.walk 3 (pc' := 13) (L' := [some (.ref 0), some (.int (iz 4)), some (.int (iz 3)), some (.int (iz 2)), some (.int (iz 15)), some (.int (iz 4))]) (st' := [.int (iz 4), .int (iz 4)]) (h' := cmH z zl (uf f 22 od) fl tx) rfl ?_
  refine Rx.ge2 rfl rfl ⟨by omega, by omega⟩ ⟨by omega, by omega⟩ (fun b76 => ?_) (fun b76 => by omega)
  refine Rx.walk 1 (pc' := 77) (L' := [some (.ref 0), some (.int (iz 4)), some (.int (iz 3)), some (.int (iz 2)), some (.int (iz 15)), some (.int (iz 4))]) (st' := [.int (iz 3)]) (h' := cmH z zl (uf f 22 od) fl tx) rfl ?_
  refine Rx.ret rfl ?_
  exact ⟨rfl, rfl⟩
set_option maxRecDepth 100000 in
set_option maxHeartbeats 4000000 in
theorem m_stepsOf4_19 (d : Nat) (z : Nat → Int) (zl : Nat → Int) (f : Nat → Int → Int) (fl : Nat → Int → Int) (tx : Nat)  (od : Int → Int) (h0 : od 0 = 3) (h1 : od 1 = 0) (h2 : od 2 = 2) (h3 : od 3 = 1) : Rx (d + 1) m_X12_stepsOf 0 (am_ent [.ref 0, .int (iz 4)] 6) [] (cmH z zl (uf f 22 od) fl tx) (fun rv h => rv = some (.int (iz 4)) ∧ h = cmH z zl (uf f 22 od) fl tx) := by
  refine Rx.walk 0 (pc' := 0) (L' := [some (.ref 0), some (.int (iz 4)), none, none, none, none]) (st' := []) (h' := cmH z zl (uf f 22 od) fl tx) rfl ?_
  refine Rx.walk 10 (pc' := 13) (L' := [some (.ref 0), some (.int (iz 4)), some (.int (iz 0)), some (.int (iz 0)), some (.int (iz 0)), some (.int (iz 0))]) (st' := [.int (iz 4), .int (iz 0)]) (h' := cmH z zl (uf f 22 od) fl tx) rfl ?_
  refine Rx.ge2 rfl rfl ⟨by omega, by omega⟩ ⟨by omega, by omega⟩ (fun b1 => by omega) (fun b1 => ?_)
  refine Rx.walk 2 (pc' := 19) (L' := [some (.ref 0), some (.int (iz 4)), some (.int (iz 0)), some (.int (iz 0)), some (.int (iz 0)), some (.int (iz 0))]) (st' := [.int (iz 0), .int (iz 0)]) (h' := cmH z zl (uf f 22 od) fl tx) rfl ?_
  refine Rx.callx (m' := m_X12_has) (as := [.int (iz 0), .int (iz 0)]) (rest := []) rfl (n_has_0_0 _ (cmH z zl (uf f 22 od) fl tx)   ) (fun v2 h3 q4 => ?_)
  obtain ⟨rfl, rfl⟩ := q4
  refine Rx.walk 0 (pc' := 22) (L' := [some (.ref 0), some (.int (iz 4)), some (.int (iz 0)), some (.int (iz 0)), some (.int (iz 0)), some (.int (iz 0))]) (st' := [.int (iz 0)]) (h' := cmH z zl (uf f 22 od) fl tx) rfl ?_
  refine Rx.ne1 rfl rfl ⟨by omega, by omega⟩ (fun b5 => by omega) (fun b5 => ?_)
  refine Rx.walk 4 (pc' := 32) (L' := [some (.ref 0), some (.int (iz 4)), some (.int (iz 0)), some (.int (iz 0)), some (.int (iz 0)), some (.int (iz 0))]) (st' := [.int (iz 0), .ref 22, .int (iz 0)]) (h' := cmH z zl (uf f 22 od) fl tx) rfl ?_
  refine Rx.ial (g := od) rfl rfl (by omega) (by omega) (by omega) ?_
  rw [show (od 0) = 3 from h0]
  refine Rx.eq2 rfl rfl ⟨by omega, by omega⟩ ⟨by omega, by omega⟩ (fun b6 => by omega) (fun b6 => ?_)
  refine Rx.walk 3 (pc' := 40) (L' := [some (.ref 0), some (.int (iz 4)), some (.int (iz 0)), some (.int (iz 0)), some (.int (iz 0)), some (.int (iz 0))]) (st' := [.int (iz 0), .int (iz 0), .int (iz 0)]) (h' := cmH z zl (uf f 22 od) fl tx) rfl ?_
  refine Rx.callx (m' := m_X12_has) (as := [.int (iz 0), .int (iz 0)]) (rest := [.int (iz 0)]) rfl (n_has_0_0 _ (cmH z zl (uf f 22 od) fl tx)   ) (fun v7 h8 q9 => ?_)
  obtain ⟨rfl, rfl⟩ := q9
  refine Rx.walk 0 (pc' := 43) (L' := [some (.ref 0), some (.int (iz 4)), some (.int (iz 0)), some (.int (iz 0)), some (.int (iz 0)), some (.int (iz 0))]) (st' := [.int (iz 0), .int (iz 0)]) (h' := cmH z zl (uf f 22 od) fl tx) rfl ?_
  refine Rx.eq1 rfl rfl ⟨by omega, by omega⟩ (fun b10 => ?_) (fun b10 => by omega)
  refine Rx.walk 1 (pc' := 51) (L' := [some (.ref 0), some (.int (iz 4)), some (.int (iz 0)), some (.int (iz 0)), some (.int (iz 0)), some (.int (iz 0))]) (st' := [.int (iz 1), .int (iz 0)]) (h' := cmH z zl (uf f 22 od) fl tx) rfl ?_
  refine Rx.iadd rfl ?_
  refine Rx.walk 0 (pc' := 52) (L' := [some (.ref 0), some (.int (iz 4)), some (.int (iz 0)), some (.int (iz 0)), some (.int (iz 0)), some (.int (iz 0))]) (st' := [.int (iz 1)]) (h' := cmH z zl (uf f 22 od) fl tx) rfl ?_
  refine Rx.walk 3 (pc' := 55) (L' := [some (.ref 0), some (.int (iz 4)), some (.int (iz 1)), some (.int (iz 0)), some (.int (iz 0)), some (.int (iz 0))]) (st' := [.int (iz 1), .int (iz 0)]) (h' := cmH z zl (uf f 22 od) fl tx) rfl ?_
  refine Rx.iadd rfl ?_
  refine Rx.walk 0 (pc' := 56) (L' := [some (.ref 0), some (.int (iz 4)), some (.int (iz 1)), some (.int (iz 0)), some (.int (iz 0)), some (.int (iz 0))]) (st' := [.int (iz 1)]) (h' := cmH z zl (uf f 22 od) fl tx) rfl ?_
  refine Rx.walk 1 (pc' := 57) (L' := [some (.ref 0), some (.int (iz 4)), some (.int (iz 1)), some (.int (iz 0)), some (.int (iz 0)), some (.int (iz 0))]) (st' := [.int (iz 4), .int (iz 1)]) (h' := cmH z zl (uf f 22 od) fl tx) rfl ?_
  refine Rx.irem rfl ⟨by omega, by omega⟩ ⟨by omega, by omega⟩ (by omega) (by omega) ?_
  refine Rx.walk 4 (pc' := 19) (L' := [some (.ref 0), some (.int (iz 4)), some (.int (iz 1)), some (.int (iz 1)), some (.int (iz 0)), some (.int (iz 0))]) (st' := [.int (iz 1), .int (iz 0)]) (h' := cmH z zl (uf f 22 od) fl tx) rfl ?_
  refine Rx.callx (m' := m_X12_has) (as := [.int (iz 0), .int (iz 1)]) (rest := []) rfl (n_has_0_1 _ (cmH z zl (uf f 22 od) fl tx)   ) (fun v11 h12 q13 => ?_)
  obtain ⟨rfl, rfl⟩ := q13
  refine Rx.walk 0 (pc' := 22) (L' := [some (.ref 0), some (.int (iz 4)), some (.int (iz 1)), some (.int (iz 1)), some (.int (iz 0)), some (.int (iz 0))]) (st' := [.int (iz 0)]) (h' := cmH z zl (uf f 22 od) fl tx) rfl ?_
  refine Rx.ne1 rfl rfl ⟨by omega, by omega⟩ (fun b14 => by omega) (fun b14 => ?_)
  refine Rx.walk 4 (pc' := 32) (L' := [some (.ref 0), some (.int (iz 4)), some (.int (iz 1)), some (.int (iz 1)), some (.int (iz 0)), some (.int (iz 0))]) (st' := [.int (iz 0), .ref 22, .int (iz 1)]) (h' := cmH z zl (uf f 22 od) fl tx) rfl ?_
  refine Rx.ial (g := od) rfl rfl (by omega) (by omega) (by omega) ?_
  rw [show (od 0) = 3 from h0]
  refine Rx.eq2 rfl rfl ⟨by omega, by omega⟩ ⟨by omega, by omega⟩ (fun b15 => by omega) (fun b15 => ?_)
  refine Rx.walk 3 (pc' := 40) (L' := [some (.ref 0), some (.int (iz 4)), some (.int (iz 1)), some (.int (iz 1)), some (.int (iz 0)), some (.int (iz 0))]) (st' := [.int (iz 1), .int (iz 0), .int (iz 1)]) (h' := cmH z zl (uf f 22 od) fl tx) rfl ?_
  refine Rx.callx (m' := m_X12_has) (as := [.int (iz 0), .int (iz 1)]) (rest := [.int (iz 1)]) rfl (n_has_0_1 _ (cmH z zl (uf f 22 od) fl tx)   ) (fun v16 h17 q18 => ?_)
  obtain ⟨rfl, rfl⟩ := q18
  refine Rx.walk 0 (pc' := 43) (L' := [some (.ref 0), some (.int (iz 4)), some (.int (iz 1)), some (.int (iz 1)), some (.int (iz 0)), some (.int (iz 0))]) (st' := [.int (iz 0), .int (iz 1)]) (h' := cmH z zl (uf f 22 od) fl tx) rfl ?_
  refine Rx.eq1 rfl rfl ⟨by omega, by omega⟩ (fun b19 => ?_) (fun b19 => by omega)
  refine Rx.walk 1 (pc' := 51) (L' := [some (.ref 0), some (.int (iz 4)), some (.int (iz 1)), some (.int (iz 1)), some (.int (iz 0)), some (.int (iz 0))]) (st' := [.int (iz 1), .int (iz 1)]) (h' := cmH z zl (uf f 22 od) fl tx) rfl ?_
  refine Rx.iadd rfl ?_
  refine Rx.walk 0 (pc' := 52) (L' := [some (.ref 0), some (.int (iz 4)), some (.int (iz 1)), some (.int (iz 1)), some (.int (iz 0)), some (.int (iz 0))]) (st' := [.int (iz 2)]) (h' := cmH z zl (uf f 22 od) fl tx) rfl ?_
  refine Rx.walk 3 (pc' := 55) (L' := [some (.ref 0), some (.int (iz 4)), some (.int (iz 2)), some (.int (iz 1)), some (.int (iz 0)), some (.int (iz 0))]) (st' := [.int (iz 1), .int (iz 1)]) (h' := cmH z zl (uf f 22 od) fl tx) rfl ?_
  refine Rx.iadd rfl ?_
  refine Rx.walk 0 (pc' := 56) (L' := [some (.ref 0), some (.int (iz 4)), some (.int (iz 2)), some (.int (iz 1)), some (.int (iz 0)), some (.int (iz 0))]) (st' := [.int (iz 2)]) (h' := cmH z zl (uf f 22 od) fl tx) rfl ?_
  refine Rx.walk 1 (pc' := 57) (L' := [some (.ref 0), some (.int (iz 4)), some (.int (iz 2)), some (.int (iz 1)), some (.int (iz 0)), some (.int (iz 0))]) (st' := [.int (iz 4), .int (iz 2)]) (h' := cmH z zl (uf f 22 od) fl tx) rfl ?_
  refine Rx.irem rfl ⟨by omega, by omega⟩ ⟨by omega, by omega⟩ (by omega) (by omega) ?_
  refine Rx.walk 4 (pc' := 19) (L' := [some (.ref 0), some (.int (iz 4)), some (.int (iz 2)), some (.int (iz 2)), some (.int (iz 0)), some (.int (iz 0))]) (st' := [.int (iz 2), .int (iz 0)]) (h' := cmH z zl (uf f 22 od) fl tx) rfl ?_
  refine Rx.callx (m' := m_X12_has) (as := [.int (iz 0), .int (iz 2)]) (rest := []) rfl (n_has_0_2 _ (cmH z zl (uf f 22 od) fl tx)   ) (fun v20 h21 q22 => ?_)
  obtain ⟨rfl, rfl⟩ := q22
  refine Rx.walk 0 (pc' := 22) (L' := [some (.ref 0), some (.int (iz 4)), some (.int (iz 2)), some (.int (iz 2)), some (.int (iz 0)), some (.int (iz 0))]) (st' := [.int (iz 0)]) (h' := cmH z zl (uf f 22 od) fl tx) rfl ?_
  refine Rx.ne1 rfl rfl ⟨by omega, by omega⟩ (fun b23 => by omega) (fun b23 => ?_)
  refine Rx.walk 4 (pc' := 32) (L' := [some (.ref 0), some (.int (iz 4)), some (.int (iz 2)), some (.int (iz 2)), some (.int (iz 0)), some (.int (iz 0))]) (st' := [.int (iz 0), .ref 22, .int (iz 2)]) (h' := cmH z zl (uf f 22 od) fl tx) rfl ?_
  refine Rx.ial (g := od) rfl rfl (by omega) (by omega) (by omega) ?_
  rw [show (od 0) = 3 from h0]
  refine Rx.eq2 rfl rfl ⟨by omega, by omega⟩ ⟨by omega, by omega⟩ (fun b24 => by omega) (fun b24 => ?_)
  refine Rx.walk 3 (pc' := 40) (L' := [some (.ref 0), some (.int (iz 4)), some (.int (iz 2)), some (.int (iz 2)), some (.int (iz 0)), some (.int (iz 0))]) (st' := [.int (iz 2), .int (iz 0), .int (iz 2)]) (h' := cmH z zl (uf f 22 od) fl tx) rfl ?_
  refine Rx.callx (m' := m_X12_has) (as := [.int (iz 0), .int (iz 2)]) (rest := [.int (iz 2)]) rfl (n_has_0_2 _ (cmH z zl (uf f 22 od) fl tx)   ) (fun v25 h26 q27 => ?_)
  obtain ⟨rfl, rfl⟩ := q27
  refine Rx.walk 0 (pc' := 43) (L' := [some (.ref 0), some (.int (iz 4)), some (.int (iz 2)), some (.int (iz 2)), some (.int (iz 0)), some (.int (iz 0))]) (st' := [.int (iz 0), .int (iz 2)]) (h' := cmH z zl (uf f 22 od) fl tx) rfl ?_
  refine Rx.eq1 rfl rfl ⟨by omega, by omega⟩ (fun b28 => ?_) (fun b28 => by omega)
  refine Rx.walk 1 (pc' := 51) (L' := [some (.ref 0), some (.int (iz 4)), some (.int (iz 2)), some (.int (iz 2)), some (.int (iz 0)), some (.int (iz 0))]) (st' := [.int (iz 1), .int (iz 2)]) (h' := cmH z zl (uf f 22 od) fl tx) rfl ?_
  refine Rx.iadd rfl ?_
  refine Rx.walk 0 (pc' := 52) (L' := [some (.ref 0), some (.int (iz 4)), some (.int (iz 2)), some (.int (iz 2)), some (.int (iz 0)), some (.int (iz 0))]) (st' := [.int (iz 3)]) (h' := cmH z zl (uf f 22 od) fl tx) rfl ?_
  refine Rx.walk 3 (pc' := 55) (L' := [some (.ref 0), some (.int (iz 4)), some (.int (iz 3)), some (.int (iz 2)), some (.int (iz 0)), some (.int (iz 0))]) (st' := [.int (iz 1), .int (iz 2)]) (h' := cmH z zl (uf f 22 od) fl tx) rfl ?_
  refine Rx.iadd rfl ?_
  refine Rx.walk 0 (pc' := 56) (L' := [some (.ref 0), some (.int (iz 4)), some (.int (iz 3)), some (.int (iz 2)), some (.int (iz 0)), some (.int (iz 0))]) (st' := [.int (iz 3)]) (h' := cmH z zl (uf f 22 od) fl tx) rfl ?_
  refine Rx.walk 1 (pc' := 57) (L' := [some (.ref 0), some (.int (iz 4)), some (.int (iz 3)), some (.int (iz 2)), some (.int (iz 0)), some (.int (iz 0))]) (st' := [.int (iz 4), .int (iz 3)]) (h' := cmH z zl (uf f 22 od) fl tx) rfl ?_
  refine Rx.irem rfl ⟨by omega, by omega⟩ ⟨by omega, by omega⟩ (by omega) (by omega) ?_
  refine Rx.walk 4 (pc' := 19) (L' := [some (.ref 0), some (.int (iz 4)), some (.int (iz 3)), some (.int (iz 3)), some (.int (iz 0)), some (.int (iz 0))]) (st' := [.int (iz 3), .int (iz 0)]) (h' := cmH z zl (uf f 22 od) fl tx) rfl ?_
  refine Rx.callx (m' := m_X12_has) (as := [.int (iz 0), .int (iz 3)]) (rest := []) rfl (n_has_0_3 _ (cmH z zl (uf f 22 od) fl tx)   ) (fun v29 h30 q31 => ?_)
  obtain ⟨rfl, rfl⟩ := q31
  refine Rx.walk 0 (pc' := 22) (L' := [some (.ref 0), some (.int (iz 4)), some (.int (iz 3)), some (.int (iz 3)), some (.int (iz 0)), some (.int (iz 0))]) (st' := [.int (iz 0)]) (h' := cmH z zl (uf f 22 od) fl tx) rfl ?_
  refine Rx.ne1 rfl rfl ⟨by omega, by omega⟩ (fun b32 => by omega) (fun b32 => ?_)
  refine Rx.walk 4 (pc' := 32) (L' := [some (.ref 0), some (.int (iz 4)), some (.int (iz 3)), some (.int (iz 3)), some (.int (iz 0)), some (.int (iz 0))]) (st' := [.int (iz 0), .ref 22, .int (iz 3)]) (h' := cmH z zl (uf f 22 od) fl tx) rfl ?_
  refine Rx.ial (g := od) rfl rfl (by omega) (by omega) (by omega) ?_
  rw [show (od 0) = 3 from h0]
  refine Rx.eq2 rfl rfl ⟨by omega, by omega⟩ ⟨by omega, by omega⟩ (fun b33 => ?_) (fun b33 => by omega)
  refine Rx.walk 3 (pc' := 66) (L' := [some (.ref 0), some (.int (iz 4)), some (.int (iz 3)), some (.int (iz 3)), some (.int (iz 0)), some (.int (iz 0))]) (st' := [.int (iz 3), .int (iz 1), .int (iz 0)]) (h' := cmH z zl (uf f 22 od) fl tx) rfl ?_
  refine Rx.ishl (c := 8) rfl (by decide) ?_
  refine Rx.ior (c := 8) rfl (by decide) ?_
  refine Rx.walk 1 (pc' := 70) (L' := [some (.ref 0), some (.int (iz 4)), some (.int (iz 3)), some (.int (iz 3)), some (.int (iz 8)), some (.int (iz 0))]) (st' := []) (h' := cmH z zl (uf f 22 od) fl tx) rfl ?_
  refine Rx.iinc (b := 1) rfl rfl rfl ?_
  refine Rx.walk 0 (pc' := 73) (L' := [some (.ref 0), some (.int (iz 4)), some (.int (iz 3)), some (.int (iz 3)), some (.int (iz 8)), some (.int (iz 1))]) (st' := []) (h' := cmH z zl (uf f 22 od) fl tx) rfl ?_
  refine Rx.walk 3 (pc' := 13) (L' := [some (.ref 0), some (.int (iz 4)), some (.int (iz 3)), some (.int (iz 3)), some (.int (iz 8)), some (.int (iz 1))]) (st' := [.int (iz 4), .int (iz 1)]) (h' := cmH z zl (uf f 22 od) fl tx) rfl ?_
  refine Rx.ge2 rfl rfl ⟨by omega, by omega⟩ ⟨by omega, by omega⟩ (fun b34 => by omega) (fun b34 => ?_)
  refine Rx.walk 2 (pc' := 19) (L' := [some (.ref 0), some (.int (iz 4)), some (.int (iz 3)), some (.int (iz 3)), some (.int (iz 8)), some (.int (iz 1))]) (st' := [.int (iz 3), .int (iz 8)]) (h' := cmH z zl (uf f 22 od) fl tx) rfl ?_
  refine Rx.callx (m' := m_X12_has) (as := [.int (iz 8), .int (iz 3)]) (rest := []) rfl (n_has_8_3 _ (cmH z zl (uf f 22 od) fl tx)   ) (fun v35 h36 q37 => ?_)
  obtain ⟨rfl, rfl⟩ := q37
  refine Rx.walk 0 (pc' := 22) (L' := [some (.ref 0), some (.int (iz 4)), some (.int (iz 3)), some (.int (iz 3)), some (.int (iz 8)), some (.int (iz 1))]) (st' := [.int (iz 1)]) (h' := cmH z zl (uf f 22 od) fl tx) rfl ?_
  refine Rx.ne1 rfl rfl ⟨by omega, by omega⟩ (fun b38 => ?_) (fun b38 => by omega)
  refine Rx.walk 3 (pc' := 40) (L' := [some (.ref 0), some (.int (iz 4)), some (.int (iz 3)), some (.int (iz 3)), some (.int (iz 8)), some (.int (iz 1))]) (st' := [.int (iz 3), .int (iz 8), .int (iz 3)]) (h' := cmH z zl (uf f 22 od) fl tx) rfl ?_
  refine Rx.callx (m' := m_X12_has) (as := [.int (iz 8), .int (iz 3)]) (rest := [.int (iz 3)]) rfl (n_has_8_3 _ (cmH z zl (uf f 22 od) fl tx)   ) (fun v39 h40 q41 => ?_)
  obtain ⟨rfl, rfl⟩ := q41
  refine Rx.walk 0 (pc' := 43) (L' := [some (.ref 0), some (.int (iz 4)), some (.int (iz 3)), some (.int (iz 3)), some (.int (iz 8)), some (.int (iz 1))]) (st' := [.int (iz 1), .int (iz 3)]) (h' := cmH z zl (uf f 22 od) fl tx) rfl ?_
  refine Rx.eq1 rfl rfl ⟨by omega, by omega⟩ (fun b42 => by omega) (fun b42 => ?_)
  refine Rx.walk 2 (pc' := 51) (L' := [some (.ref 0), some (.int (iz 4)), some (.int (iz 3)), some (.int (iz 3)), some (.int (iz 8)), some (.int (iz 1))]) (st' := [.int (iz 0), .int (iz 3)]) (h' := cmH z zl (uf f 22 od) fl tx) rfl ?_
  refine Rx.iadd rfl ?_
  refine Rx.walk 0 (pc' := 52) (L' := [some (.ref 0), some (.int (iz 4)), some (.int (iz 3)), some (.int (iz 3)), some (.int (iz 8)), some (.int (iz 1))]) (st' := [.int (iz 3)]) (h' := cmH z zl (uf f 22 od) fl tx) rfl ?_
  refine Rx.walk 3 (pc' := 55) (L' := [some (.ref 0), some (.int (iz 4)), some (.int (iz 3)), some (.int (iz 3)), some (.int (iz 8)), some (.int (iz 1))]) (st' := [.int (iz 1), .int (iz 3)]) (h' := cmH z zl (uf f 22 od) fl tx) rfl ?_
  refine Rx.iadd rfl ?_
  refine Rx.walk 0 (pc' := 56) (L' := [some (.ref 0), some (.int (iz 4)), some (.int (iz 3)), some (.int (iz 3)), some (.int (iz 8)), some (.int (iz 1))]) (st' := [.int (iz 4)]) (h' := cmH z zl (uf f 22 od) fl tx) rfl ?_
  refine Rx.walk 1 (pc' := 57) (L' := [some (.ref 0), some (.int (iz 4)), some (.int (iz 3)), some (.int (iz 3)), some (.int (iz 8)), some (.int (iz 1))]) (st' := [.int (iz 4), .int (iz 4)]) (h' := cmH z zl (uf f 22 od) fl tx) rfl ?_
  refine Rx.irem rfl ⟨by omega, by omega⟩ ⟨by omega, by omega⟩ (by omega) (by omega) ?_
  refine Rx.walk 4 (pc' := 19) (L' := [some (.ref 0), some (.int (iz 4)), some (.int (iz 3)), some (.int (iz 0)), some (.int (iz 8)), some (.int (iz 1))]) (st' := [.int (iz 0), .int (iz 8)]) (h' := cmH z zl (uf f 22 od) fl tx) rfl ?_
  refine Rx.callx (m' := m_X12_has) (as := [.int (iz 8), .int (iz 0)]) (rest := []) rfl (n_has_8_0 _ (cmH z zl (uf f 22 od) fl tx)   ) (fun v43 h44 q45 => ?_)
  obtain ⟨rfl, rfl⟩ := q45
  refine Rx.walk 0 (pc' := 22) (L' := [some (.ref 0), some (.int (iz 4)), some (.int (iz 3)), some (.int (iz 0)), some (.int (iz 8)), some (.int (iz 1))]) (st' := [.int (iz 0)]) (h' := cmH z zl (uf f 22 od) fl tx) rfl ?_
  refine Rx.ne1 rfl rfl ⟨by omega, by omega⟩ (fun b46 => by omega) (fun b46 => ?_)
  refine Rx.walk 4 (pc' := 32) (L' := [some (.ref 0), some (.int (iz 4)), some (.int (iz 3)), some (.int (iz 0)), some (.int (iz 8)), some (.int (iz 1))]) (st' := [.int (iz 1), .ref 22, .int (iz 0)]) (h' := cmH z zl (uf f 22 od) fl tx) rfl ?_
  refine Rx.ial (g := od) rfl rfl (by omega) (by omega) (by omega) ?_
  rw [show (od 1) = 0 from h1]
  refine Rx.eq2 rfl rfl ⟨by omega, by omega⟩ ⟨by omega, by omega⟩ (fun b47 => ?_) (fun b47 => by omega)
  refine Rx.walk 3 (pc' := 66) (L' := [some (.ref 0), some (.int (iz 4)), some (.int (iz 3)), some (.int (iz 0)), some (.int (iz 8)), some (.int (iz 1))]) (st' := [.int (iz 0), .int (iz 1), .int (iz 8)]) (h' := cmH z zl (uf f 22 od) fl tx) rfl ?_
  refine Rx.ishl (c := 1) rfl (by decide) ?_
  refine Rx.ior (c := 9) rfl (by decide) ?_
  refine Rx.walk 1 (pc' := 70) (L' := [some (.ref 0), some (.int (iz 4)), some (.int (iz 3)), some (.int (iz 0)), some (.int (iz 9)), some (.int (iz 1))]) (st' := []) (h' := cmH z zl (uf f 22 od) fl tx) rfl ?_
  refine Rx.iinc (b := 1) rfl rfl rfl ?_
  refine Rx.walk 0 (pc' := 73) (L' := [some (.ref 0), some (.int (iz 4)), some (.int (iz 3)), some (.int (iz 0)), some (.int (iz 9)), some (.int (iz 2))]) (st' := []) (h' := cmH z zl (uf f 22 od) fl tx) rfl ?_
  refine Rx.walk 3 (pc' := 13) (L' := [some (.ref 0), some (.int (iz 4)), some (.int (iz 3)), some (.int (iz 0)), some (.int (iz 9)), some (.int (iz 2))]) (st' := [.int (iz 4), .int (iz 2)]) (h' := cmH z zl (uf f 22 od) fl tx) rfl ?_
  refine Rx.ge2 rfl rfl ⟨by omega, by omega⟩ ⟨by omega, by omega⟩ (fun b48 => by omega) (fun b48 => ?_)
  refine Rx.walk 2 (pc' := 19) (L' := [some (.ref 0), some (.int (iz 4)), some (.int (iz 3)), some (.int (iz 0)), some (.int (iz 9)), some (.int (iz 2))]) (st' := [.int (iz 0), .int (iz 9)]) (h' := cmH z zl (uf f 22 od) fl tx) rfl ?_
  refine Rx.callx (m' := m_X12_has) (as := [.int (iz 9), .int (iz 0)]) (rest := []) rfl (n_has_9_0 _ (cmH z zl (uf f 22 od) fl tx)   ) (fun v49 h50 q51 => ?_)
  obtain ⟨rfl, rfl⟩ := q51
  refine Rx.walk 0 (pc' := 22) (L' := [some (.ref 0), some (.int (iz 4)), some (.int (iz 3)), some (.int (iz 0)), some (.int (iz 9)), some (.int (iz 2))]) (st' := [.int (iz 1)]) (h' := cmH z zl (uf f 22 od) fl tx) rfl ?_
  refine Rx.ne1 rfl rfl ⟨by omega, by omega⟩ (fun b52 => ?_) (fun b52 => by omega)
  refine Rx.walk 3 (pc' := 40) (L' := [some (.ref 0), some (.int (iz 4)), some (.int (iz 3)), some (.int (iz 0)), some (.int (iz 9)), some (.int (iz 2))]) (st' := [.int (iz 0), .int (iz 9), .int (iz 3)]) (h' := cmH z zl (uf f 22 od) fl tx) rfl ?_
  refine Rx.callx (m' := m_X12_has) (as := [.int (iz 9), .int (iz 0)]) (rest := [.int (iz 3)]) rfl (n_has_9_0 _ (cmH z zl (uf f 22 od) fl tx)   ) (fun v53 h54 q55 => ?_)
  obtain ⟨rfl, rfl⟩ := q55
  refine Rx.walk 0 (pc' := 43) (L' := [some (.ref 0), some (.int (iz 4)), some (.int (iz 3)), some (.int (iz 0)), some (.int (iz 9)), some (.int (iz 2))]) (st' := [.int (iz 1), .int (iz 3)]) (h' := cmH z zl (uf f 22 od) fl tx) rfl ?_
  refine Rx.eq1 rfl rfl ⟨by omega, by omega⟩ (fun b56 => by omega) (fun b56 => ?_)
  refine Rx.walk 2 (pc' := 51) (L' := [some (.ref 0), some (.int (iz 4)), some (.int (iz 3)), some (.int (iz 0)), some (.int (iz 9)), some (.int (iz 2))]) (st' := [.int (iz 0), .int (iz 3)]) (h' := cmH z zl (uf f 22 od) fl tx) rfl ?_
  refine Rx.iadd rfl ?_
  refine Rx.walk 0 (pc' := 52) (L' := [some (.ref 0), some (.int (iz 4)), some (.int (iz 3)), some (.int (iz 0)), some (.int (iz 9)), some (.int (iz 2))]) (st' := [.int (iz 3)]) (h' := cmH z zl (uf f 22 od) fl tx) rfl ?_
  refine Rx.walk 3 (pc' := 55) (L' := [some (.ref 0), some (.int (iz 4)), some (.int (iz 3)), some (.int (iz 0)), some (.int (iz 9)), some (.int (iz 2))]) (st' := [.int (iz 1), .int (iz 0)]) (h' := cmH z zl (uf f 22 od) fl tx) rfl ?_
  refine Rx.iadd rfl ?_
  refine Rx.walk 0 (pc' := 56) (L' := [some (.ref 0), some (.int (iz 4)), some (.int (iz 3)), some (.int (iz 0)), some (.int (iz 9)), some (.int (iz 2))]) (st' := [.int (iz 1)]) (h' := cmH z zl (uf f 22 od) fl tx) rfl ?_
  refine Rx.walk 1 (pc' := 57) (L' := [some (.ref 0), some (.int (iz 4)), some (.int (iz 3)), some (.int (iz 0)), some (.int (iz 9)), some (.int (iz 2))]) (st' := [.int (iz 4), .int (iz 1)]) (h' := cmH z zl (uf f 22 od) fl tx) rfl ?_
  refine Rx.irem rfl ⟨by omega, by omega⟩ ⟨by omega, by omega⟩ (by omega) (by omega) ?_
  refine Rx.walk 4 (pc' := 19) (L' := [some (.ref 0), some (.int (iz 4)), some (.int (iz 3)), some (.int (iz 1)), some (.int (iz 9)), some (.int (iz 2))]) (st' := [.int (iz 1), .int (iz 9)]) (h' := cmH z zl (uf f 22 od) fl tx) rfl ?_
  refine Rx.callx (m' := m_X12_has) (as := [.int (iz 9), .int (iz 1)]) (rest := []) rfl (n_has_9_1 _ (cmH z zl (uf f 22 od) fl tx)   ) (fun v57 h58 q59 => ?_)
  obtain ⟨rfl, rfl⟩ := q59
  refine Rx.walk 0 (pc' := 22) (L' := [some (.ref 0), some (.int (iz 4)), some (.int (iz 3)), some (.int (iz 1)), some (.int (iz 9)), some (.int (iz 2))]) (st' := [.int (iz 0)]) (h' := cmH z zl (uf f 22 od) fl tx) rfl ?_
  refine Rx.ne1 rfl rfl ⟨by omega, by omega⟩ (fun b60 => by omega) (fun b60 => ?_)
  refine Rx.walk 4 (pc' := 32) (L' := [some (.ref 0), some (.int (iz 4)), some (.int (iz 3)), some (.int (iz 1)), some (.int (iz 9)), some (.int (iz 2))]) (st' := [.int (iz 2), .ref 22, .int (iz 1)]) (h' := cmH z zl (uf f 22 od) fl tx) rfl ?_
  refine Rx.ial (g := od) rfl rfl (by omega) (by omega) (by omega) ?_
  rw [show (od 2) = 2 from h2]
  refine Rx.eq2 rfl rfl ⟨by omega, by omega⟩ ⟨by omega, by omega⟩ (fun b61 => by omega) (fun b61 => ?_)
  refine Rx.walk 3 (pc' := 40) (L' := [some (.ref 0), some (.int (iz 4)), some (.int (iz 3)), some (.int (iz 1)), some (.int (iz 9)), some (.int (iz 2))]) (st' := [.int (iz 1), .int (iz 9), .int (iz 3)]) (h' := cmH z zl (uf f 22 od) fl tx) rfl ?_
  refine Rx.callx (m' := m_X12_has) (as := [.int (iz 9), .int (iz 1)]) (rest := [.int (iz 3)]) rfl (n_has_9_1 _ (cmH z zl (uf f 22 od) fl tx)   ) (fun v62 h63 q64 => ?_)
  obtain ⟨rfl, rfl⟩ := q64
  refine Rx.walk 0 (pc' := 43) (L' := [some (.ref 0), some (.int (iz 4)), some (.int (iz 3)), some (.int (iz 1)), some (.int (iz 9)), some (.int (iz 2))]) (st' := [.int (iz 0), .int (iz 3)]) (h' := cmH z zl (uf f 22 od) fl tx) rfl ?_
  refine Rx.eq1 rfl rfl ⟨by omega, by omega⟩ (fun b65 => ?_) (fun b65 => by omega)
  refine Rx.walk 1 (pc' := 51) (L' := [some (.ref 0), some (.int (iz 4)), some (.int (iz 3)), some (.int (iz 1)), some (.int (iz 9)), some (.int (iz 2))]) (st' := [.int (iz 1), .int (iz 3)]) (h' := cmH z zl (uf f 22 od) fl tx) rfl ?_
  refine Rx.iadd rfl ?_
  refine Rx.walk 0 (pc' := 52) (L' := [some (.ref 0), some (.int (iz 4)), some (.int (iz 3)), some (.int (iz 1)), some (.int (iz 9)), some (.int (iz 2))]) (st' := [.int (iz 4)]) (h' := cmH z zl (uf f 22 od) fl tx) rfl ?_
  refine Rx.walk 3 (pc' := 55) (L' := [some (.ref 0), some (.int (iz 4)), some (.int (iz 4)), some (.int (iz 1)), some (.int (iz 9)), some (.int (iz 2))]) (st' := [.int (iz 1), .int (iz 1)]) (h' := cmH z zl (uf f 22 od) fl tx) rfl ?_
  refine Rx.iadd rfl ?_
  refine Rx.walk 0 (pc' := 56) (L' := [some (.ref 0), some (.int (iz 4)), some (.int (iz 4)), some (.int (iz 1)), some (.int (iz 9)), some (.int (iz 2))]) (st' := [.int (iz 2)]) (h' := cmH z zl (uf f 22 od) fl tx) rfl ?_
  refine Rx.walk 1 (pc' := 57) (L' := [some (.ref 0), some (.int (iz 4)), some (.int (iz 4)), some (.int (iz 1)), some (.int (iz 9)), some (.int (iz 2))]) (st' := [.int (iz 4), .int (iz 2)]) (h' := cmH z zl (uf f 22 od) fl tx) rfl ?_
  refine Rx.irem rfl ⟨by omega, by omega⟩ ⟨by omega, by omega⟩ (by omega) (by omega) ?_
  refine Rx.walk 4 (pc' := 19) (L' := [some (.ref 0), some (.int (iz 4)), some (.int (iz 4)), some (.int (iz 2)), some (.int (iz 9)), some (.int (iz 2))]) (st' := [.int (iz 2), .int (iz 9)]) (h' := cmH z zl (uf f 22 od) fl tx) rfl ?_
  refine Rx.callx (m' := m_X12_has) (as := [.int (iz 9), .int (iz 2)]) (rest := []) rfl (n_has_9_2 _ (cmH z zl (uf f 22 od) fl tx)   ) (fun v66 h67 q68 => ?_)
  obtain ⟨rfl, rfl⟩ := q68
  refine Rx.walk 0 (pc' := 22) (L' := [some (.ref 0), some (.int (iz 4)), some (.int (iz 4)), some (.int (iz 2)), some (.int (iz 9)), some (.int (iz 2))]) (st' := [.int (iz 0)]) (h' := cmH z zl (uf f 22 od) fl tx) rfl ?_
  refine Rx.ne1 rfl rfl ⟨by omega, by omega⟩ (fun b69 => by omega) (fun b69 => ?_)
  refine Rx.walk 4 (pc' := 32) (L' := [some (.ref 0), some (.int (iz 4)), some (.int (iz 4)), some (.int (iz 2)), some (.int (iz 9)), some (.int (iz 2))]) (st' := [.int (iz 2), .ref 22, .int (iz 2)]) (h' := cmH z zl (uf f 22 od) fl tx) rfl ?_
  refine Rx.ial (g := od) rfl rfl (by omega) (by omega) (by omega) ?_
  rw [show (od 2) = 2 from h2]
  refine Rx.eq2 rfl rfl ⟨by omega, by omega⟩ ⟨by omega, by omega⟩ (fun b70 => ?_) (fun b70 => by omega)
  refine Rx.walk 3 (pc' := 66) (L' := [some (.ref 0), some (.int (iz 4)), some (.int (iz 4)), some (.int (iz 2)), some (.int (iz 9)), some (.int (iz 2))]) (st' := [.int (iz 2), .int (iz 1), .int (iz 9)]) (h' := cmH z zl (uf f 22 od) fl tx) rfl ?_
  refine Rx.ishl (c := 4) rfl (by decide) ?_
  refine Rx.ior (c := 13) rfl (by decide) ?_
  refine Rx.walk 1 (pc' := 70) (L' := [some (.ref 0), some (.int (iz 4)), some (.int (iz 4)), some (.int (iz 2)), some (.int (iz 13)), some (.int (iz 2))]) (st' := []) (h' := cmH z zl (uf f 22 od) fl tx) rfl ?_
  refine Rx.iinc (b := 1) rfl rfl rfl ?_
  refine Rx.walk 0 (pc' := 73) (L' := [some (.ref 0), some (.int (iz 4)), some (.int (iz 4)), some (.int (iz 2)), some (.int (iz 13)), some (.int (iz 3))]) (st' := []) (h' := cmH z zl (uf f 22 od) fl tx) rfl ?_
  refine Rx.walk 3 (pc' := 13) (L' := [some (.ref 0), some (.int (iz 4)), some (.int (iz 4)), some (.int (iz 2)), some (.int (iz 13)), some (.int (iz 3))]) (st' := [.int (iz 4), .int (iz 3)]) (h' := cmH z zl (uf f 22 od) fl tx) rfl ?_
  refine Rx.ge2 rfl rfl ⟨by omega, by omega⟩ ⟨by omega, by omega⟩ (fun b71 => by omega) (fun b71 => ?_)
  refine Rx.walk 2 (pc' := 19) (L' := [some (.ref 0), some (.int (iz 4)), some (.int (iz 4)), some (.int (iz 2)), some (.int (iz 13)), some (.int (iz 3))]) (st' := [.int (iz 2), .int (iz 13)]) (h' := cmH z zl (uf f 22 od) fl tx) rfl ?_
  refine Rx.callx (m' := m_X12_has) (as := [.int (iz 13), .int (iz 2)]) (rest := []) rfl (n_has_13_2 _ (cmH z zl (uf f 22 od) fl tx)   ) (fun v72 h73 q74 => ?_)
  obtain ⟨rfl, rfl⟩ := q74
  refine Rx.walk 0 (pc' := 22) (L' := [some (.ref 0), some (.int (iz 4)), some (.int (iz 4)), some (.int (iz 2)), some (.int (iz 13)), some (.int (iz 3))]) (st' := [.int (iz 1)]) (h' := cmH z zl (uf f 22 od) fl tx) rfl ?_
  refine Rx.ne1 rfl rfl ⟨by omega, by omega⟩ (fun b75 => ?_) (fun b75 => by omega)
  refine Rx.walk 3 (pc' := 40) (L' := [some (.ref 0), some (.int (iz 4)), some (.int (iz 4)), some (.int (iz 2)), some (.int (iz 13)), some (.int (iz 3))]) (st' := [.int (iz 2), .int (iz 13), .int (iz 4)]) (h' := cmH z zl (uf f 22 od) fl tx) rfl ?_
  refine Rx.callx (m' := m_X12_has) (as := [.int (iz 13), .int (iz 2)]) (rest := [.int (iz 4)]) rfl (n_has_13_2 _ (cmH z zl (uf f 22 od) fl tx)   ) (fun v76 h77 q78 => ?_)
  obtain ⟨rfl, rfl⟩ := q78
  refine Rx.walk 0 (pc' := 43) (L' := [some (.ref 0), some (.int (iz 4)), some (.int (iz 4)), some (.int (iz 2)), some (.int (iz 13)), some (.int (iz 3))]) (st' := [.int (iz 1), .int (iz 4)]) (h' := cmH z zl (uf f 22 od) fl tx) rfl ?_
  refine Rx.eq1 rfl rfl ⟨by omega, by omega⟩ (fun b79 => by omega) (fun b79 => ?_)
  refine Rx.walk 2 (pc' := 51) (L' := [some (.ref 0), some (.int (iz 4)), some (.int (iz 4)), some (.int (iz 2)), some (.int (iz 13)), some (.int (iz 3))]) (st' := [.int (iz 0), .int (iz 4)]) (h' := cmH z zl (uf f 22 od) fl tx) rfl ?_
  refine Rx.iadd rfl ?_
  refine Rx.walk 0 (pc' := 52) (L' := [some (.ref 0), some (.int (iz 4)), some (.int (iz 4)), some (.int (iz 2)), some (.int (iz 13)), some (.int (iz 3))]) (st' := [.int (iz 4)]) (h' := cmH z zl (uf f 22 od) fl tx) rfl ?_
  refine Rx.walk 3 (pc' := 55) (L' := [some (.ref 0), some (.int (iz 4)), some (.int (iz 4)), some (.int (iz 2)), some (.int (iz 13)), some (.int (iz 3))]) (st' := [.int (iz 1), .int (iz 2)]) (h' := cmH z zl (uf f 22 od) fl tx) rfl ?_
  refine Rx.iadd rfl ?_
  refine Rx.walk 0 (pc' := 56) (L' := [some (.ref 0), some (.int (iz 4)), some (.int (iz 4)), some (.int (iz 2)), some (.int (iz 13)), some (.int (iz 3))]) (st' := [.int (iz 3)]) (h' := cmH z zl (uf f 22 od) fl tx) rfl ?_
  refine Rx.walk 1 (pc' := 57) (L' := [some (.ref 0), some (.int (iz 4)), some (.int (iz 4)), some (.int (iz 2)), some (.int (iz 13)), some (.int (iz 3))]) (st' := [.int (iz 4), .int (iz 3)]) (h' := cmH z zl (uf f 22 od) fl tx) rfl ?_
  refine Rx.irem rfl ⟨by omega, by omega⟩ ⟨by omega, by omega⟩ (by omega) (by omega) ?_
  refine Rx.walk 4 (pc' := 19) (L' := [some (.ref 0), some (.int (iz 4)), some (.int (iz 4)), some (.int (iz 3)), some (.int (iz 13)), some (.int (iz 3))]) (st' := [.int (iz 3), .int (iz 13)]) (h' := cmH z zl (uf f 22 od) fl tx) rfl ?_
  refine Rx.callx (m' := m_X12_has) (as := [.int (iz 13), .int (iz 3)]) (rest := []) rfl (n_has_13_3 _ (cmH z zl (uf f 22 od) fl tx)   ) (fun v80 h81 q82 => ?_)
  obtain ⟨rfl, rfl⟩ := q82
  refine Rx.walk 0 (pc' := 22) (L' := [some (.ref 0), some (.int (iz 4)), some (.int (iz 4)), some (.int (iz 3)), some (.int (iz 13)), some (.int (iz 3))]) (st' := [.int (iz 1)]) (h' := cmH z zl (uf f 22 od) fl tx) rfl ?_
  refine Rx.ne1 rfl rfl ⟨by omega, by omega⟩ (fun b83 => ?_) (fun b83 => by omega)
  refine Rx.walk 3 (pc' := 40) (L' := [some (.ref 0), some (.int (iz 4)), some (.int (iz 4)), some (.int (iz 3)), some (.int (iz 13)), some (.int (iz 3))]) (st' := [.int (iz 3), .int (iz 13), .int (iz 4)]) (h' := cmH z zl (uf f 22 od) fl tx) rfl ?_
  refine Rx.callx (m' := m_X12_has) (as := [.int (iz 13), .int (iz 3)]) (rest := [.int (iz 4)]) rfl (n_has_13_3 _ (cmH z zl (uf f 22 od) fl tx)   ) (fun v84 h85 q86 => ?_)
  obtain ⟨rfl, rfl⟩ := q86
  refine Rx.walk 0 (pc' := 43) (L' := [some (.ref 0), some (.int (iz 4)), some (.int (iz 4)), some (.int (iz 3)), some (.int (iz 13)), some (.int (iz 3))]) (st' := [.int (iz 1), .int (iz 4)]) (h' := cmH z zl (uf f 22 od) fl tx) rfl ?_
  refine Rx.eq1 rfl rfl ⟨by omega, by omega⟩ (fun b87 => by omega) (fun b87 => ?_)
  refine Rx.walk 2 (pc' := 51) (L' := [some (.ref 0), some (.int (iz 4)), some (.int (iz 4)), some (.int (iz 3)), some (.int (iz 13)), some (.int (iz 3))]) (st' := [.int (iz 0), .int (iz 4)]) (h' := cmH z zl (uf f 22 od) fl tx) rfl ?_
  refine Rx.iadd rfl ?_
  refine Rx.walk 0 (pc' := 52) (L' := [some (.ref 0), some (.int (iz 4)), some (.int (iz 4)), some (.int (iz 3)), some (.int (iz 13)), some (.int (iz 3))]) (st' := [.int (iz 4)]) (h' := cmH z zl (uf f 22 od) fl tx) rfl ?_
  refine Rx.walk 3 (pc' := 55) (L' := [some (.ref 0), some (.int (iz 4)), some (.int (iz 4)), some (.int (iz 3)), some (.int (iz 13)), some (.int (iz 3))]) (st' := [.int (iz 1), .int (iz 3)]) (h' := cmH z zl (uf f 22 od) fl tx) rfl ?_
  refine Rx.iadd rfl ?_
  refine Rx.walk 0 (pc' := 56) (L' := [some (.ref 0), some (.int (iz 4)), some (.int (iz 4)), some (.int (iz 3)), some (.int (iz 13)), some (.int (iz 3))]) (st' := [.int (iz 4)]) (h' := cmH z zl (uf f 22 od) fl tx) rfl ?_
  refine Rx.walk 1 (pc' := 57) (L' := [some (.ref 0), some (.int (iz 4)), some (.int (iz 4)), some (.int (iz 3)), some (.int (iz 13)), some (.int (iz 3))]) (st' := [.int (iz 4), .int (iz 4)]) (h' := cmH z zl (uf f 22 od) fl tx) rfl ?_
  refine Rx.irem rfl ⟨by omega, by omega⟩ ⟨by omega, by omega⟩ (by omega) (by omega) ?_
  refine Rx.walk 4 (pc' := 19) (L' := [some (.ref 0), some (.int (iz 4)), some (.int (iz 4)), some (.int (iz 0)), some (.int (iz 13)), some (.int (iz 3))]) (st' := [.int (iz 0), .int (iz 13)]) (h' := cmH z zl (uf f 22 od) fl tx) rfl ?_
  refine Rx.callx (m' := m_X12_has) (as := [.int (iz 13), .int (iz 0)]) (rest := []) rfl (n_has_13_0 _ (cmH z zl (uf f 22 od) fl tx)   ) (fun v88 h89 q90 => ?_)
  obtain ⟨rfl, rfl⟩ := q90
  refine Rx.walk 0 (pc' := 22) (L' := [some (.ref 0), some (.int (iz 4)), some (.int (iz 4)), some (.int (iz 0)), some (.int (iz 13)), some (.int (iz 3))]) (st' := [.int (iz 1)]) (h' := cmH z zl (uf f 22 od) fl tx) rfl ?_
  refine Rx.ne1 rfl rfl ⟨by omega, by omega⟩ (fun b91 => ?_) (fun b91 => by omega)
  refine Rx.walk 3 (pc' := 40) (L' := [some (.ref 0), some (.int (iz 4)), some (.int (iz 4)), some (.int (iz 0)), some (.int (iz 13)), some (.int (iz 3))]) (st' := [.int (iz 0), .int (iz 13), .int (iz 4)]) (h' := cmH z zl (uf f 22 od) fl tx) rfl ?_
  refine Rx.callx (m' := m_X12_has) (as := [.int (iz 13), .int (iz 0)]) (rest := [.int (iz 4)]) rfl (n_has_13_0 _ (cmH z zl (uf f 22 od) fl tx)   ) (fun v92 h93 q94 => ?_)
  obtain ⟨rfl, rfl⟩ := q94
  refine Rx.walk 0 (pc' := 43) (L' := [some (.ref 0), some (.int (iz 4)), some (.int (iz 4)), some (.int (iz 0)), some (.int (iz 13)), some (.int (iz 3))]) (st' := [.int (iz 1), .int (iz 4)]) (h' := cmH z zl (uf f 22 od) fl tx) rfl ?_
  refine Rx.eq1 rfl rfl ⟨by omega, by omega⟩ (fun b95 => by omega) (fun b95 => ?_)
  refine Rx.walk 2 (pc' := 51) (L' := [some (.ref 0), some (.int (iz 4)), some (.int (iz 4)), some (.int (iz 0)), some (.int (iz 13)), some (.int (iz 3))]) (st' := [.int (iz 0), .int (iz 4)]) (h' := cmH z zl (uf f 22 od) fl tx) rfl ?_
  refine Rx.iadd rfl ?_
  refine Rx.walk 0 (pc' := 52) (L' := [some (.ref 0), some (.int (iz 4)), some (.int (iz 4)), some (.int (iz 0)), some (.int (iz 13)), some (.int (iz 3))]) (st' := [.int (iz 4)]) (h' := cmH z zl (uf f 22 od) fl tx) rfl ?_
  refine Rx.walk 3 (pc' := 55) (L' := [some (.ref 0), some (.int (iz 4)), some (.int (iz 4)), some (.int (iz 0)), some (.int (iz 13)), some (.int (iz 3))]) (st' := [.int (iz 1), .int (iz 0)]) (h' := cmH z zl (uf f 22 od) fl tx) rfl ?_
  refine Rx.iadd rfl ?_
  refine Rx.walk 0 (pc' := 56) (L' := [some (.ref 0), some (.int (iz 4)), some (.int (iz 4)), some (.int (iz 0)), some (.int (iz 13)), some (.int (iz 3))]) (st' := [.int (iz 1)]) (h' := cmH z zl (uf f 22 od) fl tx) rfl ?_
  refine Rx.walk 1 (pc' := 57) (L' := [some (.ref 0), some (.int (iz 4)), some (.int (iz 4)), some (.int (iz 0)), some (.int (iz 13)), some (.int (iz 3))]) (st' := [.int (iz 4), .int (iz 1)]) (h' := cmH z zl (uf f 22 od) fl tx) rfl ?_
  refine Rx.irem rfl ⟨by omega, by omega⟩ ⟨by omega, by omega⟩ (by omega) (by omega) ?_
  refine Rx.walk 4 (pc' := 19) (L' := [some (.ref 0), some (.int (iz 4)), some (.int (iz 4)), some (.int (iz 1)), some (.int (iz 13)), some (.int (iz 3))]) (st' := [.int (iz 1), .int (iz 13)]) (h' := cmH z zl (uf f 22 od) fl tx) rfl ?_
  refine Rx.callx (m' := m_X12_has) (as := [.int (iz 13), .int (iz 1)]) (rest := []) rfl (n_has_13_1 _ (cmH z zl (uf f 22 od) fl tx)   ) (fun v96 h97 q98 => ?_)
  obtain ⟨rfl, rfl⟩ := q98
  refine Rx.walk 0 (pc' := 22) (L' := [some (.ref 0), some (.int (iz 4)), some (.int (iz 4)), some (.int (iz 1)), some (.int (iz 13)), some (.int (iz 3))]) (st' := [.int (iz 0)]) (h' := cmH z zl (uf f 22 od) fl tx) rfl ?_
  refine Rx.ne1 rfl rfl ⟨by omega, by omega⟩ (fun b99 => by omega) (fun b99 => ?_)
  refine Rx.walk 4 (pc' := 32) (L' := [some (.ref 0), some (.int (iz 4)), some (.int (iz 4)), some (.int (iz 1)), some (.int (iz 13)), some (.int (iz 3))]) (st' := [.int (iz 3), .ref 22, .int (iz 1)]) (h' := cmH z zl (uf f 22 od) fl tx) rfl ?_
  refine Rx.ial (g := od) rfl rfl (by omega) (by omega) (by omega) ?_
  rw [show (od 3) = 1 from h3]
  refine Rx.eq2 rfl rfl ⟨by omega, by omega⟩ ⟨by omega, by omega⟩ (fun b100 => ?_) (fun b100 => by omega)
  refine Rx.walk 3 (pc' := 66) (L' := [some (.ref 0), some (.int (iz 4)), some (.int (iz 4)), some (.int (iz 1)), some (.int (iz 13)), some (.int (iz 3))]) (st' := [.int (iz 1), .int (iz 1), .int (iz 13)]) (h' := cmH z zl (uf f 22 od) fl tx) rfl ?_
  refine Rx.ishl (c := 2) rfl (by decide) ?_
  refine Rx.ior (c := 15) rfl (by decide) ?_
  refine Rx.walk 1 (pc' := 70) (L' := [some (.ref 0), some (.int (iz 4)), some (.int (iz 4)), some (.int (iz 1)), some (.int (iz 15)), some (.int (iz 3))]) (st' := []) (h' := cmH z zl (uf f 22 od) fl tx) rfl ?_
  refine Rx.iinc (b := 1) rfl rfl rfl ?_
  refine Rx.walk 0 (pc' := 73) (L' := [some (.ref 0), some (.int (iz 4)), some (.int (iz 4)), some (.int (iz 1)), some (.int (iz 15)), some (.int (iz 4))]) (st' := []) (h' := cmH z zl (uf f 22 od) fl tx) rfl ?_
  refine Rx.walk 3 (pc' := 13) (L' := [some (.ref 0), some (.int (iz 4)), some (.int (iz 4)), some (.int (iz 1)), some (.int (iz 15)), some (.int (iz 4))]) (st' := [.int (iz 4), .int (iz 4)]) (h' := cmH z zl (uf f 22 od) fl tx) rfl ?_
  refine Rx.ge2 rfl rfl ⟨by omega, by omega⟩ ⟨by omega, by omega⟩ (fun b101 => ?_) (fun b101 => by omega)
  refine Rx.walk 1 (pc' := 77) (L' := [some (.ref 0), some (.int (iz 4)), some (.int (iz 4)), some (.int (iz 1)), some (.int (iz 15)), some (.int (iz 4))]) (st' := [.int (iz 4)]) (h' := cmH z zl (uf f 22 od) fl tx) rfl ?_
  refine Rx.ret rfl ?_
  exact ⟨rfl, rfl⟩
set_option maxRecDepth 100000 in
set_option maxHeartbeats 4000000 in
theorem n_has_8_1 (d : Nat) (h0 : AmH)   : Rx (d) m_X12_has 0 (am_ent [.int (iz 8), .int (iz 1)] 2) [] (h0) (fun rv h => rv = some (.int (iz 0)) ∧ h0 = h) := ⟨_, _, ⟨100, rfl⟩, rfl, rfl⟩
set_option maxRecDepth 100000 in
set_option maxHeartbeats 4000000 in
theorem m_stepsOf4_20 (d : Nat) (z : Nat → Int) (zl : Nat → Int) (f : Nat → Int → Int) (fl : Nat → Int → Int) (tx : Nat)  (od : Int → Int) (h0 : od 0 = 3) (h1 : od 1 = 1) (h2 : od 2 = 0) (h3 : od 3 = 2) : Rx (d + 1) m_X12_stepsOf 0 (am_ent [.ref 0, .int (iz 4)] 6) [] (cmH z zl (uf f 22 od) fl tx) (fun rv h => rv = some (.int (iz 5)) ∧ h = cmH z zl (uf f 22 od) fl tx) := by
  refine Rx.walk 0 (pc' := 0) (L' := [some (.ref 0), some (.int (iz 4)), none, none, none, none]) (st' := []) (h' := cmH z zl (uf f 22 od) fl tx) rfl ?_
  refine Rx.walk 10 (pc' := 13) (L' := [some (.ref 0), some (.int (iz 4)), some (.int (iz 0)), some (.int (iz 0)), some (.int (iz 0)), some (.int (iz 0))]) (st' := [.int (iz 4), .int (iz 0)]) (h' := cmH z zl (uf f 22 od) fl tx) rfl ?_
  refine Rx.ge2 rfl rfl ⟨by omega, by omega⟩ ⟨by omega, by omega⟩ (fun b1 => by omega) (fun b1 => ?_)
  refine Rx.walk 2 (pc' := 19) (L' := [some (.ref 0), some (.int (iz 4)), some (.int (iz 0)), some (.int (iz 0)), some (.int (iz 0)), some (.int (iz 0))]) (st' := [.int (iz 0), .int (iz 0)]) (h' := cmH z zl (uf f 22 od) fl tx) rfl ?_
  refine Rx.callx (m' := m_X12_has) (as := [.int (iz 0), .int (iz 0)]) (rest := []) rfl (n_has_0_0 _ (cmH z zl (uf f 22 od) fl tx)   ) (fun v2 h3 q4 => ?_)
  obtain ⟨rfl, rfl⟩ := q4
  refine Rx.walk 0 (pc' := 22) (L' := [some (.ref 0), some (.int (iz 4)), some (.int (iz 0)), some (.int (iz 0)), some (.int (iz 0)), some (.int (iz 0))]) (st' := [.int (iz 0)]) (h' := cmH z zl (uf f 22 od) fl tx) rfl ?_
  refine Rx.ne1 rfl rfl ⟨by omega, by omega⟩ (fun b5 => by omega) (fun b5 => ?_)
  refine Rx.walk 4 (pc' := 32) (L' := [some (.ref 0), some (.int (iz 4)), some (.int (iz 0)), some (.int (iz 0)), some (.int (iz 0)), some (.int (iz 0))]) (st' := [.int (iz 0), .ref 22, .int (iz 0)]) (h' := cmH z zl (uf f 22 od) fl tx) rfl ?_
  refine Rx.ial (g := od) rfl rfl (by omega) (by omega) (by omega) ?_
  rw [show (od 0) = 3 from h0]
  refine Rx.eq2 rfl rfl ⟨by omega, by omega⟩ ⟨by omega, by omega⟩ (fun b6 => by omega) (fun b6 => ?_)
  refine Rx.walk 3 (pc' := 40) (L' := [some (.ref 0), some (.int (iz 4)), some (.int (iz 0)), some (.int (iz 0)), some (.int (iz 0)), some (.int (iz 0))]) (st' := [.int (iz 0), .int (iz 0), .int (iz 0)]) (h' := cmH z zl (uf f 22 od) fl tx) rfl ?_
  refine Rx.callx (m' := m_X12_has) (as := [.int (iz 0), .int (iz 0)]) (rest := [.int (iz 0)]) rfl (n_has_0_0 _ (cmH z zl (uf f 22 od) fl tx)   ) (fun v7 h8 q9 => ?_)
  obtain ⟨rfl, rfl⟩ := q9
  refine Rx.walk 0 (pc' := 43) (L' := [some (.ref 0), some (.int (iz 4)), some (.int (iz 0)), some (.int (iz 0)), some (.int (iz 0)), some (.int (iz 0))]) (st' := [.int (iz 0), .int (iz 0)]) (h' := cmH z zl (uf f 22 od) fl tx) rfl ?_
  refine Rx.eq1 rfl rfl ⟨by omega, by omega⟩ (fun b10 => ?_) (fun b10 => by omega)
  refine Rx.walk 1 (pc' := 51) (L' := [some (.ref 0), some (.int (iz 4)), some (.int (iz 0)), some (.int (iz 0)), some (.int (iz 0)), some (.int (iz 0))]) (st' := [.int (iz 1), .int (iz 0)]) (h' := cmH z zl (uf f 22 od) fl tx) rfl ?_
  refine Rx.iadd rfl ?_
  refine Rx.walk 0 (pc' := 52) (L' := [some (.ref 0), some (.int (iz 4)), some (.int (iz 0)), some (.int (iz 0)), some (.int (iz 0)), some (.int (iz 0))]) (st' := [.int (iz 1)]) (h' := cmH z zl (uf f 22 od) fl tx) rfl ?_
  refine Rx.walk 3 (pc' := 55) (L' := [some (.ref 0), some (.int (iz 4)), some (.int (iz 1)), some (.int (iz 0)), some (.int (iz 0)), some (.int (iz 0))]) (st' := [.int (iz 1), .int (iz 0)]) (h' := cmH z zl (uf f 22 od) fl tx) rfl ?_
  refine Rx.iadd rfl ?_
  refine Rx.walk 0 (pc' := 56) (L' := [some (.ref 0), some (.int (iz 4)), some (.int (iz 1)), some (.int (iz 0)), some (.int (iz 0)), some (.int (iz 0))]) (st' := [.int (iz 1)]) (h' := cmH z zl (uf f 22 od) fl tx) rfl ?_
  refine Rx.walk 1 (pc' := 57) (L' := [some (.ref 0), some (.int (iz 4)), some (.int (iz 1)), some (.int (iz 0)), some (.int (iz 0)), some (.int (iz 0))]) (st' := [.int (iz 4), .int (iz 1)]) (h' := cmH z zl (uf f 22 od) fl tx) rfl ?_
  refine Rx.irem rfl ⟨by omega, by omega⟩ ⟨by omega, by omega⟩ (by omega) (by omega) ?_
  refine Rx.walk 4 (pc' := 19) (L' := [some (.ref 0), some (.int (iz 4)), some (.int (iz 1)), some (.int (iz 1)), some (.int (iz 0)), some (.int (iz 0))]) (st' := [.int (iz 1), .int (iz 0)]) (h' := cmH z zl (uf f 22 od) fl tx) rfl ?_
  refine Rx.callx (m' := m_X12_has) (as := [.int (iz 0), .int (iz 1)]) (rest := []) rfl (n_has_0_1 _ (cmH z zl (uf f 22 od) fl tx)   ) (fun v11 h12 q13 => ?_)
  obtain ⟨rfl, rfl⟩ := q13
  refine Rx.walk 0 (pc' := 22) (L' := [some (.ref 0), some (.int (iz 4)), some (.int (iz 1)), some (.int (iz 1)), some (.int (iz 0)), some (.int (iz 0))]) (st' := [.int (iz 0)]) (h' := cmH z zl (uf f 22 od) fl tx) rfl ?_
  refine Rx.ne1 rfl rfl ⟨by omega, by omega⟩ (fun b14 => by omega) (fun b14 => ?_)
  refine Rx.walk 4 (pc' := 32) (L' := [some (.ref 0), some (.int (iz 4)), some (.int (iz 1)), some (.int (iz 1)), some (.int (iz 0)), some (.int (iz 0))]) (st' := [.int (iz 0), .ref 22, .int (iz 1)]) (h' := cmH z zl (uf f 22 od) fl tx) rfl ?_
  refine Rx.ial (g := od) rfl rfl (by omega) (by omega) (by omega) ?_
  rw [show (od 0) = 3 from h0]
  refine Rx.eq2 rfl rfl ⟨by omega, by omega⟩ ⟨by omega, by omega⟩ (fun b15 => by omega) (fun b15 => ?_)
  refine Rx.walk 3 (pc' := 40) (L' := [some (.ref 0), some (.int (iz 4)), some (.int (iz 1)), some (.int (iz 1)), some (.int (iz 0)), some (.int (iz 0))]) (st' := [.int (iz 1), .int (iz 0), .int (iz 1)]) (h' := cmH z zl (uf f 22 od) fl tx) rfl ?_
  refine Rx.callx (m' := m_X12_has) (as := [.int (iz 0), .int (iz 1)]) (rest := [.int (iz 1)]) rfl (n_has_0_1 _ (cmH z zl (uf f 22 od) fl tx)   ) (fun v16 h17 q18 => ?_)
  obtain ⟨rfl, rfl⟩ := q18
  refine Rx.walk 0 (pc' := 43) (L' := [some (.ref 0), some (.int (iz 4)), some (.int (iz 1)), some (.int (iz 1)), some (.int (iz 0)), some (.int (iz 0))]) (st' := [.int (iz 0), .int (iz 1)]) (h' := cmH z zl (uf f 22 od) fl tx) rfl ?_
  refine Rx.eq1 rfl rfl ⟨by omega, by omega⟩ (fun b19 => ?_) (fun b19 => by omega)
  refine Rx.walk 1 (pc' := 51) (L' := [some (.ref 0), some (.int (iz 4)), some (.int (iz 1)), some (.int (iz 1)), some (.int (iz 0)), some (.int (iz 0))]) (st' := [.int (iz 1), .int (iz 1)]) (h' := cmH z zl (uf f 22 od) fl tx) rfl ?_
  refine Rx.iadd rfl ?_
  refine Rx.walk 0 (pc' := 52) (L' := [some (.ref 0), some (.int (iz 4)), some (.int (iz 1)), some (.int (iz 1)), some (.int (iz 0)), some (.int (iz 0))]) (st' := [.int (iz 2)]) (h' := cmH z zl (uf f 22 od) fl tx) rfl ?_
  refine Rx.walk 3 (pc' := 55) (L' := [some (.ref 0), some (.int (iz 4)), some (.int (iz 2)), some (.int (iz 1)), some (.int (iz 0)), some (.int (iz 0))]) (st' := [.int (iz 1), .int (iz 1)]) (h' := cmH z zl (uf f 22 od) fl tx) rfl ?_
  refine Rx.iadd rfl ?_
  refine Rx.walk 0 (pc' := 56) (L' := [some (.ref 0), some (.int (iz 4)), some (.int (iz 2)), some (.int (iz 1)), some (.int (iz 0)), some (.int (iz 0))]) (st' := [.int (iz 2)]) (h' := cmH z zl (uf f 22 od) fl tx) rfl ?_
  refine Rx.walk 1 (pc' := 57) (L' := [some (.ref 0), some (.int (iz 4)), some (.int (iz 2)), some (.int (iz 1)), some (.int (iz 0)), some (.int (iz 0))]) (st' := [.int (iz 4), .int (iz 2)]) (h' := cmH z zl (uf f 22 od) fl tx) rfl ?_
  refine Rx.irem rfl ⟨by omega, by omega⟩ ⟨by omega, by omega⟩ (by omega) (by omega) ?_
  refine Rx.walk 4 (pc' := 19) (L' := [some (.ref 0), some (.int (iz 4)), some (.int (iz 2)), some (.int (iz 2)), some (.int (iz 0)), some (.int (iz 0))]) (st' := [.int (iz 2), .int (iz 0)]) (h' := cmH z zl (uf f 22 od) fl tx) rfl ?_
  refine Rx.callx (m' := m_X12_has) (as := [.int (iz 0), .int (iz 2)]) (rest := []) rfl (n_has_0_2 _ (cmH z zl (uf f 22 od) fl tx)   ) (fun v20 h21 q22 => ?_)
  obtain ⟨rfl, rfl⟩ := q22
  refine Rx.walk 0 (pc' := 22) (L' := [some (.ref 0), some (.int (iz 4)), some (.int (iz 2)), some (.int (iz 2)), some (.int (iz 0)), some (.int (iz 0))]) (st' := [.int (iz 0)]) (h' := cmH z zl (uf f 22 od) fl tx) rfl ?_
  refine Rx.ne1 rfl rfl ⟨by omega, by omega⟩ (fun b23 => by omega) (fun b23 => ?_)
  refine Rx.walk 4 (pc' := 32) (L' := [some (.ref 0), some (.int (iz 4)), some (.int (iz 2)), some (.int (iz 2)), some (.int (iz 0)), some (.int (iz 0))]) (st' := [.int (iz 0), .ref 22, .int (iz 2)]) (h' := cmH z zl (uf f 22 od) fl tx) rfl ?_
  refine Rx.ial (g := od) rfl rfl (by omega) (by omega) (by omega) ?_
  rw [show (od 0) = 3 from h0]
  refine Rx.eq2 rfl rfl ⟨by omega, by omega⟩ ⟨by omega, by omega⟩ (fun b24 => by omega) (fun b24 => ?_)
  refine Rx.walk 3 (pc' := 40) (L' := [some (.ref 0), some (.int (iz 4)), some (.int (iz 2)), some (.int (iz 2)), some (.int (iz 0)), some (.int (iz 0))]) (st' := [.int (iz 2), .int (iz 0), .int (iz 2)]) (h' := cmH z zl (uf f 22 od) fl tx) rfl ?_
  refine Rx.callx (m' := m_X12_has) (as := [.int (iz 0), .int (iz 2)]) (rest := [.int (iz 2)]) rfl (n_has_0_2 _ (cmH z zl (uf f 22 od) fl tx)   ) (fun v25 h26 q27 => ?_)
  obtain ⟨rfl, rfl⟩ := q27
  refine Rx.walk 0 (pc' := 43) (L' := [some (.ref 0), some (.int (iz 4)), some (.int (iz 2)), some (.int (iz 2)), some (.int (iz 0)), some (.int (iz 0))]) (st' := [.int (iz 0), .int (iz 2)]) (h' := cmH z zl (uf f 22 od) fl tx) rfl ?_
  refine Rx.eq1 rfl rfl ⟨by omega, by omega⟩ (fun b28 => ?_) (fun b28 => by omega)
  refine Rx.walk 1 (pc' := 51) (L' := [some (.ref 0), some (.int (iz 4)), some (.int (iz 2)), some (.int (iz 2)), some (.int (iz 0)), some (.int (iz 0))]) (st' := [.int (iz 1), .int (iz 2)]) (h' := cmH z zl (uf f 22 od) fl tx) rfl ?_
  refine Rx.iadd rfl ?_
  refine Rx.walk 0 (pc' := 52) (L' := [some (.ref 0), some (.int (iz 4)), some (.int (iz 2)), some (.int (iz 2)), some (.int (iz 0)), some (.int (iz 0))]) (st' := [.int (iz 3)]) (h' := cmH z zl (uf f 22 od) fl tx) rfl ?_
  refine Rx.walk 3 (pc' := 55) (L' := [some (.ref 0), some (.int (iz 4)), some (.int (iz 3)), some (.int (iz 2)), some (.int (iz 0)), some (.int (iz 0))]) (st' := [.int (iz 1), .int (iz 2)]) (h' := cmH z zl (uf f 22 od) fl tx) rfl ?_
  refine Rx.iadd rfl ?_
  refine Rx.walk 0 (pc' := 56) (L' := [some (.ref 0), some (.int (iz 4)), some (.int (iz 3)), some (.int (iz 2)), some (.int (iz 0)), some (.int (iz 0))]) (st' := [.int (iz 3)]) (h' := cmH z zl (uf f 22 od) fl tx) rfl ?_
  refine Rx.walk 1 (pc' := 57) (L' := [some (.ref 0), some (.int (iz 4)), some (.int (iz 3)), some (.int (iz 2)), some (.int (iz 0)), some (.int (iz 0))]) (st' := [.int (iz 4), .int (iz 3)]) (h' := cmH z zl (uf f 22 od) fl tx) rfl ?_
  refine Rx.irem rfl ⟨by omega, by omega⟩ ⟨by omega, by omega⟩ (by omega) (by omega) ?_
  refine Rx.walk 4 (pc' := 19) (L' := [some (.ref 0), some (.int (iz 4)), some (.int (iz 3)), some (.int (iz 3)), some (.int (iz 0)), some (.int (iz 0))]) (st' := [.int (iz 3), .int (iz 0)]) (h' := cmH z zl (uf f 22 od) fl tx) rfl ?_
  refine Rx.callx (m' := m_X12_has) (as := [.int (iz 0), .int (iz 3)]) (rest := []) rfl (n_has_0_3 _ (cmH z zl (uf f 22 od) fl tx)   ) (fun v29 h30 q31 => ?_)
  obtain ⟨rfl, rfl⟩ := q31
  refine Rx.walk 0 (pc' := 22) (L' := [some (.ref 0), some (.int (iz 4)), some (.int (iz 3)), some (.int (iz 3)), some (.int (iz 0)), some (.int (iz 0))]) (st' := [.int (iz 0)]) (h' := cmH z zl (uf f 22 od) fl tx) rfl ?_
  refine Rx.ne1 rfl rfl ⟨by omega, by omega⟩ (fun b32 => by omega) (fun b32 => ?_)
  refine Rx.walk 4 (pc' := 32) (L' := [some (.ref 0), some (.int (iz 4)), some (.int (iz 3)), some (.int (iz 3)), some (.int (iz 0)), some (.int (iz 0))]) (st' := [.int (iz 0), .ref 22, .int (iz 3)]) (h' := cmH z zl (uf f 22 od) fl tx) rfl ?_
  refine Rx.ial (g := od) rfl rfl (by omega) (by omega) (by omega) ?_
  rw [show (od 0) = 3 from h0]
  refine Rx.eq2 rfl rfl ⟨by omega, by omega⟩ ⟨by omega, by omega⟩ (fun b33 => ?_) (fun b33 => by omega)
  refine Rx.walk 3 (pc' := 66) (L' := [some (.ref 0), some (.int (iz 4)), some (.int (iz 3)), some (.int (iz 3)), some (.int (iz 0)), some (.int (iz 0))]) (st' := [.int (iz 3), .int (iz 1), .int (iz 0)]) (h' := cmH z zl (uf f 22 od) fl tx) rfl ?_
  refine Rx.ishl (c := 8) rfl (by decide) ?_
  refine Rx.ior (c := 8) rfl (by decide) ?_
  refine Rx.walk 1 (pc' := 70) (L' := [some (.ref 0), some (.int (iz 4)), some (.int (iz 3)), some (.int (iz 3)), some (.int (iz 8)), some (.int (iz 0))]) (st' := []) (h' := cmH z zl (uf f 22 od) fl tx) rfl ?_
  refine Rx.iinc (b := 1) rfl rfl rfl ?_
  refine Rx.walk 0 (pc' := 73) (L' := [some (.ref 0), some (.int (iz 4)), some (.int (iz 3)), some (.int (iz 3)), some (.int (iz 8)), some (.int (iz 1))]) (st' := []) (h' := cmH z zl (uf f 22 od) fl tx) rfl ?_
  refine Rx.walk 3 (pc' := 13) (L' := [some (.ref 0), some (.int (iz 4)), some (.int (iz 3)), some (.int (iz 3)), some (.int (iz 8)), some (.int (iz 1))]) (st' := [.int (iz 4), .int (iz 1)]) (h' := cmH z zl (uf f 22 od) fl tx) rfl ?_
  refine Rx.ge2 rfl rfl ⟨by omega, by omega⟩ ⟨by omega, by omega⟩ (fun b34 => by omega) (fun b34 => ?_)
  refine Rx.walk 2 (pc' := 19) (L' := [some (.ref 0), some (.int (iz 4)), some (.int (iz 3)), some (.int (iz 3)), some (.int (iz 8)), some (.int (iz 1))]) (st' := [.int (iz 3), .int (iz 8)]) (h' := cmH z zl (uf f 22 od) fl tx) rfl ?_
  refine Rx.callx (m' := m_X12_has) (as := [.int (iz 8), .int (iz 3)]) (rest := []) rfl (n_has_8_3 _ (cmH z zl (uf f 22 od) fl tx)   ) (fun v35 h36 q37 => ?_)
  obtain ⟨rfl, rfl⟩ := q37
  refine Rx.walk 0 (pc' := 22) (L' := [some (.ref 0), some (.int (iz 4)), some (.int (iz 3)), some (.int (iz 3)), some (.int (iz 8)), some (.int (iz 1))]) (st' := [.int (iz 1)]) (h' := cmH z zl (uf f 22 od) fl tx) rfl ?_
  refine Rx.ne1 rfl rfl ⟨by omega, by omega⟩ (fun b38 => ?_) (fun b38 => by omega)
  refine Rx.walk 3 (pc' := 40) (L' := [some (.ref 0), some (.int (iz 4)), some (.int (iz 3)), some (.int (iz 3)), some (.int (iz 8)), some (.int (iz 1))]) (st' := [.int (iz 3), .int (iz 8), .int (iz 3)]) (h' := cmH z zl (uf f 22 od) fl tx) rfl ?_
  refine Rx.callx (m' := m_X12_has) (as := [.int (iz 8), .int (iz 3)]) (rest := [.int (iz 3)]) rfl (n_has_8_3 _ (cmH z zl (uf f 22 od) fl tx)   ) (fun v39 h40 q41 => ?_)
  obtain ⟨rfl, rfl⟩ := q41
  refine Rx.walk 0 (pc' := 43) (L' := [some (.ref 0), some (.int (iz 4)), some (.int (iz 3)), some (.int (iz 3)), some (.int (iz 8)), some (.int (iz 1))]) (st' := [.int (iz 1), .int (iz 3)]) (h' := cmH z zl (uf f 22 od) fl tx) rfl ?_
  refine Rx.eq1 rfl rfl ⟨by omega, by omega⟩ (fun b42 => by omega) (fun b42 => ?_)
  refine Rx.walk 2 (pc' := 51) (L' := [some (.ref 0), some (.int (iz 4)), some (.int (iz 3)), some (.int (iz 3)), some (.int (iz 8)), some (.int (iz 1))]) (st' := [.int (iz 0), .int (iz 3)]) (h' := cmH z zl (uf f 22 od) fl tx) rfl ?_
  refine Rx.iadd rfl ?_
  refine Rx.walk 0 (pc' := 52) (L' := [some (.ref 0), some (.int (iz 4)), some (.int (iz 3)), some (.int (iz 3)), some (.int (iz 8)), some (.int (iz 1))]) (st' := [.int (iz 3)]) (h' := cmH z zl (uf f 22 od) fl tx) rfl ?_
  refine Rx.walk 3 (pc' := 55) (L' := [some (.ref 0), some (.int (iz 4)), some (.int (iz 3)), some (.int (iz 3)), some (.int (iz 8)), some (.int (iz 1))]) (st' := [.int (iz 1), .int (iz 3)]) (h' := cmH z zl (uf f 22 od) fl tx) rfl ?_
  refine Rx.iadd rfl ?_
  refine Rx.walk 0 (pc' := 56) (L' := [some (.ref 0), some (.int (iz 4)), some (.int (iz 3)), some (.int (iz 3)), some (.int (iz 8)), some (.int (iz 1))]) (st' := [.int (iz 4)]) (h' := cmH z zl (uf f 22 od) fl tx) rfl ?_
  refine Rx.walk 1 (pc' := 57) (L' := [some (.ref 0), some (.int (iz 4)), some (.int (iz 3)), some (.int (iz 3)), some (.int (iz 8)), some (.int (iz 1))]) (st' := [.int (iz 4), .int (iz 4)]) (h' := cmH z zl (uf f 22 od) fl tx) rfl ?_
  refine Rx.irem rfl ⟨by omega, by omega⟩ ⟨by omega, by omega⟩ (by omega) (by omega) ?_
  refine Rx.walk 4 (pc' := 19) (L' := [some (.ref 0), some (.int (iz 4)), some (.int (iz 3)), some (.int (iz 0)), some (.int (iz 8)), some (.int (iz 1))]) (st' := [.int (iz 0), .int (iz 8)]) (h' := cmH z zl (uf f 22 od) fl tx) rfl ?_
  refine Rx.callx (m' := m_X12_has) (as := [.int (iz 8), .int (iz 0)]) (rest := []) rfl (n_has_8_0 _ (cmH z zl (uf f 22 od) fl tx)   ) (fun v43 h44 q45 => ?_)
  obtain ⟨rfl, rfl⟩ := q45
  refine Rx.walk 0 (pc' := 22) (L' := [some (.ref 0), some (.int (iz 4)), some (.int (iz 3)), some (.int (iz 0)), some (.int (iz 8)), some (.int (iz 1))]) (st' := [.int (iz 0)]) (h' := cmH z zl (uf f 22 od) fl tx) rfl ?_
  refine Rx.ne1 rfl rfl ⟨by omega, by omega⟩ (fun b46 => by omega) (fun b46 => ?_)
  refine Rx.walk 4 (pc' := 32) (L' := [some (.ref 0), some (.int (iz 4)), some (.int (iz 3)), some (.int (iz 0)), some (.int (iz 8)), some (.int (iz 1))]) (st' := [.int (iz 1), .ref 22, .int (iz 0)]) (h' := cmH z zl (uf f 22 od) fl tx) rfl ?_
  refine Rx.ial (g := od) rfl rfl (by omega) (by omega) (by omega) ?_
  rw [show (od 1) = 1 from h1]
  refine Rx.eq2 rfl rfl ⟨by omega, by omega⟩ ⟨by omega, by omega⟩ (fun b47 => by omega) (fun b47 => ?_)
  refine Rx.walk 3 (pc' := 40) (L' := [some (.ref 0), some (.int (iz 4)), some (.int (iz 3)), some (.int (iz 0)), some (.int (iz 8)), some (.int (iz 1))]) (st' := [.int (iz 0), .int (iz 8), .int (iz 3)]) (h' := cmH z zl (uf f 22 od) fl tx) rfl ?_
  refine Rx.callx (m' := m_X12_has) (as := [.int (iz 8), .int (iz 0)]) (rest := [.int (iz 3)]) rfl (n_has_8_0 _ (cmH z zl (uf f 22 od) fl tx)   ) (fun v48 h49 q50 => ?_)
  obtain ⟨rfl, rfl⟩ := q50
  refine Rx.walk 0 (pc' := 43) (L' := [some (.ref 0), some (.int (iz 4)), some (.int (iz 3)), some (.int (iz 0)), some (.int (iz 8)), some (.int (iz 1))]) (st' := [.int (iz 0), .int (iz 3)]) (h' := cmH z zl (uf f 22 od) fl tx) rfl ?_
  refine Rx.eq1 rfl rfl ⟨by omega, by omega⟩ (fun b51 => ?_) (fun b51 => by omega)
  refine Rx.walk 1 (pc' := 51) (L' := [some (.ref 0), some (.int (iz 4)), some (.int (iz 3)), some (.int (iz 0)), some (.int (iz 8)), some (.int (iz 1))]) (st' := [.int (iz 1), .int (iz 3)]) (h' := cmH z zl (uf f 22 od) fl tx) rfl ?_
  refine Rx.iadd rfl ?_
  refine Rx.walk 0 (pc' := 52) (L' := [some (.ref 0), some (.int (iz 4)), some (.int (iz 3)), some (.int (iz 0)), some (.int (iz 8)), some (.int (iz 1))]) (st' := [.int (iz 4)]) (h' := cmH z zl (uf f 22 od) fl tx) rfl ?_
  refine Rx.walk 3 (pc' := 55) (L' := [some (.ref 0), some (.int (iz 4)), some (.int (iz 4)), some (.int (iz 0)), some (.int (iz 8)), some (.int (iz 1))]) (st' := [.int (iz 1), .int (iz 0)]) (h' := cmH z zl (uf f 22 od) fl tx) rfl ?_
  refine Rx.iadd rfl ?_
  refine Rx.walk 0 (pc' := 56) (L' := [some (.ref 0), some (.int (iz 4)), some (.int (iz 4)), some (.int (iz 0)), some (.int (iz 8)), some (.int (iz 1))]) (st' := [.int (iz 1)]) (h' := cmH z zl (uf f 22 od) fl tx) rfl ?_
  refine Rx.walk 1 (pc' := 57) (L' := [some (.ref 0), some (.int (iz 4)), some (.int (iz 4)), some (.int (iz 0)), some (.int (iz 8)), some (.int (iz 1))]) (st' := [.int (iz 4), .int (iz 1)]) (h' := cmH z zl (uf f 22 od) fl tx) rfl ?_
  refine Rx.irem rfl ⟨by omega, by omega⟩ ⟨by omega, by omega⟩ (by omega) (by omega) ?_
  refine Rx.walk 4 (pc' := 19) (L' := [some (.ref 0), some (.int (iz 4)), some (.int (iz 4)), some (.int (iz 1)), some (.int (iz 8)), some (.int (iz 1))]) (st' := [.int (iz 1), .int (iz 8)]) (h' := cmH z zl (uf f 22 od) fl tx) rfl ?_
  refine Rx.callx (m' := m_X12_has) (as := [.int (iz 8), .int (iz 1)]) (rest := []) rfl (n_has_8_1 _ (cmH z zl (uf f 22 od) fl tx)   ) (fun v52 h53 q54 => ?_)
  obtain ⟨rfl, rfl⟩ := q54
  refine Rx.walk 0 (pc' := 22) (L' := [some (.ref 0), some (.int (iz 4)), some (.int (iz 4)), some (.int (iz 1)), some (.int (iz 8)), some (.int (iz 1))]) (st' := [.int (iz 0)]) (h' := cmH z zl (uf f 22 od) fl tx) rfl ?_
  refine Rx.ne1 rfl rfl ⟨by omega, by omega⟩ (fun b55 => by omega) (fun b55 => ?_)
  refine Rx.walk 4 (pc' := 32) (L' := [some (.ref 0), some (.int (iz 4)), some (.int (iz 4)), some (.int (iz 1)), some (.int (iz 8)), some (.int (iz 1))]) (st' := [.int (iz 1), .ref 22, .int (iz 1)]) (h' := cmH z zl (uf f 22 od) fl tx) rfl ?_
  refine Rx.ial (g := od) rfl rfl (by omega) (by omega) (by omega) ?_
  rw [show (od 1) = 1 from h1]
  refine Rx.eq2 rfl rfl ⟨by omega, by omega⟩ ⟨by omega, by omega⟩ (fun b56 => ?_) (fun b56 => by omega)
  refine Rx.walk 3 (pc' := 66) (L' := [some (.ref 0), some (.int (iz 4)), some (.int (iz 4)), some (.int (iz 1)), some (.int (iz 8)), some (.int (iz 1))]) (st' := [.int (iz 1), .int (iz 1), .int (iz 8)]) (h' := cmH z zl (uf f 22 od) fl tx) rfl ?_
  refine Rx.ishl (c := 2) rfl (by decide) ?_
  refine Rx.ior (c := 10) rfl (by decide) ?_
  refine Rx.walk 1 (pc' := 70) (L' := [some (.ref 0), some (.int (iz 4)), some (.int (iz 4)), some (.int (iz 1)), some (.int (iz 10)), some (.int (iz 1))]) (st' := []) (h' := cmH z zl (uf f 22 od) fl tx) rfl ?_
  refine Rx.iinc (b := 1) rfl rfl rfl ?_
  refine Rx.walk 0 (pc' := 73) (L' := [some (.ref 0), some (.int (iz 4)), some (.int (iz 4)), some (.int (iz 1)), some (.int (iz 10)), some (.int (iz 2))]) (st' := []) (h' := cmH z zl (uf f 22 od) fl tx) rfl ?_
  refine Rx.walk 3 (pc' := 13) (L' := [some (.ref 0), some (.int (iz 4)), some (.int (iz 4)), some (.int (iz 1)), some (.int (iz 10)), some (.int (iz 2))]) (st' := [.int (iz 4), .int (iz 2)]) (h' := cmH z zl (uf f 22 od) fl tx) rfl ?_
  refine Rx.ge2 rfl rfl ⟨by omega, by omega⟩ ⟨by omega, by omega⟩ (fun b57 => by omega) (fun b57 => ?_)
  refine Rx.walk 2 (pc' := 19) (L' := [some (.ref 0), some (.int (iz 4)), some (.int (iz 4)), some (.int (iz 1)), some (.int (iz 10)), some (.int (iz 2))]) (st' := [.int (iz 1), .int (iz 10)]) (h' := cmH z zl (uf f 22 od) fl tx) rfl ?_
  refine Rx.callx (m' := m_X12_has) (as := [.int (iz 10), .int (iz 1)]) (rest := []) rfl (n_has_10_1 _ (cmH z zl (uf f 22 od) fl tx)   ) (fun v58 h59 q60 => ?_)
  obtain ⟨rfl, rfl⟩ := q60
  refine Rx.walk 0 (pc' := 22) (L' := [some (.ref 0), some (.int (iz 4)), some (.int (iz 4)), some (.int (iz 1)), some (.int (iz 10)), some (.int (iz 2))]) (st' := [.int (iz 1)]) (h' := cmH z zl (uf f 22 od) fl tx) rfl ?_
  refine Rx.ne1 rfl rfl ⟨by omega, by omega⟩ (fun b61 => ?_) (fun b61 => by omega)
  refine Rx.walk 3 (pc' := 40) (L' := [some (.ref 0), some (.int (iz 4)), some (.int (iz 4)), some (.int (iz 1)), some (.int (iz 10)), some (.int (iz 2))]) (st' := [.int (iz 1), .int (iz 10), .int (iz 4)]) (h' := cmH z zl (uf f 22 od) fl tx) rfl ?_
  refine Rx.callx (m' := m_X12_has) (as := [.int (iz 10), .int (iz 1)]) (rest := [.int (iz 4)]) rfl (n_has_10_1 _ (cmH z zl (uf f 22 od) fl tx)   ) (fun v62 h63 q64 => ?_)
  obtain ⟨rfl, rfl⟩ := q64
  refine Rx.walk 0 (pc' := 43) (L' := [some (.ref 0), some (.int (iz 4)), some (.int (iz 4)), some (.int (iz 1)), some (.int (iz 10)), some (.int (iz 2))]) (st' := [.int (iz 1), .int (iz 4)]) (h' := cmH z zl (uf f 22 od) fl tx) rfl ?_
  refine Rx.eq1 rfl rfl ⟨by omega, by omega⟩ (fun b65 => by omega) (fun b65 => ?_)
  refine Rx.walk 2 (pc' := 51) (L' := [some (.ref 0), some (.int (iz 4)), some (.int (iz 4)), some (.int (iz 1)), some (.int (iz 10)), some (.int (iz 2))]) (st' := [.int (iz 0), .int (iz 4)]) (h' := cmH z zl (uf f 22 od) fl tx) rfl ?_
  refine Rx.iadd rfl ?_
  refine Rx.walk 0 (pc' := 52) (L' := [some (.ref 0), some (.int (iz 4)), some (.int (iz 4)), some (.int (iz 1)), some (.int (iz 10)), some (.int (iz 2))]) (st' := [.int (iz 4)]) (h' := cmH z zl (uf f 22 od) fl tx) rfl ?_
  refine Rx.walk 3 (pc' := 55) (L' := [some (.ref 0), some (.int (iz 4)), some (.int (iz 4)), some (.int (iz 1)), some (.int (iz 10)), some (.int (iz 2))]) (st' := [.int (iz 1), .int (iz 1)]) (h' := cmH z zl (uf f 22 od) fl tx) rfl ?_
  refine Rx.iadd rfl ?_
  refine Rx.walk 0 (pc' := 56) (L' := [some (.ref 0), some (.int (iz 4)), some (.int (iz 4)), some (.int (iz 1)), some (.int (iz 10)), some (.int (iz 2))]) (st' := [.int (iz 2)]) (h' := cmH z zl (uf f 22 od) fl tx) rfl ?_
  refine Rx.walk 1 (pc' := 57) (L' := [some (.ref 0), some (.int (iz 4)), some (.int (iz 4)), some (.int (iz 1)), some (.int (iz 10)), some (.int (iz 2))]) (st' := [.int (iz 4), .int (iz 2)]) (h' := cmH z zl (uf f 22 od) fl tx) rfl ?_
  refine Rx.irem rfl ⟨by omega, by omega⟩ ⟨by omega, by omega⟩ (by omega) (by omega) ?_
  refine Rx.walk 4 (pc' := 19) (L' := [some (.ref 0), some (.int (iz 4)), some (.int (iz 4)), some (.int (iz 2)), some (.int (iz 10)), some (.int (iz 2))]) (st' := [.int (iz 2), .int (iz 10)]) (h' := cmH z zl (uf f 22 od) fl tx) rfl ?_
  refine Rx.callx (m' := m_X12_has) (as := [.int (iz 10), .int (iz 2)]) (rest := []) rfl (n_has_10_2 _ (cmH z zl (uf f 22 od) fl tx)   ) (fun v66 h67 q68 => ?_)
  obtain ⟨rfl, rfl⟩ := q68
  refine Rx.walk 0 (pc' := 22) (L' := [some (.ref 0), some (.int (iz 4)), some (.int (iz 4)), some (.int (iz 2)), some (.int (iz 10)), some (.int (iz 2))]) (st' := [.int (iz 0)]) (h' := cmH z zl (uf f 22 od) fl tx) rfl ?_
  refine Rx.ne1 rfl rfl ⟨by omega, by omega⟩ (fun b69 => by omega) (fun b69 => ?_)
  refine Rx.walk 4 (pc' := 32) (L' := [some (.ref 0), some (.int (iz 4)), some (.int (iz 4)), some (.int (iz 2)), some (.int (iz 10)), some (.int (iz 2))]) (st' := [.int (iz 2), .ref 22, .int (iz 2)]) (h' := cmH z zl (uf f 22 od) fl tx) rfl ?_
  refine Rx.ial (g := od) rfl rfl (by omega) (by omega) (by omega) ?_
  rw [show (od 2) = 0 from h2]
  refine Rx.eq2 rfl rfl ⟨by omega, by omega⟩ ⟨by omega, by omega⟩ (fun b70 => by omega) (fun b70 => ?_)
  refine Rx.walk 3 (pc' := 40) (L' := [some (.ref 0), some (.int (iz 4)), some (.int (iz 4)), some (.int (iz 2)), some (.int (iz 10)), some (.int (iz 2))]) (st' := [.int (iz 2), .int (iz 10), .int (iz 4)]) (h' := cmH z zl (uf f 22 od) fl tx) rfl ?_
  refine Rx.callx (m' := m_X12_has) (as := [.int (iz 10), .int (iz 2)]) (rest := [.int (iz 4)]) rfl (n_has_10_2 _ (cmH z zl (uf f 22 od) fl tx)   ) (fun v71 h72 q73 => ?_)
  obtain ⟨rfl, rfl⟩ := q73
  refine Rx.walk 0 (pc' := 43) (L' := [some (.ref 0), some (.int (iz 4)), some (.int (iz 4)), some (.int (iz 2)), some (.int (iz 10)), some (.int (iz 2))]) (st' := [.int (iz 0), .int (iz 4)]) (h' := cmH z zl (uf f 22 od) fl tx) rfl ?_
  refine Rx.eq1 rfl rfl ⟨by omega, by omega⟩ (fun b74 => ?_) (fun b74 => by omega)
  refine Rx.walk 1 (pc' := 51) (L' := [some (.ref 0), some (.int (iz 4)), some (.int (iz 4)), some (.int (iz 2)), some (.int (iz 10)), some (.int (iz 2))]) (st' := [.int (iz 1), .int (iz 4)]) (h' := cmH z zl (uf f 22 od) fl tx) rfl ?_
  refine Rx.iadd rfl ?_
  refine Rx.walk 0 (pc' := 52) (L' := [some (.ref 0), some (.int (iz 4)), some (.int (iz 4)), some (.int (iz 2)), some (.int (iz 10)), some (.int (iz 2))]) (st' := [.int (iz 5)]) (h' := cmH z zl (uf f 22 od) fl tx) rfl ?_
  refine Rx.walk 3 (pc' := 55) (L' := [some (.ref 0), some (.int (iz 4)), some (.int (iz 5)), some (.int (iz 2)), some (.int (iz 10)), some (.int (iz 2))]) (st' := [.int (iz 1), .int (iz 2)]) (h' := cmH z zl (uf f 22 od) fl tx) rfl ?_
  refine Rx.iadd rfl ?_
  refine Rx.walk 0 (pc' := 56) (L' := [some (.ref 0), some (.int (iz 4)), some (.int (iz 5)), some (.int (iz 2)), some (.int (iz 10)), some (.int (iz 2))]) (st' := [.int (iz 3)]) (h' := cmH z zl (uf f 22 od) fl tx) rfl ?_
  refine Rx.walk 1 (pc' := 57) (L' := [some (.ref 0), some (.int (iz 4)), some (.int (iz 5)), some (.int (iz 2)), some (.int (iz 10)), some (.int (iz 2))]) (st' := [.int (iz 4), .int (iz 3)]) (h' := cmH z zl (uf f 22 od) fl tx) rfl ?_
  refine Rx.irem rfl ⟨by omega, by omega⟩ ⟨by omega, by omega⟩ (by omega) (by omega) ?_
  refine Rx.walk 4 (pc' := 19) (L' := [some (.ref 0), some (.int (iz 4)), some (.int (iz 5)), some (.int (iz 3)), some (.int (iz 10)), some (.int (iz 2))]) (st' := [.int (iz 3), .int (iz 10)]) (h' := cmH z zl (uf f 22 od) fl tx) rfl ?_
  refine Rx.callx (m' := m_X12_has) (as := [.int (iz 10), .int (iz 3)]) (rest := []) rfl (n_has_10_3 _ (cmH z zl (uf f 22 od) fl tx)   ) (fun v75 h76 q77 => ?_)
  obtain ⟨rfl, rfl⟩ := q77
  refine Rx.walk 0 (pc' := 22) (L' := [some (.ref 0), some (.int (iz 4)), some (.int (iz 5)), some (.int (iz 3)), some (.int (iz 10)), some (.int (iz 2))]) (st' := [.int (iz 1)]) (h' := cmH z zl (uf f 22 od) fl tx) rfl ?_
  refine Rx.ne1 rfl rfl ⟨by omega, by omega⟩ (fun b78 => ?_) (fun b78 => by omega)
  refine Rx.walk 3 (pc' := 40) (L' := [some (.ref 0), some (.int (iz 4)), some (.int (iz 5)), some (.int (iz 3)), some (.int (iz 10)), some (.int (iz 2))]) (st' := [.int (iz 3), .int (iz 10), .int (iz 5)]) (h' := cmH z zl (uf f 22 od) fl tx) rfl ?_
  refine Rx.callx (m' := m_X12_has) (as := [.int (iz 10), .int (iz 3)]) (rest := [.int (iz 5)]) rfl (n_has_10_3 _ (cmH z zl (uf f 22 od) fl tx)   ) (fun v79 h80 q81 => ?_)
  obtain ⟨rfl, rfl⟩ := q81
  refine Rx.walk 0 (pc' := 43) (L' := [some (.ref 0), some (.int (iz 4)), some (.int (iz 5)), some (.int (iz 3)), some (.int (iz 10)), some (.int (iz 2))]) (st' := [.int (iz 1), .int (iz 5)]) (h' := cmH z zl (uf f 22 od) fl tx) rfl ?_
  refine Rx.eq1 rfl rfl ⟨by omega, by omega⟩ (fun b82 => by omega) (fun b82 => ?_)
  refine Rx.walk 2 (pc' := 51) (L' := [some (.ref 0), some (.int (iz 4)), some (.int (iz 5)), some (.int (iz 3)), some (.int (iz 10)), some (.int (iz 2))]) (st' := [.int (iz 0), .int (iz 5)]) (h' := cmH z zl (uf f 22 od) fl tx) rfl ?_
  refine Rx.iadd rfl ?_
  refine Rx.walk 0 (pc' := 52) (L' := [some (.ref 0), some (.int (iz 4)), some (.int (iz 5)), some (.int (iz 3)), some (.int (iz 10)), some (.int (iz 2))]) (st' := [.int (iz 5)]) (h' := cmH z zl (uf f 22 od) fl tx) rfl ?_
  refine Rx.walk 3 (pc' := 55) (L' := [some (.ref 0), some (.int (iz 4)), some (.int (iz 5)), some (.int (iz 3)), some (.int (iz 10)), some (.int (iz 2))]) (st' := [.int (iz 1), .int (iz 3)]) (h' := cmH z zl (uf f 22 od) fl tx) rfl ?_
  refine Rx.iadd rfl ?_
  refine Rx.walk 0 (pc' := 56) (L' := [some (.ref 0), some (.int (iz 4)), some (.int (iz 5)), some (.int (iz 3)), some (.int (iz 10)), some (.int (iz 2))]) (st' := [.int (iz 4)]) (h' := cmH z zl (uf f 22 od) fl tx) rfl ?_
  refine Rx.walk 1 (pc' := 57) (L' := [some (.ref 0), some (.int (iz 4)), some (.int (iz 5)), some (.int (iz 3)), some (.int (iz 10)), some (.int (iz 2))]) (st' := [.int (iz 4), .int (iz 4)]) (h' := cmH z zl (uf f 22 od) fl tx) rfl ?_
  refine Rx.irem rfl ⟨by omega, by omega⟩ ⟨by omega, by omega⟩ (by omega) (by omega) ?_
  refine Rx.walk 4 (pc' := 19) (L' := [some (.ref 0), some (.int (iz 4)), some (.int (iz 5)), some (.int (iz 0)), some (.int (iz 10)), some (.int (iz 2))]) (st' := [.int (iz 0), .int (iz 10)]) (h' := cmH z zl (uf f 22 od) fl tx) rfl ?_
  refine Rx.callx (m' := m_X12_has) (as := [.int (iz 10), .int (iz 0)]) (rest := []) rfl (n_has_10_0 _ (cmH z zl (uf f 22 od) fl tx)   ) (fun v83 h84 q85 => ?_)
  obtain ⟨rfl, rfl⟩ := q85
  refine Rx.walk 0 (pc' := 22) (L' := [some (.ref 0), some (.int (iz 4)), some (.int (iz 5)), some (.int (iz 0)), some (.int (iz 10)), some (.int (iz 2))]) (st' := [.int (iz 0)]) (h' := cmH z zl (uf f 22 od) fl tx) rfl ?_
  refine Rx.ne1 rfl rfl ⟨by omega, by omega⟩ (fun b86 => by omega) (fun b86 => ?_)
  refine Rx.walk 4 (pc' := 32) (L' := [some (.ref 0), some (.int (iz 4)), some (.int (iz 5)), some (.int (iz 0)), some (.int (iz 10)), some (.int (iz 2))]) (st' := [.int (iz 2), .ref 22, .int (iz 0)]) (h' := cmH z zl (uf f 22 od) fl tx) rfl ?_
  refine Rx.ial (g := od) rfl rfl (by omega) (by omega) (by omega) ?_
  rw [show (od 2) = 0 from h2]
  refine Rx.eq2 rfl rfl ⟨by omega, by omega⟩ ⟨by omega, by omega⟩ (fun b87 => ?_) (fun b87 => by omega)
  refine Rx.walk 3 (pc' := 66) (L' := [some (.ref 0), some (.int (iz 4)), some (.int (iz 5)), some (.int (iz 0)), some (.int (iz 10)), some (.int (iz 2))]) (st' := [.int (iz 0), .int (iz 1), .int (iz 10)]) (h' := cmH z zl (uf f 22 od) fl tx) rfl ?_
  refine Rx.ishl (c := 1) rfl (by decide) ?_
  refine Rx.ior (c := 11) rfl (by decide) ?_
  refine Rx.walk 1 (pc' := 70) (L' := [some (.ref 0), some (.int (iz 4)), some (.int (iz 5)), some (.int (iz 0)), some (.int (iz 11)), some (.int (iz 2))]) (st' := []) (h' := cmH z zl (uf f 22 od) fl tx) rfl ?_
  refine Rx.iinc (b := 1) rfl rfl rfl ?_
  refine Rx.walk 0 (pc' := 73) (L' := [some (.ref 0), some (.int (iz 4)), some (.int (iz 5)), some (.int (iz 0)), some (.int (iz 11)), some (.int (iz 3))]) (st' := []) (h' := cmH z zl (uf f 22 od) fl tx) rfl ?_
  refine Rx.walk 3 (pc' := 13) (L' := [some (.ref 0), some (.int (iz 4)), some (.int (iz 5)), some (.int (iz 0)), some (.int (iz 11)), some (.int (iz 3))]) (st' := [.int (iz 4), .int (iz 3)]) (h' := cmH z zl (uf f 22 od) fl tx) rfl ?_
  refine Rx.ge2 rfl rfl ⟨by omega, by omega⟩ ⟨by omega, by omega⟩ (fun b88 => by omega) (fun b88 => ?_)
  refine Rx.walk 2 (pc' := 19) (L' := [some (.ref 0), some (.int (iz 4)), some (.int (iz 5)), some (.int (iz 0)), some (.int (iz 11)), some (.int (iz 3))]) (st' := [.int (iz 0), .int (iz 11)]) (h' := cmH z zl (uf f 22 od) fl tx) rfl ?_
  refine Rx.callx (m' := m_X12_has) (as := [.int (iz 11), .int (iz 0)]) (rest := []) rfl (n_has_11_0 _ (cmH z zl (uf f 22 od) fl tx)   ) (fun v89 h90 q91 => ?_)
  obtain ⟨rfl, rfl⟩ := q91
  refine Rx.walk 0 (pc' := 22) (L' := [some (.ref 0), some (.int (iz 4)), some (.int (iz 5)), some (.int (iz 0)), some (.int (iz 11)), some (.int (iz 3))]) (st' := [.int (iz 1)]) (h' := cmH z zl (uf f 22 od) fl tx) rfl ?_
  refine Rx.ne1 rfl rfl ⟨by omega, by omega⟩ (fun b92 => ?_) (fun b92 => by omega)
  refine Rx.walk 3 (pc' := 40) (L' := [some (.ref 0), some (.int (iz 4)), some (.int (iz 5)), some (.int (iz 0)), some (.int (iz 11)), some (.int (iz 3))]) (st' := [.int (iz 0), .int (iz 11), .int (iz 5)]) (h' := cmH z zl (uf f 22 od) fl tx) rfl ?_
  refine Rx.callx (m' := m_X12_has) (as := [.int (iz 11), .int (iz 0)]) (rest := [.int (iz 5)]) rfl (n_has_11_0 _ (cmH z zl (uf f 22 od) fl tx)   ) (fun v93 h94 q95 => ?_)
  obtain ⟨rfl, rfl⟩ := q95
  refine Rx.walk 0 (pc' := 43) (L' := [some (.ref 0), some (.int (iz 4)), some (.int (iz 5)), some (.int (iz 0)), some (.int (iz 11)), some (.int (iz 3))]) (st' := [.int (iz 1), .int (iz 5)]) (h' := cmH z zl (uf f 22 od) fl tx) rfl ?_
  refine Rx.eq1 rfl rfl ⟨by omega, by omega⟩ (fun b96 => by omega) (fun b96 => ?_)
  refine Rx.walk 2 (pc' := 51) (L' := [some (.ref 0), some (.int (iz 4)), some (.int (iz 5)), some (.int (iz 0)), some (.int (iz 11)), some (.int (iz 3))]) (st' := [.int (iz 0), .int (iz 5)]) (h' := cmH z zl (uf f 22 od) fl tx) rfl ?_
  refine Rx.iadd rfl ?_
  refine Rx.walk 0 (pc' := 52) (L' := [some (.ref 0), some (.int (iz 4)), some (.int (iz 5)), some (.int (iz 0)), some (.int (iz 11)), some (.int (iz 3))]) (st' := [.int (iz 5)]) (h' := cmH z zl (uf f 22 od) fl tx) rfl ?_
  refine Rx.walk 3 (pc' := 55) (L' := [some (.ref 0), some (.int (iz 4)), some (.int (iz 5)), some (.int (iz 0)), some (.int (iz 11)), some (.int (iz 3))]) (st' := [.int (iz 1), .int (iz 0)]) (h' := cmH z zl (uf f 22 od) fl tx) rfl ?_
  refine Rx.iadd rfl ?_
  refine Rx.walk 0 (pc' := 56) (L' := [some (.ref 0), some (.int (iz 4)), some (.int (iz 5)), some (.int (iz 0)), some (.int (iz 11)), some (.int (iz 3))]) (st' := [.int (iz 1)]) (h' := cmH z zl (uf f 22 od) fl tx) rfl ?_
  refine Rx.walk 1 (pc' := 57) (L' := [some (.ref 0), some (.int (iz 4)), some (.int (iz 5)), some (.int (iz 0)), some (.int (iz 11)), some (.int (iz 3))]) (st' := [.int (iz 4), .int (iz 1)]) (h' := cmH z zl (uf f 22 od) fl tx) rfl ?_
  refine Rx.irem rfl ⟨by omega, by omega⟩ ⟨by omega, by omega⟩ (by omega) (by omega) ?_
  refine Rx.walk 4 (pc' := 19) (L' := [some (.ref 0), some (.int (iz 4)), some (.int (iz 5)), some (.int (iz 1)), some (.int (iz 11)), some (.int (iz 3))]) (st' := [.int (iz 1), .int (iz 11)]) (h' := cmH z zl (uf f 22 od) fl tx) rfl ?_
  refine Rx.callx (m' := m_X12_has) (as := [.int (iz 11), .int (iz 1)]) (rest := []) rfl (n_has_11_1 _ (cmH z zl (uf f 22 od) fl tx)   ) (fun v97 h98 q99 => ?_)
  obtain ⟨rfl, rfl⟩ := q99
  refine Rx.walk 0 (pc' := 22) (L' := [some (.ref 0), some (.int (iz 4)), some (.int (iz 5)), some (.int (iz 1)), some (.int (iz 11)), some (.int (iz 3))]) (st' := [.int (iz 1)]) (h' := cmH z zl (uf f 22 od) fl tx) rfl ?_
  refine Rx.ne1 rfl rfl ⟨by omega, by omega⟩ (fun b100 => ?_) (fun b100 => by omega)
  refine Rx.walk 3 (pc' := 40) (L' := [some (.ref 0), some (.int (iz 4)), some (.int (iz 5)), some (.int (iz 1)), some (.int (iz 11)), some (.int (iz 3))]) (st' := [.int (iz 1), .int (iz 11), .int (iz 5)]) (h' := cmH z zl (uf f 22 od) fl tx) rfl ?_
  refine Rx.callx (m' := m_X12_has) (as := [.int (iz 11), .int (iz 1)]) (rest := [.int (iz 5)]) rfl (n_has_11_1 _ (cmH z zl (uf f 22 od) fl tx)   ) (fun v101 h102 q103 => ?_)
  obtain ⟨rfl, rfl⟩ := q103
  refine Rx.walk 0 (pc' := 43) (L' := [some (.ref 0), some (.int (iz 4)), some (.int (iz 5)), some (.int (iz 1)), some (.int (iz 11)), some (.int (iz 3))]) (st' := [.int (iz 1), .int (iz 5)]) (h' := cmH z zl (uf f 22 od) fl tx) rfl ?_
  refine Rx.eq1 rfl rfl ⟨by omega, by omega⟩ (fun b104 => by omega) (fun b104 => ?_)
  refine Rx.walk 2 (pc' := 51) (L' := [some (.ref 0), some (.int (iz 4)), some (.int (iz 5)), some (.int (iz 1)), some (.int (iz 11)), some (.int (iz 3))]) (st' := [.int (iz 0), .int (iz 5)]) (h' := cmH z zl (uf f 22 od) fl tx) rfl ?_
  refine Rx.iadd rfl ?_
  refine Rx.walk 0 (pc' := 52) (L' := [some (.ref 0), some (.int (iz 4)), some (.int (iz 5)), some (.int (iz 1)), some (.int (iz 11)), some (.int (iz 3))]) (st' := [.int (iz 5)]) (h' := cmH z zl (uf f 22 od) fl tx) rfl ?_
  refine Rx.walk 3 (pc' := 55) (L' := [some (.ref 0), some (.int (iz 4)), some (.int (iz 5)), some (.int (iz 1)), some (.int (iz 11)), some (.int (iz 3))]) (st' := [.int (iz 1), .int (iz 1)]) (h' := cmH z zl (uf f 22 od) fl tx) rfl ?_
  refine Rx.iadd rfl ?_
  refine Rx.walk 0 (pc' := 56) (L' := [some (.ref 0), some (.int (iz 4)), some (.int (iz 5)), some (.int (iz 1)), some (.int (iz 11)), some (.int (iz 3))]) (st' := [.int (iz 2)]) (h' := cmH z zl (uf f 22 od) fl tx) rfl ?_
  refine Rx.walk 1 (pc' := 57) (L' := [some (.ref 0), some (.int (iz 4)), some (.int (iz 5)), some (.int (iz 1)), some (.int (iz 11)), some (.int (iz 3))]) (st' := [.int (iz 4), .int (iz 2)]) (h' := cmH z zl (uf f 22 od) fl tx) rfl ?_
  refine Rx.irem rfl ⟨by omega, by omega⟩ ⟨by omega, by omega⟩ (by omega) (by omega) ?_
  refine Rx.walk 4 (pc' := 19) (L' := [some (.ref 0), some (.int (iz 4)), some (.int (iz 5)), some (.int (iz 2)), some (.int (iz 11)), some (.int (iz 3))]) (st' := [.int (iz 2), .int (iz 11)]) (h' := cmH z zl (uf f 22 od) fl tx) rfl ?_
  refine Rx.callx (m' := m_X12_has) (as := [.int (iz 11), .int (iz 2)]) (rest := []) rfl (n_has_11_2 _ (cmH z zl (uf f 22 od) fl tx)   ) (fun v105 h106 q107 => ?_)
  obtain ⟨rfl, rfl⟩ := q107
  refine Rx.walk 0 (pc' := 22) (L' := [some (.ref 0), some (.int (iz 4)), some (.int (iz 5)), some (.int (iz 2)), some (.int (iz 11)), some (.int (iz 3))]) (st' := [.int (iz 0)]) (h' := cmH z zl (uf f 22 od) fl tx) rfl ?_
  refine Rx.ne1 rfl rfl ⟨by omega, by omega⟩ (fun b108 => by omega) (fun b108 => ?_)
  refine Rx.walk 4 (pc' := 32) (L' := [some (.ref 0), some (.int (iz 4)), some (.int (iz 5)), some (.int (iz 2)), some (.int (iz 11)), some (.int (iz 3))]) (st' := [.int (iz 3), .ref 22, .int (iz 2)]) (h' := cmH z zl (uf f 22 od) fl tx) rfl ?_
  refine Rx.ial (g := od) rfl rfl (by omega) (by omega) (by omega) ?_
  rw [show (od 3) = 2 from h3]
  refine Rx.eq2 rfl rfl ⟨by omega, by omega⟩ ⟨by omega, by omega⟩ (fun b109 => ?_) (fun b109 => by omega)
  refine Rx.walk 3 (pc' := 66) (L' := [some (.ref 0), some (.int (iz 4)), some (.int (iz 5)), some (.int (iz 2)), some (.int (iz 11)), some (.int (iz 3))]) (st' := [.int (iz 2), .int (iz 1), .int (iz 11)]) (h' := cmH z zl (uf f 22 od) fl tx) rfl ?_
  refine Rx.ishl (c := 4) rfl (by decide) ?_
  refine Rx.ior (c := 15) rfl (by decide) ?_
  refine Rx.walk 1 (pc' := 70) (L' := [some (.ref 0), some (.int (iz 4)), some (.int (iz 5)), some (.int (iz 2)), some (.int (iz 15)), some (.int (iz 3))]) (st' := []) (h' := cmH z zl (uf f 22 od) fl tx) rfl ?_
  refine Rx.iinc (b := 1) rfl rfl rfl ?_
  refine Rx.walk 0 (pc' := 73) (L' := [some (.ref 0), some (.int (iz 4)), some (.int (iz 5)), some (.int (iz 2)), some (.int (iz 15)), some (.int (iz 4))]) (st' := []) (h' := cmH z zl (uf f 22 od) fl tx) rfl ?_
  refine Rx.walk 3 (pc' := 13) (L' := [some (.ref 0), some (.int (iz 4)), some (.int (iz 5)), some (.int (iz 2)), some (.int (iz 15)), some (.int (iz 4))]) (st' := [.int (iz 4), .int (iz 4)]) (h' := cmH z zl (uf f 22 od) fl tx) rfl ?_
  refine Rx.ge2 rfl rfl ⟨by omega, by omega⟩ ⟨by omega, by omega⟩ (fun b110 => ?_) (fun b110 => by omega)
  refine Rx.walk 1 (pc' := 77) (L' := [some (.ref 0), some (.int (iz 4)), some (.int (iz 5)), some (.int (iz 2)), some (.int (iz 15)), some (.int (iz 4))]) (st' := [.int (iz 5)]) (h' := cmH z zl (uf f 22 od) fl tx) rfl ?_
  refine Rx.ret rfl ?_
  exact ⟨rfl, rfl⟩
set_option maxRecDepth 100000 in
set_option maxHeartbeats 4000000 in
theorem m_stepsOf4_21 (d : Nat) (z : Nat → Int) (zl : Nat → Int) (f : Nat → Int → Int) (fl : Nat → Int → Int) (tx : Nat)  (od : Int → Int) (h0 : od 0 = 3) (h1 : od 1 = 1) (h2 : od 2 = 2) (h3 : od 3 = 0) : Rx (d + 1) m_X12_stepsOf 0 (am_ent [.ref 0, .int (iz 4)] 6) [] (cmH z zl (uf f 22 od) fl tx) (fun rv h => rv = some (.int (iz 4)) ∧ h = cmH z zl (uf f 22 od) fl tx) := by
  refine Rx.walk 0 (pc' := 0) (L' := [some (.ref 0), some (.int (iz 4)), none, none, none, none]) (st' := []) (h' := cmH z zl (uf f 22 od) fl tx) rfl ?_
  refine Rx.walk 10 (pc' := 13) (L' := [some (.ref 0), some (.int (iz 4)), some (.int (iz 0)), some (.int (iz 0)), some (.int (iz 0)), some (.int (iz 0))]) (st' := [.int (iz 4), .int (iz 0)]) (h' := cmH z zl (uf f 22 od) fl tx) rfl ?_
  refine Rx.ge2 rfl rfl ⟨by omega, by omega⟩ ⟨by omega, by omega⟩ (fun b1 => by omega) (fun b1 => ?_)
  refine Rx.walk 2 (pc' := 19) (L' := [some (.ref 0), some (.int (iz 4)), some (.int (iz 0)), some (.int (iz 0)), some (.int (iz 0)), some (.int (iz 0))]) (st' := [.int (iz 0), .int (iz 0)]) (h' := cmH z zl (uf f 22 od) fl tx) rfl ?_
  refine Rx.callx (m' := m_X12_has) (as := [.int (iz 0), .int (iz 0)]) (rest := []) rfl (n_has_0_0 _ (cmH z zl (uf f 22 od) fl tx)   ) (fun v2 h3 q4 => ?_)
  obtain ⟨rfl, rfl⟩ := q4
  refine Rx.walk 0 (pc' := 22) (L' := [some (.ref 0), some (.int (iz 4)), some (.int (iz 0)), some (.int (iz 0)), some (.int (iz 0)), some (.int (iz 0))]) (st' := [.int (iz 0)]) (h' := cmH z zl (uf f 22 od) fl tx) rfl ?_
  refine Rx.ne1 rfl rfl ⟨by omega, by omega⟩ (fun b5 => by omega) (fun b5 => ?_)
  refine Rx.walk 4 (pc' := 32) (L' := [some (.ref 0), some (.int (iz 4)), some (.int (iz 0)), some (.int (iz 0)), some (.int (iz 0)), some (.int (iz 0))]) (st' := [.int (iz 0), .ref 22, .int (iz 0)]) (h' := cmH z zl (uf f 22 od) fl tx) rfl ?_
  refine Rx.ial (g := od) rfl rfl (by omega) (by omega) (by omega) ?_
  rw [show (od 0) = 3 from h0]
  refine Rx.eq2 rfl rfl ⟨by omega, by omega⟩ ⟨by omega, by omega⟩ (fun b6 => by omega) (fun b6 => ?_)
  refine Rx.walk 3 (pc' := 40) (L' := [some (.ref 0), some (.int (iz 4)), some (.int (iz 0)), some (.int (iz 0)), some (.int (iz 0)), some (.int (iz 0))]) (st' := [.int (iz 0), .int (iz 0), .int (iz 0)]) (h' := cmH z zl (uf f 22 od) fl tx) rfl ?_
  refine Rx.callx (m' := m_X12_has) (as := [.int (iz 0), .int (iz 0)]) (rest := [.int (iz 0)]) rfl (n_has_0_0 _ (cmH z zl (uf f 22 od) fl tx)   ) (fun v7 h8 q9 => ?_)
  obtain ⟨rfl, rfl⟩ := q9
  refine Rx.walk 0 (pc' := 43) (L' := [some (.ref 0), some (.int (iz 4)), some (.int (iz 0)), some (.int (iz 0)), some (.int (iz 0)), some (.int (iz 0))]) (st' := [.int (iz 0), .int (iz 0)]) (h' := cmH z zl (uf f 22 od) fl tx) rfl ?_
  refine Rx.eq1 rfl rfl ⟨by omega, by omega⟩ (fun b10 => ?_) (fun b10 => by omega)
  refine Rx.walk 1 (pc' := 51) (L' := [some (.ref 0), some (.int (iz 4)), some (.int (iz 0)), some (.int (iz 0)), some (.int (iz 0)), some (.int (iz 0))]) (st' := [.int (iz 1), .int (iz 0)]) (h' := cmH z zl (uf f 22 od) fl tx) rfl ?_
  refine Rx.iadd rfl ?_
  refine Rx.walk 0 (pc' := 52) (L' := [some (.ref 0), some (.int (iz 4)), some (.int (iz 0)), some (.int (iz 0)), some (.int (iz 0)), some (.int (iz 0))]) (st' := [.int (iz 1)]) (h' := cmH z zl (uf f 22 od) fl tx) rfl ?_
  refine Rx.walk 3 (pc' := 55) (L' := [some (.ref 0), some (.int (iz 4)), some (.int (iz 1)), some (.int (iz 0)), some (.int (iz 0)), some (.int (iz 0))]) (st' := [.int (iz 1), .int (iz 0)]) (h' := cmH z zl (uf f 22 od) fl tx) rfl ?_
  refine Rx.iadd rfl ?_
  refine Rx.walk 0 (pc' := 56) (L' := [some (.ref 0), some (.int (iz 4)), some (.int (iz 1)), some (.int (iz 0)), some (.int (iz 0)), some (.int (iz 0))]) (st' := [.int (iz 1)]) (h' := cmH z zl (uf f 22 od) fl tx) rfl ?_
  refine Rx.walk 1 (pc' := 57) (L' := [some (.ref 0), some (.int (iz 4)), some (.int (iz 1)), some (.int (iz 0)), some (.int (iz 0)), some (.int (iz 0))]) (st' := [.int (iz 4), .int (iz 1)]) (h' := cmH z zl (uf f 22 od) fl tx) rfl ?_
  refine Rx.irem rfl ⟨by omega, by omega⟩ ⟨by omega, by omega⟩ (by omega) (by omega) ?_
  refine Rx.walk 4 (pc' := 19) (L' := [some (.ref 0), some (.int (iz 4)), some (.int (iz 1)), some (.int (iz 1)), some (.int (iz 0)), some (.int (iz 0))]) (st' := [.int (iz 1), .int (iz 0)]) (h' := cmH z zl (uf f 22 od) fl tx) rfl ?_
  refine Rx.callx (m' := m_X12_has) (as := [.int (iz 0), .int (iz 1)]) (rest := []) rfl (n_has_0_1 _ (cmH z zl (uf f 22 od) fl tx)   ) (fun v11 h12 q13 => ?_)
  obtain ⟨rfl, rfl⟩ := q13
  refine Rx.walk 0 (pc' := 22) (L' := [some (.ref 0), some (.int (iz 4)), some (.int (iz 1)), some (.int (iz 1)), some (.int (iz 0)), some (.int (iz 0))]) (st' := [.int (iz 0)]) (h' := cmH z zl (uf f 22 od) fl tx) rfl ?_
  refine Rx.ne1 rfl rfl ⟨by omega, by omega⟩ (fun b14 => by omega) (fun b14 => ?_)
  refine Rx.walk 4 (pc' := 32) (L' := [some (.ref 0), some (.int (iz 4)), some (.int (iz 1)), some (.int (iz 1)), some (.int (iz 0)), some (.int (iz 0))]) (st' := [.int (iz 0), .ref 22, .int (iz 1)]) (h' := cmH z zl (uf f 22 od) fl tx) rfl ?_
  refine Rx.ial (g := od) rfl rfl (by omega) (by omega) (by omega) ?_
  rw [show (od 0) = 3 from h0]
  refine Rx.eq2 rfl rfl ⟨by omega, by omega⟩ ⟨by omega, by omega⟩ (fun b15 => by omega) (fun b15 => ?_)
  refine Rx.walk 3 (pc' := 40) (L' := [some (.ref 0), some (.int (iz 4)), some (.int (iz 1)), some (.int (iz 1)), some (.int (iz 0)), some (.int (iz 0))]) (st' := [.int (iz 1), .int (iz 0), .int (iz 1)]) (h' := cmH z zl (uf f 22 od) fl tx) rfl ?_
  refine Rx.callx (m' := m_X12_has) (as := [.int (iz 0), .int (iz 1)]) (rest := [.int (iz 1)]) rfl (n_has_0_1 _ (cmH z zl (uf f 22 od) fl tx)   ) (fun v16 h17 q18 => ?_)
  obtain ⟨rfl, rfl⟩ := q18
  refine Rx.walk 0 (pc' := 43) (L' := [some (.ref 0), some (.int (iz 4)), some (.int (iz 1)), some (.int (iz 1)), some (.int (iz 0)), some (.int (iz 0))]) (st' := [.int (iz 0), .int (iz 1)]) (h' := cmH z zl (uf f 22 od) fl tx) rfl ?_
  refine Rx.eq1 rfl rfl ⟨by omega, by omega⟩ (fun b19 => ?_) (fun b19 => by omega)
  refine Rx.walk 1 (pc' := 51) (L' := [some (.ref 0), some (.int (iz 4)), some (.int (iz 1)), some (.int (iz 1)), some (.int (iz 0)), some (.int (iz 0))]) (st' := [.int (iz 1), .int (iz 1)]) (h' := cmH z zl (uf f 22 od) fl tx) rfl ?_
  refine Rx.iadd rfl ?_
  refine Rx.walk 0 (pc' := 52) (L' := [some (.ref 0), some (.int (iz 4)), some (.int (iz 1)), some (.int (iz 1)), some (.int (iz 0)), some (.int (iz 0))]) (st' := [.int (iz 2)]) (h' := cmH z zl (uf f 22 od) fl tx) rfl ?_
  refine Rx.walk 3 (pc' := 55) (L' := [some (.ref 0), some (.int (iz 4)), some (.int (iz 2)), some (.int (iz 1)), some (.int (iz 0)), some (.int (iz 0))]) (st' := [.int (iz 1), .int (iz 1)]) (h' := cmH z zl (uf f 22 od) fl tx) rfl ?_
  refine Rx.iadd rfl ?_
  refine Rx.walk 0 (pc' := 56) (L' := [some (.ref 0), some (.int (iz 4)), some (.int (iz 2)), some (.int (iz 1)), some (.int (iz 0)), some (.int (iz 0))]) (st' := [.int (iz 2)]) (h' := cmH z zl (uf f 22 od) fl tx) rfl ?_
  refine Rx.walk 1 (pc' := 57) (L' := [some (.ref 0), some (.int (iz 4)), some (.int (iz 2)), some (.int (iz 1)), some (.int (iz 0)), some (.int (iz 0))]) (st' := [.int (iz 4), .int (iz 2)]) (h' := cmH z zl (uf f 22 od) fl tx) rfl ?_
  refine Rx.irem rfl ⟨by omega, by omega⟩ ⟨by omega, by omega⟩ (by omega) (by omega) ?_
  refine Rx.walk 4 (pc' := 19) (L' := [some (.ref 0), some (.int (iz 4)), some (.int (iz 2)), some (.int (iz 2)), some (.int (iz 0)), some (.int (iz 0))]) (st' := [.int (iz 2), .int (iz 0)]) (h' := cmH z zl (uf f 22 od) fl tx) rfl ?_
  refine Rx.callx (m' := m_X12_has) (as := [.int (iz 0), .int (iz 2)]) (rest := []) rfl (n_has_0_2 _ (cmH z zl (uf f 22 od) fl tx)   ) (fun v20 h21 q22 => ?_)
  obtain ⟨rfl, rfl⟩ := q22
  refine Rx.walk 0 (pc' := 22) (L' := [some (.ref 0), some (.int (iz 4)), some (.int (iz 2)), some (.int (iz 2)), some (.int (iz 0)), some (.int (iz 0))]) (st' := [.int (iz 0)]) (h' := cmH z zl (uf f 22 od) fl tx) rfl ?_
  refine Rx.ne1 rfl rfl ⟨by omega, by omega⟩ (fun b23 => by omega) (fun b23 => ?_)
  refine Rx.walk 4 (pc' := 32) (L' := [some (.ref 0), some (.int (iz 4)), some (.int (iz 2)), some (.int (iz 2)), some (.int (iz 0)), some (.int (iz 0))]) (st' := [.int (iz 0), .ref 22, .int (iz 2)]) (h' := cmH z zl (uf f 22 od) fl tx) rfl ?_
  refine Rx.ial (g := od) rfl rfl (by omega) (by omega) (by omega) ?_
  rw [show (od 0) = 3 from h0]
  refine Rx.eq2 rfl rfl ⟨by omega, by omega⟩ ⟨by omega, by omega⟩ (fun b24 => by omega) (fun b24 => ?_)
  refine Rx.walk 3 (pc' := 40) (L' := [some (.ref 0), some (.int (iz 4)), some (.int (iz 2)), some (.int (iz 2)), some (.int (iz 0)), some (.int (iz 0))]) (st' := [.int (iz 2), .int (iz 0), .int (iz 2)]) (h' := cmH z zl (uf f 22 od) fl tx) rfl ?_
  refine Rx.callx (m' := m_X12_has) (as := [.int (iz 0), .int (iz 2)]) (rest := [.int (iz 2)]) rfl (n_has_0_2 _ (cmH z zl (uf f 22 od) fl tx)   ) (fun v25 h26 q27 => ?_)
  obtain ⟨rfl, rfl⟩ := q27
  refine Rx.walk 0 (pc' := 43) (L' := [some (.ref 0), some (.int (iz 4)), some (.int (iz 2)), some (.int (iz 2)), some (.int (iz 0)), some (.int (iz 0))]) (st' := [.int (iz 0), .int (iz 2)]) (h' := cmH z zl (uf f 22 od) fl tx) rfl ?_
  refine Rx.eq1 rfl rfl ⟨by omega, by omega⟩ (fun b28 => ?_) (fun b28 => by omega)
  refine Rx.walk 1 (pc' := 51) (L' := [some (.ref 0), some (.int (iz 4)), some (.int (iz 2)), some (.int (iz 2)), some (.int (iz 0)), some (.int (iz 0))]) (st' := [.int (iz 1), .int (iz 2)]) (h' := cmH z zl (uf f 22 od) fl tx) rfl ?_
  refine Rx.iadd rfl ?_
  refine Rx.walk 0 (pc' := 52) (L' := [some (.ref 0), some (.int (iz 4)), some (.int (iz 2)), some (.int (iz 2)), some (.int (iz 0)), some (.int (iz 0))]) (st' := [.int (iz 3)]) (h' := cmH z zl (uf f 22 od) fl tx) rfl ?_
  refine Rx.walk 3 (pc' := 55) (L' := [some (.ref 0), some (.int (iz 4)), some (.int (iz 3)), some (.int (iz 2)), some (.int (iz 0)), some (.int (iz 0))]) (st' := [.int (iz 1), .int (iz 2)]) (h' := cmH z zl (uf f 22 od) fl tx) rfl ?_
  refine Rx.iadd rfl ?_
  refine Rx.walk 0 (pc' := 56) (L' := [some (.ref 0), some (.int (iz 4)), some (.int (iz 3)), some (.int (iz 2)), some (.int (iz 0)), some (.int (iz 0))]) (st' := [.int (iz 3)]) (h' := cmH z zl (uf f 22 od) fl tx) rfl ?_
  refine Rx.walk 1 (pc' := 57) (L' := [some (.ref 0), some (.int (iz 4)), some (.int (iz 3)), some (.int (iz 2)), some (.int (iz 0)), some (.int (iz 0))]) (st' := [.int (iz 4), .int (iz 3)]) (h' := cmH z zl (uf f 22 od) fl tx) rfl ?_
  refine Rx.irem rfl ⟨by omega, by omega⟩ ⟨by omega, by omega⟩ (by omega) (by omega) ?_
  refine Rx.walk 4 (pc' := 19) (L' := [some (.ref 0), some (.int (iz 4)), some (.int (iz 3)), some (.int (iz 3)), some (.int (iz 0)), some (.int (iz 0))]) (st' := [.int (iz 3), .int (iz 0)]) (h' := cmH z zl (uf f 22 od) fl tx) rfl ?_
  refine Rx.callx (m' := m_X12_has) (as := [.int (iz 0), .int (iz 3)]) (rest := []) rfl (n_has_0_3 _ (cmH z zl (uf f 22 od) fl tx)   ) (fun v29 h30 q31 => ?_)
  obtain ⟨rfl, rfl⟩ := q31
  refine Rx.walk 0 (pc' := 22) (L' := [some (.ref 0), some (.int (iz 4)), some (.int (iz 3)), some (.int (iz 3)), some (.int (iz 0)), some (.int (iz 0))]) (st' := [.int (iz 0)]) (h' := cmH z zl (uf f 22 od) fl tx) rfl ?_
  refine Rx.ne1 rfl rfl ⟨by omega, by omega⟩ (fun b32 => by omega) (fun b32 => ?_)
  refine Rx.walk 4 (pc' := 32) (L' := [some (.ref 0), some (.int (iz 4)), some (.int (iz 3)), some (.int (iz 3)), some (.int (iz 0)), some (.int (iz 0))]) (st' := [.int (iz 0), .ref 22, .int (iz 3)]) (h' := cmH z zl (uf f 22 od) fl tx) rfl ?_
  refine Rx.ial (g := od) rfl rfl (by omega) (by omega) (by omega) ?_
  rw [show (od 0) = 3 from h0]
  refine Rx.eq2 rfl rfl ⟨by omega, by omega⟩ ⟨by omega, by omega⟩ (fun b33 => ?_) (fun b33 => by omega)
  refine Rx.walk 3 (pc' := 66) (L' := [some (.ref 0), some (.int (iz 4)), some (.int (iz 3)), some (.int (iz 3)), some (.int (iz 0)), some (.int (iz 0))]) (st' := [.int (iz 3), .int (iz 1), .int (iz 0)]) (h' := cmH z zl (uf f 22 od) fl tx) rfl ?_
  refine Rx.ishl (c := 8) rfl (by decide) ?_
  refine Rx.ior (c := 8) rfl (by decide) ?_
  refine Rx.walk 1 (pc' := 70) (L' := [some (.ref 0), some (.int (iz 4)), some (.int (iz 3)), some (.int (iz 3)), some (.int (iz 8)), some (.int (iz 0))]) (st' := []) (h' := cmH z zl (uf f 22 od) fl tx) rfl ?_
  refine Rx.iinc (b := 1) rfl rfl rfl ?_
  refine Rx.walk 0 (pc' := 73) (L' := [some (.ref 0), some (.int (iz 4)), some (.int (iz 3)), some (.int (iz 3)), some (.int (iz 8)), some (.int (iz 1))]) (st' := []) (h' := cmH z zl (uf f 22 od) fl tx) rfl ?_
  refine Rx.walk 3 (pc' := 13) (L' := [some (.ref 0), some (.int (iz 4)), some (.int (iz 3)), some (.int (iz 3)), some (.int (iz 8)), some (.int (iz 1))]) (st' := [.int (iz 4), .int (iz 1)]) (h' := cmH z zl (uf f 22 od) fl tx) rfl ?_
  refine Rx.ge2 rfl rfl ⟨by omega, by omega⟩ ⟨by omega, by omega⟩ (fun b34 => by omega) (fun b34 => ?_)
  refine Rx.walk 2 (pc' := 19) (L' := [some (.ref 0), some (.int (iz 4)), some (.int (iz 3)), some (.int (iz 3)), some (.int (iz 8)), some (.int (iz 1))]) (st' := [.int (iz 3), .int (iz 8)]) (h' := cmH z zl (uf f 22 od) fl tx) rfl ?_
  refine Rx.callx (m' := m_X12_has) (as := [.int (iz 8), .int (iz 3)]) (rest := []) rfl (n_has_8_3 _ (cmH z zl (uf f 22 od) fl tx)   ) (fun v35 h36 q37 => ?_)
  obtain ⟨rfl, rfl⟩ := q37
  refine Rx.walk 0 (pc' := 22) (L' := [some (.ref 0), some (.int (iz 4)), some (.int (iz 3)), some (.int (iz 3)), some (.int (iz 8)), some (.int (iz 1))]) (st' := [.int (iz 1)]) (h' := cmH z zl (uf f 22 od) fl tx) rfl ?_
  refine Rx.ne1 rfl rfl ⟨by omega, by omega⟩ (fun b38 => ?_) (fun b38 => by omega)
  refine Rx.walk 3 (pc' := 40) (L' := [some (.ref 0), some (.int (iz 4)), some (.int (iz 3)), some (.int (iz 3)), some (.int (iz 8)), some (.int (iz 1))]) (st' := [.int (iz 3), .int (iz 8), .int (iz 3)]) (h' := cmH z zl (uf f 22 od) fl tx) rfl ?_
  refine Rx.callx (m' := m_X12_has) (as := [.int (iz 8), .int (iz 3)]) (rest := [.int (iz 3)]) rfl (n_has_8_3 _ (cmH z zl (uf f 22 od) fl tx)   ) (fun v39 h40 q41 => ?_)
  obtain ⟨rfl, rfl⟩ := q41
  refine Rx.walk 0 (pc' := 43) (L' := [some (.ref 0), some (.int (iz 4)), some (.int (iz 3)), some (.int (iz 3)), some (.int (iz 8)), some (.int (iz 1))]) (st' := [.int (iz 1), .int (iz 3)]) (h' := cmH z zl (uf f 22 od) fl tx) rfl ?_
  refine Rx.eq1 rfl rfl ⟨by omega, by omega⟩ (fun b42 => by omega) (fun b42 => ?_)
  refine Rx.walk 2 (pc' := 51) (L' := [some (.ref 0), some (.int (iz 4)), some (.int (iz 3)), some (.int (iz 3)), some (.int (iz 8)), some (.int (iz 1))]) (st' := [.int (iz 0), .int (iz 3)]) (h' := cmH z zl (uf f 22 od) fl tx) rfl ?_
  refine Rx.iadd rfl ?_
  refine Rx.walk 0 (pc' := 52) (L' := [some (.ref 0), some (.int (iz 4)), some (.int (iz 3)), some (.int (iz 3)), some (.int (iz 8)), some (.int (iz 1))]) (st' := [.int (iz 3)]) (h' := cmH z zl (uf f 22 od) fl tx) rfl ?_
  refine Rx.walk 3 (pc' := 55) (L' := [some (.ref 0), some (.int (iz 4)), some (.int (iz 3)), some (.int (iz 3)), some (.int (iz 8)), some (.int (iz 1))]) (st' := [.int (iz 1), .int (iz 3)]) (h' := cmH z zl (uf f 22 od) fl tx) rfl ?_
  refine Rx.iadd rfl ?_
  refine Rx.walk 0 (pc' := 56) (L' := [some (.ref 0), some (.int (iz 4)), some (.int (iz 3)), some (.int (iz 3)), some (.int (iz 8)), some (.int (iz 1))]) (st' := [.int (iz 4)]) (h' := cmH z zl (uf f 22 od) fl tx) rfl ?_
  refine Rx.walk 1 (pc' := 57) (L' := [some (.ref 0), some (.int (iz 4)), some (.int (iz 3)), some (.int (iz 3)), some (.int (iz 8)), some (.int (iz 1))]) (st' := [.int (iz 4), .int (iz 4)]) (h' := cmH z zl (uf f 22 od) fl tx) rfl ?_
  refine Rx.irem rfl ⟨by omega, by omega⟩ ⟨by omega, by omega⟩ (by omega) (by omega) ?_
  refine Rx.walk 4 (pc' := 19) (L' := [some (.ref 0), some (.int (iz 4)), some (.int (iz 3)), some (.int (iz 0)), some (.int (iz 8)), some (.int (iz 1))]) (st' := [.int (iz 0), .int (iz 8)]) (h' := cmH z zl (uf f 22 od) fl tx) rfl ?_
  refine Rx.callx (m' := m_X12_has) (as := [.int (iz 8), .int (iz 0)]) (rest := []) rfl (n_has_8_0 _ (cmH z zl (uf f 22 od) fl tx)   ) (fun v43 h44 q45 => ?_)
  obtain ⟨rfl, rfl⟩ := q45
  refine Rx.walk 0 (pc' := 22) (L' := [some (.ref 0), some (.int (iz 4)), some (.int (iz 3)), some (.int (iz 0)), some (.int (iz 8)), some (.int (iz 1))]) (st' := [.int (iz 0)]) (h' := cmH z zl (uf f 22 od) fl tx) rfl ?_
  refine Rx.ne1 rfl rfl ⟨by omega, by omega⟩ (fun b46 => by omega) (fun b46 => ?_)
  refine Rx.walk 4 (pc' := 32) (L' := [some (.ref 0), some (.int (iz 4)), some (.int (iz 3)), some (.int (iz 0)), some (.int (iz 8)), some (.int (iz 1))]) (st' := [.int (iz 1), .ref 22, .int (iz 0)]) (h' := cmH z zl (uf f 22 od) fl tx) rfl ?_
  refine Rx.ial (g := od) rfl rfl (by omega) (by omega) (by omega) ?_
  rw [show (od 1) = 1 from h1]
  refine Rx.eq2 rfl rfl ⟨by omega, by omega⟩ ⟨by omega, by omega⟩ (fun b47 => by omega) (fun b47 => ?_)
  refine Rx.walk 3 (pc' := 40) (L' := [some (.ref 0), some (.int (iz 4)), some (.int (iz 3)), some (.int (iz 0)), some (.int (iz 8)), some (.int (iz 1))]) (st' := [.int (iz 0), .int (iz 8), .int (iz 3)]) (h' := cmH z zl (uf f 22 od) fl tx) rfl ?_
  refine Rx.callx (m' := m_X12_has) (as := [.int (iz 8), .int (iz 0)]) (rest := [.int (iz 3)]) rfl (n_has_8_0 _ (cmH z zl (uf f 22 od) fl tx)   ) (fun v48 h49 q50 => ?_)
  obtain ⟨rfl, rfl⟩ := q50
  refine Rx.walk 0 (pc' := 43) (L' := [some (.ref 0), some (.int (iz 4)), some (.int (iz 3)), some (.int (iz 0)), some (.int (iz 8)), some (.int (iz 1))]) (st' := [.int (iz 0), .int (iz 3)]) (h' := cmH z zl (uf f 22 od) fl tx) rfl ?_
  refine Rx.eq1 rfl rfl ⟨by omega, by omega⟩ (fun b51 => ?_) (fun b51 => by omega)
  refine Rx.walk 1 (pc' := 51) (L' := [some (.ref 0), some (.int (iz 4)), some (.int (iz 3)), some (.int (iz 0)), some (.int (iz 8)), some (.int (iz 1))]) (st' := [.int (iz 1), .int (iz 3)]) (h' := cmH z zl (uf f 22 od) fl tx) rfl ?_
  refine Rx.iadd rfl ?_
  refine Rx.walk 0 (pc' := 52) (L' := [some (.ref 0), some (.int (iz 4)), some (.int (iz 3)), some (.int (iz 0)), some (.int (iz 8)), some (.int (iz 1))]) (st' := [.int (iz 4)]) (h' := cmH z zl (uf f 22 od) fl tx) rfl ?_
  refine Rx.walk 3 (pc' := 55) (L' := [some (.ref 0), some (.int (iz 4)), some (.int (iz 4)), some (.int (iz 0)), some (.int (iz 8)), some (.int (iz 1))]) (st' := [.int (iz 1), .int (iz 0)]) (h' := cmH z zl (uf f 22 od) fl tx) rfl ?_
  refine Rx.iadd rfl ?_
  refine Rx.walk 0 (pc' := 56) (L' := [some (.ref 0), some (.int (iz 4)), some (.int (iz 4)), some (.int (iz 0)), some (.int (iz 8)), some (.int (iz 1))]) (st' := [.int (iz 1)]) (h' := cmH z zl (uf f 22 od) fl tx) rfl ?_
  refine Rx.walk 1 (pc' := 57) (L' := [some (.ref 0), some (.int (iz 4)), some (.int (iz 4)), some (.int (iz 0)), some (.int (iz 8)), some (.int (iz 1))]) (st' := [.int (iz 4), .int (iz 1)]) (h' := cmH z zl (uf f 22 od) fl tx) rfl ?_
  refine Rx.irem rfl ⟨by omega, by omega⟩ ⟨by omega, by omega⟩ (by omega) (by omega) ?_
  refine Rx.walk 4 (pc' := 19) (L' := [some (.ref 0), some (.int (iz 4)), some (.int (iz 4)), some (.int (iz 1)), some (.int (iz 8)), some (.int (iz 1))]) (st' := [.int (iz 1), .int (iz 8)]) (h' := cmH z zl (uf f 22 od) fl tx) rfl ?_
  refine Rx.callx (m' := m_X12_has) (as := [.int (iz 8), .int (iz 1)]) (rest := []) rfl (n_has_8_1 _ (cmH z zl (uf f 22 od) fl tx)   ) (fun v52 h53 q54 => ?_)
  obtain ⟨rfl, rfl⟩ := q54
  refine Rx.walk 0 (pc' := 22) (L' := [some (.ref 0), some (.int (iz 4)), some (.int (iz 4)), some (.int (iz 1)), some (.int (iz 8)), some (.int (iz 1))]) (st' := [.int (iz 0)]) (h' := cmH z zl (uf f 22 od) fl tx) rfl ?_
  refine Rx.ne1 rfl rfl ⟨by omega, by omega⟩ (fun b55 => by omega) (fun b55 => ?_)
  refine Rx.walk 4 (pc' := 32) (L' := [some (.ref 0), some (.int (iz 4)), some (.int (iz 4)), some (.int (iz 1)), some (.int (iz 8)), some (.int (iz 1))]) (st' := [.int (iz 1), .ref 22, .int (iz 1)]) (h' := cmH z zl (uf f 22 od) fl tx) rfl ?_
  refine Rx.ial (g := od) rfl rfl (by omega) (by omega) (by omega) ?_
  rw [show (od 1) = 1 from h1]
  refine Rx.eq2 rfl rfl ⟨by omega, by omega⟩ ⟨by omega, by omega⟩ (fun b56 => ?_) (fun b56 => by omega)
  refine Rx.walk 3 (pc' := 66) (L' := [some (.ref 0), some (.int (iz 4)), some (.int (iz 4)), some (.int (iz 1)), some (.int (iz 8)), some (.int (iz 1))]) (st' := [.int (iz 1), .int (iz 1), .int (iz 8)]) (h' := cmH z zl (uf f 22 od) fl tx) rfl ?_
  refine Rx.ishl (c := 2) rfl (by decide) ?_
  refine Rx.ior (c := 10) rfl (by decide) ?_
  refine Rx.walk 1 (pc' := 70) (L' := [some (.ref 0), some (.int (iz 4)), some (.int (iz 4)), some (.int (iz 1)), some (.int (iz 10)), some (.int (iz 1))]) (st' := []) (h' := cmH z zl (uf f 22 od) fl tx) rfl ?_
  refine Rx.iinc (b := 1) rfl rfl rfl ?_
  refine Rx.walk 0 (pc' := 73) (L' := [some (.ref 0), some (.int (iz 4)), some (.int (iz 4)), some (.int (iz 1)), some (.int (iz 10)), some (.int (iz 2))]) (st' := []) (h' := cmH z zl (uf f 22 od) fl tx) rfl ?_
  refine Rx.walk 3 (pc' := 13) (L' := [some (.ref 0), some (.int (iz 4)), some (.int (iz 4)), some (.int (iz 1)), some (.int (iz 10)), some (.int (iz 2))]) (st' := [.int (iz 4), .int (iz 2)]) (h' := cmH z zl (uf f 22 od) fl tx) rfl ?_
  refine Rx.ge2 rfl rfl ⟨by omega, by omega⟩ ⟨by omega, by omega⟩ (fun b57 => by omega) (fun b57 => ?_)
  refine Rx.walk 2 (pc' := 19) (L' := [some (.ref 0), some (.int (iz 4)), some (.int (iz 4)), some (.int (iz 1)), some (.int (iz 10)), some (.int (iz 2))]) (st' := [.int (iz 1), .int (iz 10)]) (h' := cmH z zl (uf f 22 od) fl tx) rfl ?_
  refine Rx.callx (m' := m_X12_has) (as := [.int (iz 10), .int (iz 1)]) (rest := []) rfl (n_has_10_1 _ (cmH z zl (uf f 22 od) fl tx)   ) (fun v58 h59 q60 => ?_)
  obtain ⟨rfl, rfl⟩ := q60
  refine Rx.walk 0 (pc' := 22) (L' := [some (.ref 0), some (.int (iz 4)), some (.int (iz 4)), some (.int (iz 1)), some (.int (iz 10)), some (.int (iz 2))]) (st' := [.int (iz 1)]) (h' := cmH z zl (uf f 22 od) fl tx) rfl ?_
  refine Rx.ne1 rfl rfl ⟨by omega, by omega⟩ (fun b61 => ?_) (fun b61 => by omega)
  refine Rx.walk 3 (pc' := 40) (L' := [some (.ref 0), some (.int (iz 4)), some (.int (iz 4)), some (.int (iz 1)), some (.int (iz 10)), some (.int (iz 2))]) (st' := [.int (iz 1), .int (iz 10), .int (iz 4)]) (h' := cmH z zl (uf f 22 od) fl tx) rfl ?_
  refine Rx.callx (m' := m_X12_has) (as := [.int (iz 10), .int (iz 1)]) (rest := [.int (iz 4)]) rfl (n_has_10_1 _ (cmH z zl (uf f 22 od) fl tx)   ) (fun v62 h63 q64 => ?_)
  obtain ⟨rfl, rfl⟩ := q64
  refine Rx.walk 0 (pc' := 43) (L' := [some (.ref 0), some (.int (iz 4)), some (.int (iz 4)), some (.int (iz 1)), some (.int (iz 10)), some (.int (iz 2))]) (st' := [.int (iz 1), .int (iz 4)]) (h' := cmH z zl (uf f 22 od) fl tx) rfl ?_
  refine Rx.eq1 rfl rfl ⟨by omega, by omega⟩ (fun b65 => by omega) (fun b65 => ?_)
  refine Rx.walk 2 (pc' := 51) (L' := [some (.ref 0), some (.int (iz 4)), some (.int (iz 4)), some (.int (iz 1)), some (.int (iz 10)), some (.int (iz 2))]) (st' := [.int (iz 0), .int (iz 4)]) (h' := cmH z zl (uf f 22 od) fl tx) rfl ?_
  refine Rx.iadd rfl ?_
  refine Rx.walk 0 (pc' := 52) (L' := [some (.ref 0), some (.int (iz 4)), some (.int (iz 4)), some (.int (iz 1)), some (.int (iz 10)), some (.int (iz 2))]) (st' := [.int (iz 4)]) (h' := cmH z zl (uf f 22 od) fl tx) rfl ?_
  refine Rx.walk 3 (pc' := 55) (L' := [some (.ref 0), some (.int (iz 4)), some (.int (iz 4)), some (.int (iz 1)), some (.int (iz 10)), some (.int (iz 2))]) (st' := [.int (iz 1), .int (iz 1)]) (h' := cmH z zl (uf f 22 od) fl tx) rfl ?_
  refine Rx.iadd rfl ?_
  refine Rx.walk 0 (pc' := 56) (L' := [some (.ref 0), some (.int (iz 4)), some (.int (iz 4)), some (.int (iz 1)), some (.int (iz 10)), some (.int (iz 2))]) (st' := [.int (iz 2)]) (h' := cmH z zl (uf f 22 od) fl tx) rfl ?_
  refine Rx.walk 1 (pc' := 57) (L' := [some (.ref 0), some (.int (iz 4)), some (.int (iz 4)), some (.int (iz 1)), some (.int (iz 10)), some (.int (iz 2))]) (st' := [.int (iz 4), .int (iz 2)]) (h' := cmH z zl (uf f 22 od) fl tx) rfl ?_
  refine Rx.irem rfl ⟨by omega, by omega⟩ ⟨by omega, by omega⟩ (by omega) (by omega) ?_
  refine Rx.walk 4 (pc' := 19) (L' := [some (.ref 0), some (.int (iz 4)), some (.int (iz 4)), some (.int (iz 2)), some (.int (iz 10)), some (.int (iz 2))]) (st' := [.int (iz 2), .int (iz 10)]) (h' := cmH z zl (uf f 22 od) fl tx) rfl ?_
  refine Rx.callx (m' := m_X12_has) (as := [.int (iz 10), .int (iz 2)]) (rest := []) rfl (n_has_10_2 _ (cmH z zl (uf f 22 od) fl tx)   ) (fun v66 h67 q68 => ?_)
  obtain ⟨rfl, rfl⟩ := q68
  refine Rx.walk 0 (pc' := 22) (L' := [some (.ref 0), some (.int (iz 4)), some (.int (iz 4)), some (.int (iz 2)), some (.int (iz 10)), some (.int (iz 2))]) (st' := [.int (iz 0)]) (h' := cmH z zl (uf f 22 od) fl tx) rfl ?_
  refine Rx.ne1 rfl rfl ⟨by omega, by omega⟩ (fun b69 => by omega) (fun b69 => ?_)
  refine Rx.walk 4 (pc' := 32) (L' := [some (.ref 0), some (.int (iz 4)), some (.int (iz 4)), some (.int (iz 2)), some (.int (iz 10)), some (.int (iz 2))]) (st' := [.int (iz 2), .ref 22, .int (iz 2)]) (h' := cmH z zl (uf f 22 od) fl tx) rfl ?_
  refine Rx.ial (g := od) rfl rfl (by omega) (by omega) (by omega) ?_
  rw [show (od 2) = 2 from h2]
  refine Rx.eq2 rfl rfl ⟨by omega, by omega⟩ ⟨by omega, by omega⟩ (fun b70 => ?_) (fun b70 => by omega)
  refine Rx.walk 3 (pc' := 66) (L' := [some (.ref 0), some (.int (iz 4)), some (.int (iz 4)), some (.int (iz 2)), some (.int (iz 10)), some (.int (iz 2))]) (st' := [.int (iz 2), .int (iz 1), .int (iz 10)]) (h' := cmH z zl (uf f 22 od) fl tx) rfl ?_
  refine Rx.ishl (c := 4) rfl (by decide) ?_
  refine Rx.ior (c := 14) rfl (by decide) ?_
  refine Rx.walk 1 (pc' := 70) (L' := [some (.ref 0), some (.int (iz 4)), some (.int (iz 4)), some (.int (iz 2)), some (.int (iz 14)), some (.int (iz 2))]) (st' := []) (h' := cmH z zl (uf f 22 od) fl tx) rfl ?_
  refine Rx.iinc (b := 1) rfl rfl rfl ?_
  refine Rx.walk 0 (pc' := 73) (L' := [some (.ref 0), some (.int (iz 4)), some (.int (iz 4)), some (.int (iz 2)), some (.int (iz 14)), some (.int (iz 3))]) (st' := []) (h' := cmH z zl (uf f 22 od) fl tx) rfl ?_
  refine Rx.walk 3 (pc' := 13) (L' := [some (.ref 0), some (.int (iz 4)), some (.int (iz 4)), some (.int (iz 2)), some (.int (iz 14)), some (.int (iz 3))]) (st' := [.int (iz 4), .int (iz 3)]) (h' := cmH z zl (uf f 22 od) fl tx) rfl ?_
  refine Rx.ge2 rfl rfl ⟨by omega, by omega⟩ ⟨by omega, by omega⟩ (fun b71 => by omega) (fun b71 => ?_)
  refine Rx.walk 2 (pc' := 19) (L' := [some (.ref 0), some (.int (iz 4)), some (.int (iz 4)), some (.int (iz 2)), some (.int (iz 14)), some (.int (iz 3))]) (st' := [.int (iz 2), .int (iz 14)]) (h' := cmH z zl (uf f 22 od) fl tx) rfl ?_
  refine Rx.callx (m' := m_X12_has) (as := [.int (iz 14), .int (iz 2)]) (rest := []) rfl (n_has_14_2 _ (cmH z zl (uf f 22 od) fl tx)   ) (fun v72 h73 q74 => ?_)
  obtain ⟨rfl, rfl⟩ := q74
  refine Rx.walk 0 (pc' := 22) (L' := [some (.ref 0), some (.int (iz 4)), some (.int (iz 4)), some (.int (iz 2)), some (.int (iz 14)), some (.int (iz 3))]) (st' := [.int (iz 1)]) (h' := cmH z zl (uf f 22 od) fl tx) rfl ?_
  refine Rx.ne1 rfl rfl ⟨by omega, by omega⟩ (fun b75 => ?_) (fun b75 => by omega)
  refine Rx.walk 3 (pc' := 40) (L' := [some (.ref 0), some (.int (iz 4)), some (.int (iz 4)), some (.int (iz 2)), some (.int (iz 14)), some (.int (iz 3))]) (st' := [.int (iz 2), .int (iz 14), .int (iz 4)]) (h' := cmH z zl (uf f 22 od) fl tx) rfl ?_
  refine Rx.callx (m' := m_X12_has) (as := [.int (iz 14), .int (iz 2)]) (rest := [.int (iz 4)]) rfl (n_has_14_2 _ (cmH z zl (uf f 22 od) fl tx)   ) (fun v76 h77 q78 => ?_)
  obtain ⟨rfl, rfl⟩ := q78
  refine Rx.walk 0 (pc' := 43) (L' := [some (.ref 0), some (.int (iz 4)), some (.int (iz 4)), some (.int (iz 2)), some (.int (iz 14)), some (.int (iz 3))]) (st' := [.int (iz 1), .int (iz 4)]) (h' := cmH z zl (uf f 22 od) fl tx) rfl ?_
  refine Rx.eq1 rfl rfl ⟨by omega, by omega⟩ (fun b79 => by omega) (fun b79 => ?_)
  refine Rx.walk 2 (pc' := 51) (L' := [some (.ref 0), some (.int (iz 4)), some (.int (iz 4)), some (.int (iz 2)), some (.int (iz 14)), some (.int (iz 3))]) (st' := [.int (iz 0), .int (iz 4)]) (h' := cmH z zl (uf f 22 od) fl tx) rfl ?_
  refine Rx.iadd rfl ?_
  refine Rx.walk 0 (pc' := 52) (L' := [some (.ref 0), some (.int (iz 4)), some (.int (iz 4)), some (.int (iz 2)), some (.int (iz 14)), some (.int (iz 3))]) (st' := [.int (iz 4)]) (h' := cmH z zl (uf f 22 od) fl tx) rfl ?_
  refine Rx.walk 3 (pc' := 55) (L' := [some (.ref 0), some (.int (iz 4)), some (.int (iz 4)), some (.int (iz 2)), some (.int (iz 14)), some (.int (iz 3))]) (st' := [.int (iz 1), .int (iz 2)]) (h' := cmH z zl (uf f 22 od) fl tx) rfl ?_
  refine Rx.iadd rfl ?_
  refine Rx.walk 0 (pc' := 56) (L' := [some (.ref 0), some (.int (iz 4)), some (.int (iz 4)), some (.int (iz 2)), some (.int (iz 14)), some (.int (iz 3))]) (st' := [.int (iz 3)]) (h' := cmH z zl (uf f 22 od) fl tx) rfl ?_
  refine Rx.walk 1 (pc' := 57) (L' := [some (.ref 0), some (.int (iz 4)), some (.int (iz 4)), some (.int (iz 2)), some (.int (iz 14)), some (.int (iz 3))]) (st' := [.int (iz 4), .int (iz 3)]) (h' := cmH z zl (uf f 22 od) fl tx) rfl ?_
  refine Rx.irem rfl ⟨by omega, by omega⟩ ⟨by omega, by omega⟩ (by omega) (by omega) ?_
  refine Rx.walk 4 (pc' := 19) (L' := [some (.ref 0), some (.int (iz 4)), some (.int (iz 4)), some (.int (iz 3)), some (.int (iz 14)), some (.int (iz 3))]) (st' := [.int (iz 3), .int (iz 14)]) (h' := cmH z zl (uf f 22 od) fl tx) rfl ?_
  refine Rx.callx (m' := m_X12_has) (as := [.int (iz 14), .int (iz 3)]) (rest := []) rfl (n_has_14_3 _ (cmH z zl (uf f 22 od) fl tx)   ) (fun v80 h81 q82 => ?_)
  obtain ⟨rfl, rfl⟩ := q82
  refine Rx.walk 0 (pc' := 22) (L' := [some (.ref 0), some (.int (iz 4)), some (.int (iz 4)), some (.int (iz 3)), some (.int (iz 14)), some (.int (iz 3))]) (st' := [.int (iz 1)]) (h' := cmH z zl (uf f 22 od) fl tx) rfl ?_
  refine Rx.ne1 rfl rfl ⟨by omega, by omega⟩ (fun b83 => ?_) (fun b83 => by omega)
  refine Rx.walk 3 (pc' := 40) (L' := [some (.ref 0), some (.int (iz 4)), some (.int (iz 4)), some (.int (iz 3)), some (.int (iz 14)), some (.int (iz 3))]) (st' := [.int (iz 3), .int (iz 14), .int (iz 4)]) (h' := cmH z zl (uf f 22 od) fl tx) rfl ?_
  refine Rx.callx (m' := m_X12_has) (as := [.int (iz 14), .int (iz 3)]) (rest := [.int (iz 4)]) rfl (n_has_14_3 _ (cmH z zl (uf f 22 od) fl tx)   ) (fun v84 h85 q86 => ?_)
  obtain ⟨rfl, rfl⟩ := q86
  refine Rx.walk 0 (pc' := 43) (L' := [some (.ref 0), some (.int (iz 4)), some (.int (iz 4)), some (.int (iz 3)), some (.int (iz 14)), some (.int (iz 3))]) (st' := [.int (iz 1), .int (iz 4)]) (h' := cmH z zl (uf f 22 od) fl tx) rfl ?_
  refine Rx.eq1 rfl rfl ⟨by omega, by omega⟩ (fun b87 => by omega) (fun b87 => ?_)
  refine Rx.walk 2 (pc' := 51) (L' := [some (.ref 0), some (.int (iz 4)), some (.int (iz 4)), some (.int (iz 3)), some (.int (iz 14)), some (.int (iz 3))]) (st' := [.int (iz 0), .int (iz 4)]) (h' := cmH z zl (uf f 22 od) fl tx) rfl ?_
  refine Rx.iadd rfl ?_
  refine Rx.walk 0 (pc' := 52) (L' := [some (.ref 0), some (.int (iz 4)), some (.int (iz 4)), some (.int (iz 3)), some (.int (iz 14)), some (.int (iz 3))]) (st' := [.int (iz 4)]) (h' := cmH z zl (uf f 22 od) fl tx) rfl ?_
  refine Rx.walk 3 (pc' := 55) (L' := [some (.ref 0), some (.int (iz 4)), some (.int (iz 4)), some (.int (iz 3)), some (.int (iz 14)), some (.int (iz 3))]) (st' := [.int (iz 1), .int (iz 3)]) (h' := cmH z zl (uf f 22 od) fl tx) rfl ?_
  refine Rx.iadd rfl ?_
  refine Rx.walk 0 (pc' := 56) (L' := [some (.ref 0), some (.int (iz 4)), some (.int (iz 4)), some (.int (iz 3)), some (.int (iz 14)), some (.int (iz 3))]) (st' := [.int (iz 4)]) (h' := cmH z zl (uf f 22 od) fl tx) rfl ?_
  refine Rx.walk 1 (pc' := 57) (L' := [some (.ref 0), some (.int (iz 4)), some (.int (iz 4)), some (.int (iz 3)), some (.int (iz 14)), some (.int (iz 3))]) (st' := [.int (iz 4), .int (iz 4)]) (h' := cmH z zl (uf f 22 od) fl tx) rfl ?_
  refine Rx.irem rfl ⟨by omega, by omega⟩ ⟨by omega, by omega⟩ (by omega) (by omega) ?_
  refine Rx.walk 4 (pc' := 19) (L' := [some (.ref 0), some (.int (iz 4)), some (.int (iz 4)), some (.int (iz 0)), some (.int (iz 14)), some (.int (iz 3))]) (st' := [.int (iz 0), .int (iz 14)]) (h' := cmH z zl (uf f 22 od) fl tx) rfl ?_
  refine Rx.callx (m' := m_X12_has) (as := [.int (iz 14), .int (iz 0)]) (rest := []) rfl (n_has_14_0 _ (cmH z zl (uf f 22 od) fl tx)   ) (fun v88 h89 q90 => ?_)
  obtain ⟨rfl, rfl⟩ := q90
  refine Rx.walk 0 (pc' := 22) (L' := [some (.ref 0), some (.int (iz 4)), some (.int (iz 4)), some (.int (iz 0)), some (.int (iz 14)), some (.int (iz 3))]) (st' := [.int (iz 0)]) (h' := cmH z zl (uf f 22 od) fl tx) rfl ?_
  refine Rx.ne1 rfl rfl ⟨by omega, by omega⟩ (fun b91 => by omega) (fun b91 => ?_)
  refine Rx.walk 4 (pc' := 32) (L' := [some (.ref 0), some (.int (iz 4)), some (.int (iz 4)), some (.int (iz 0)), some (.int (iz 14)), some (.int (iz 3))]) (st' := [.int (iz 3), .ref 22, .int (iz 0)]) (h' := cmH z zl (uf f 22 od) fl tx) rfl ?_
  refine Rx.ial (g := od) rfl rfl (by omega) (by omega) (by omega) ?_
  rw [show (od 3) = 0 from h3]
  refine Rx.eq2 rfl rfl ⟨by omega, by omega⟩ ⟨by omega, by omega⟩ (fun b92 => ?_) (fun b92 => by omega)
  refine Rx.walk 3 (pc' := 66) (L' := [some (.ref 0), some (.int (iz 4)), some (.int (iz 4)), some (.int (iz 0)), some (.int (iz 14)), some (.int (iz 3))]) (st' := [.int (iz 0), .int (iz 1), .int (iz 14)]) (h' := cmH z zl (uf f 22 od) fl tx) rfl ?_
  refine Rx.ishl (c := 1) rfl (by decide) ?_
  refine Rx.ior (c := 15) rfl (by decide) ?_
  refine Rx.walk 1 (pc' := 70) (L' := [some (.ref 0), some (.int (iz 4)), some (.int (iz 4)), some (.int (iz 0)), some (.int (iz 15)), some (.int (iz 3))]) (st' := []) (h' := cmH z zl (uf f 22 od) fl tx) rfl ?_
  refine Rx.iinc (b := 1) rfl rfl rfl ?_
  refine Rx.walk 0 (pc' := 73) (L' := [some (.ref 0), some (.int (iz 4)), some (.int (iz 4)), some (.int (iz 0)), some (.int (iz 15)), some (.int (iz 4))]) (st' := []) (h' := cmH z zl (uf f 22 od) fl tx) rfl ?_
  refine Rx.walk 3 (pc' := 13) (L' := [some (.ref 0), some (.int (iz 4)), some (.int (iz 4)), some (.int (iz 0)), some (.int (iz 15)), some (.int (iz 4))]) (st' := [.int (iz 4), .int (iz 4)]) (h' := cmH z zl (uf f 22 od) fl tx) rfl ?_
  refine Rx.ge2 rfl rfl ⟨by omega, by omega⟩ ⟨by omega, by omega⟩ (fun b93 => ?_) (fun b93 => by omega)
  refine Rx.walk 1 (pc' := 77) (L' := [some (.ref 0), some (.int (iz 4)), some (.int (iz 4)), some (.int (iz 0)), some (.int (iz 15)), some (.int (iz 4))]) (st' := [.int (iz 4)]) (h' := cmH z zl (uf f 22 od) fl tx) rfl ?_
  refine Rx.ret rfl ?_
  exact ⟨rfl, rfl⟩
set_option maxRecDepth 100000 in
set_option maxHeartbeats 4000000 in
theorem n_has_8_2 (d : Nat) (h0 : AmH)   : Rx (d) m_X12_has 0 (am_ent [.int (iz 8), .int (iz 2)] 2) [] (h0) (fun rv h => rv = some (.int (iz 0)) ∧ h0 = h) := ⟨_, _, ⟨100, rfl⟩, rfl, rfl⟩
set_option maxRecDepth 100000 in
set_option maxHeartbeats 4000000 in
theorem n_has_12_2 (d : Nat) (h0 : AmH)   : Rx (d) m_X12_has 0 (am_ent [.int (iz 12), .int (iz 2)] 2) [] (h0) (fun rv h => rv = some (.int (iz 1)) ∧ h0 = h) := ⟨_, _, ⟨100, rfl⟩, rfl, rfl⟩
set_option maxRecDepth 100000 in
set_option maxHeartbeats 4000000 in
theorem m_stepsOf4_22 (d : Nat) (z : Nat → Int) (zl : Nat → Int) (f : Nat → Int → Int) (fl : Nat → Int → Int) (tx : Nat)  (od : Int → Int) (h0 : od 0 = 3) (h1 : od 1 = 2) (h2 : od 2 = 0) (h3 : od 3 = 1) : Rx (d + 1) m_X12_stepsOf 0 (am_ent [.ref 0, .int (iz 4)] 6) [] (cmH z zl (uf f 22 od) fl tx) (fun rv h => rv = some (.int (iz 5)) ∧ h = cmH z zl (uf f 22 od) fl tx) := by
  refine Rx.walk 0 (pc' := 0) (L' := [some (.ref 0), some (.int (iz 4)), none, none, none, none]) (st' := []) (h' := cmH z zl (uf f 22 od) fl tx) rfl ?_
  refine Rx.walk 10 (pc' := 13) (L' := [some (.ref 0), some (.int (iz 4)), some (.int (iz 0)), some (.int (iz 0)), some (.int (iz 0)), some (.int (iz 0))]) (st' := [.int (iz 4), .int (iz 0)]) (h' := cmH z zl (uf f 22 od) fl tx) rfl ?_
  refine Rx.ge2 rfl rfl ⟨by omega, by omega⟩ ⟨by omega, by omega⟩ (fun b1 => by omega) (fun b1 => ?_)
  refine Rx.walk 2 (pc' := 19) (L' := [some (.ref 0), some (.int (iz 4)), some (.int (iz 0)), some (.int (iz 0)), some (.int (iz 0)), some (.int (iz 0))]) (st' := [.int (iz 0), .int (iz 0)]) (h' := cmH z zl (uf f 22 od) fl tx) rfl ?_
  refine Rx.callx (m' := m_X12_has) (as := [.int (iz 0), .int (iz 0)]) (rest := []) rfl (n_has_0_0 _ (cmH z zl (uf f 22 od) fl tx)   ) (fun v2 h3 q4 => ?_)
  obtain ⟨rfl, rfl⟩ := q4
  refine Rx.walk 0 (pc' := 22) (L' := [some (.ref 0), some (.int (iz 4)), some (.int (iz 0)), some (.int (iz 0)), some (.int (iz 0)), some (.int (iz 0))]) (st' := [.int (iz 0)]) (h' := cmH z zl (uf f 22 od) fl tx) rfl ?_
  refine Rx.ne1 rfl rfl ⟨by omega, by omega⟩ (fun b5 => by omega) (fun b5 => ?_)
  refine Rx.walk 4 (pc' := 32) (L' := [some (.ref 0), some (.int (iz 4)), some (.int (iz 0)), some (.int (iz 0)), some (.int (iz 0)), some (.int (iz 0))]) (st' := [.int (iz 0), .ref 22, .int (iz 0)]) (h' := cmH z zl (uf f 22 od) fl tx) rfl ?_
  refine Rx.ial (g := od) rfl rfl (by omega) (by omega) (by omega) ?_
  rw [show (od 0) = 3 from h0]
  refine Rx.eq2 rfl rfl ⟨by omega, by omega⟩ ⟨by omega, by omega⟩ (fun b6 => by omega) (fun b6 => ?_)
  refine Rx.walk 3 (pc' := 40) (L' := [some (.ref 0), some (.int (iz 4)), some (.int (iz 0)), some (.int (iz 0)), some (.int (iz 0)), some (.int (iz 0))]) (st' := [.int (iz 0), .int (iz 0), .int (iz 0)]) (h' := cmH z zl (uf f 22 od) fl tx) rfl ?_
  refine Rx.callx (m' := m_X12_has) (as := [.int (iz 0), .int (iz 0)]) (rest := [.int (iz 0)]) rfl (n_has_0_0 _ (cmH z zl (uf f 22 od) fl tx)   ) (fun v7 h8 q9 => ?_)
  obtain ⟨rfl, rfl⟩ := q9
  refine Rx.walk 0 (pc' := 43) (L' := [some (.ref 0), some (.int (iz 4)), some (.int (iz 0)), some (.int (iz 0)), some (.int (iz 0)), some (.int (iz 0))]) (st' := [.int (iz 0), .int (iz 0)]) (h' := cmH z zl (uf f 22 od) fl tx) rfl ?_
  refine Rx.eq1 rfl rfl ⟨by omega, by omega⟩ (fun b10 => ?_) (fun b10 => by omega)
  refine Rx.walk 1 (pc' := 51) (L' := [some (.ref 0), some (.int (iz 4)), some (.int (iz 0)), some (.int (iz 0)), some (.int (iz 0)), some (.int (iz 0))]) (st' := [.int (iz 1), .int (iz 0)]) (h' := cmH z zl (uf f 22 od) fl tx) rfl ?_
  refine Rx.iadd rfl ?_
  refine Rx.walk 0 (pc' := 52) (L' := [some (.ref 0), some (.int (iz 4)), some (.int (iz 0)), some (.int (iz 0)), some (.int (iz 0)), some (.int (iz 0))]) (st' := [.int (iz 1)]) (h' := cmH z zl (uf f 22 od) fl tx) rfl ?_
  refine Rx.walk 3 (pc' := 55) (L' := [some (.ref 0), some (.int (iz 4)), some (.int (iz 1)), some (.int (iz 0)), some (.int (iz 0)), some (.int (iz 0))]) (st' := [.int (iz 1), .int (iz 0)]) (h' := cmH z zl (uf f 22 od) fl tx) rfl ?_
  refine Rx.iadd rfl ?_
  refine Rx.walk 0 (pc' := 56) (L' := [some (.ref 0), some (.int (iz 4)), some (.int (iz 1)), some (.int (iz 0)), some (.int (iz 0)), some (.int (iz 0))]) (st' := [.int (iz 1)]) (h' := cmH z zl (uf f 22 od) fl tx) rfl ?_
  refine Rx.walk 1 (pc' := 57) (L' := [some (.ref 0), some (.int (iz 4)), some (.int (iz 1)), some (.int (iz 0)), some (.int (iz 0)), some (.int (iz 0))]) (st' := [.int (iz 4), .int (iz 1)]) (h' := cmH z zl (uf f 22 od) fl tx) rfl ?_
  refine Rx.irem rfl ⟨by omega, by omega⟩ ⟨by omega, by omega⟩ (by omega) (by omega) ?_
  refine Rx.walk 4 (pc' := 19) (L' := [some (.ref 0), some (.int (iz 4)), some (.int (iz 1)), some (.int (iz 1)), some (.int (iz 0)), some (.int (iz 0))]) (st' := [.int (iz 1), .int (iz 0)]) (h' := cmH z zl (uf f 22 od) fl tx) rfl ?_
  refine Rx.callx (m' := m_X12_has) (as := [.int (iz 0), .int (iz 1)]) (rest := []) rfl (n_has_0_1 _ (cmH z zl (uf f 22 od) fl tx)   ) (fun v11 h12 q13 => ?_)
  obtain ⟨rfl, rfl⟩ := q13
  refine Rx.walk 0 (pc' := 22) (L' := [some (.ref 0), some (.int (iz 4)), some (.int (iz 1)), some (.int (iz 1)), some (.int (iz 0)), some (.int (iz 0))]) (st' := [.int (iz 0)]) (h' := cmH z zl (uf f 22 od) fl tx) rfl ?_
  refine Rx.ne1 rfl rfl ⟨by omega, by omega⟩ (fun b14 => by omega) (fun b14 => ?_)
  refine Rx.walk 4 (pc' := 32) (L' := [some (.ref 0), some (.int (iz 4)), some (.int (iz 1)), some (.int (iz 1)), some (.int (iz 0)), some (.int (iz 0))]) (st' := [.int (iz 0), .ref 22, .int (iz 1)]) (h' := cmH z zl (uf f 22 od) fl tx) rfl ?_
  refine Rx.ial (g := od) rfl rfl (by omega) (by omega) (by omega) ?_
  rw [show (od 0) = 3 from h0]
  refine Rx.eq2 rfl rfl ⟨by omega, by omega⟩ ⟨by omega, by omega⟩ (fun b15 => by omega) (fun b15 => ?_)
  refine Rx.walk 3 (pc' := 40) (L' := [some (.ref 0), some (.int (iz 4)), some (.int (iz 1)), some (.int (iz 1)), some (.int (iz 0)), some (.int (iz 0))]) (st' := [.int (iz 1), .int (iz 0), .int (iz 1)]) (h' := cmH z zl (uf f 22 od) fl tx) rfl ?_
  refine Rx.callx (m' := m_X12_has) (as := [.int (iz 0), .int (iz 1)]) (rest := [.int (iz 1)]) rfl (n_has_0_1 _ (cmH z zl (uf f 22 od) fl tx)   ) (fun v16 h17 q18 => ?_)
  obtain ⟨rfl, rfl⟩ := q18
  refine Rx.walk 0 (pc' := 43) (L' := [some (.ref 0), some (.int (iz 4)), some (.int (iz 1)), some (.int (iz 1)), some (.int (iz 0)), some (.int (iz 0))]) (st' := [.int (iz 0), .int (iz 1)]) (h' := cmH z zl (uf f 22 od) fl tx) rfl ?_
  refine Rx.eq1 rfl rfl ⟨by omega, by omega⟩ (fun b19 => ?_) (fun b19 => by omega)
  refine Rx.walk 1 (pc' := 51) (L' := [some (.ref 0), some (.int (iz 4)), some (.int (iz 1)), some (.int (iz 1)), some (.int (iz 0)), some (.int (iz 0))]) (st' := [.int (iz 1), .int (iz 1)]) (h' := cmH z zl (uf f 22 od) fl tx) rfl ?_
  refine Rx.iadd rfl ?_
  refine Rx.walk 0 (pc' := 52) (L' := [some (.ref 0), some (.int (iz 4)), some (.int (iz 1)), some (.int (iz 1)), some (.int (iz 0)), some (.int (iz 0))]) (st' := [.int (iz 2)]) (h' := cmH z zl (uf f 22 od) fl tx) rfl ?_
  refine Rx.walk 3 (pc' := 55) (L' := [some (.ref 0), some (.int (iz 4)), some (.int (iz 2)), some (.int (iz 1)), some (.int (iz 0)), some (.int (iz 0))]) (st' := [.int (iz 1), .int (iz 1)]) (h' := cmH z zl (uf f 22 od) fl tx) rfl ?_
  refine Rx.iadd rfl ?_
  refine Rx.walk 0 (pc' := 56) (L' := [some (.ref 0), some (.int (iz 4)), some (.int (iz 2)), some (.int (iz 1)), some (.int (iz 0)), some (.int (iz 0))]) (st' := [.int (iz 2)]) (h' := cmH z zl (uf f 22 od) fl tx) rfl ?_
  refine Rx.walk 1 (pc' := 57) (L' := [some (.ref 0), some (.int (iz 4)), some (.int (iz 2)), some (.int (iz 1)), some (.int (iz 0)), some (.int (iz 0))]) (st' := [.int (iz 4), .int (iz 2)]) (h' := cmH z zl (uf f 22 od) fl tx) rfl ?_
  refine Rx.irem rfl ⟨by omega, by omega⟩ ⟨by omega, by omega⟩ (by omega) (by omega) ?_
  refine Rx.walk 4 (pc' := 19) (L' := [some (.ref 0), some (.int (iz 4)), some (.int (iz 2)), some (.int (iz 2)), some (.int (iz 0)), some (.int (iz 0))]) (st' := [.int (iz 2), .int (iz 0)]) (h' := cmH z zl (uf f 22 od) fl tx) rfl ?_
  refine Rx.callx (m' := m_X12_has) (as := [.int (iz 0), .int (iz 2)]) (rest := []) rfl (n_has_0_2 _ (cmH z zl (uf f 22 od) fl tx)   ) (fun v20 h21 q22 => ?_)
  obtain ⟨rfl, rfl⟩ := q22
  refine Rx.walk 0 (pc' := 22) (L' := [some (.ref 0), some (.int (iz 4)), some (.int (iz 2)), some (.int (iz 2)), some (.int (iz 0)), some (.int (iz 0))]) (st' := [.int (iz 0)]) (h' := cmH z zl (uf f 22 od) fl tx) rfl ?_
  refine Rx.ne1 rfl rfl ⟨by omega, by omega⟩ (fun b23 => by omega) (fun b23 => ?_)
  refine Rx.walk 4 (pc' := 32) (L' := [some (.ref 0), some (.int (iz 4)), some (.int (iz 2)), some (.int (iz 2)), some (.int (iz 0)), some (.int (iz 0))]) (st' := [.int (iz 0), .ref 22, .int (iz 2)]) (h' := cmH z zl (uf f 22 od) fl tx) rfl ?_
  refine Rx.ial (g := od) rfl rfl (by omega) (by omega) (by omega) ?_
  rw [show (od 0) = 3 from h0]
  refine Rx.eq2 rfl rfl ⟨by omega, by omega⟩ ⟨by omega, by omega⟩ (fun b24 => by omega) (fun b24 => ?_)
  refine Rx.walk 3 (pc' := 40) (L' := [some (.ref 0), some (.int (iz 4)), some (.int (iz 2)), some (.int (iz 2)), some (.int (iz 0)), some (.int (iz 0))]) (st' := [.int (iz 2), .int (iz 0), .int (iz 2)]) (h' := cmH z zl (uf f 22 od) fl tx) rfl ?_
  refine Rx.callx (m' := m_X12_has) (as := [.int (iz 0), .int (iz 2)]) (rest := [.int (iz 2)]) rfl (n_has_0_2 _ (cmH z zl (uf f 22 od) fl tx)   ) (fun v25 h26 q27 => ?_)
  obtain ⟨rfl, rfl⟩ := q27
  refine Rx.walk 0 (pc' := 43) (L' := [some (.ref 0), some (.int (iz 4)), some (.int (iz 2)), some (.int (iz 2)), some (.int (iz 0)), some (.int (iz 0))]) (st' := [.int (iz 0), .int (iz 2)]) (h' := cmH z zl (uf f 22 od) fl tx) rfl ?_
  refine Rx.eq1 rfl rfl ⟨by omega, by omega⟩ (fun b28 => ?_) (fun b28 => by omega)
  refine Rx.walk 1 (pc' := 51) (L' := [some (.ref 0), some (.int (iz 4)), some (.int (iz 2)), some (.int (iz 2)), some (.int (iz 0)), some (.int (iz 0))]) (st' := [.int (iz 1), .int (iz 2)]) (h' := cmH z zl (uf f 22 od) fl tx) rfl ?_
  refine Rx.iadd rfl ?_
  refine Rx.walk 0 (pc' := 52) (L' := [some (.ref 0), some (.int (iz 4)), some (.int (iz 2)), some (.int (iz 2)), some (.int (iz 0)), some (.int (iz 0))]) (st' := [.int (iz 3)]) (h' := cmH z zl (uf f 22 od) fl tx) rfl ?_
  refine Rx.walk 3 (pc' := 55) (L' := [some (.ref 0), some (.int (iz 4)), some (.int (iz 3)), some (.int (iz 2)), some (.int (iz 0)), some (.int (iz 0))]) (st' := [.int (iz 1), .int (iz 2)]) (h' := cmH z zl (uf f 22 od) fl tx) rfl ?_
  refine Rx.iadd rfl ?_
  refine Rx.walk 0 (pc' := 56) (L' := [some (.ref 0), some (.int (iz 4)), some (.int (iz 3)), some (.int (iz 2)), some (.int (iz 0)), some (.int (iz 0))]) (st' := [.int (iz 3)]) (h' := cmH z zl (uf f 22 od) fl tx) rfl ?_
  refine Rx.walk 1 (pc' := 57) (L' := [some (.ref 0), some (.int (iz 4)), some (.int (iz 3)), some (.int (iz 2)), some (.int (iz 0)), some (.int (iz 0))]) (st' := [.int (iz 4), .int (iz 3)]) (h' := cmH z zl (uf f 22 od) fl tx) rfl ?_
  refine Rx.irem rfl ⟨by omega, by omega⟩ ⟨by omega, by omega⟩ (by omega) (by omega) ?_
  refine Rx.walk 4 (pc' := 19) (L' := [some (.ref 0), some (.int (iz 4)), some (.int (iz 3)), some (.int (iz 3)), some (.int (iz 0)), some (.int (iz 0))]) (st' := [.int (iz 3), .int (iz 0)]) (h' := cmH z zl (uf f 22 od) fl tx) rfl ?_
  refine Rx.callx (m' := m_X12_has) (as := [.int (iz 0), .int (iz 3)]) (rest := []) rfl (n_has_0_3 _ (cmH z zl (uf f 22 od) fl tx)   ) (fun v29 h30 q31 => ?_)
  obtain ⟨rfl, rfl⟩ := q31
  refine Rx.walk 0 (pc' := 22) (L' := [some (.ref 0), some (.int (iz 4)), some (.int (iz 3)), some (.int (iz 3)), some (.int (iz 0)), some (.int (iz 0))]) (st' := [.int (iz 0)]) (h' := cmH z zl (uf f 22 od) fl tx) rfl ?_
  refine Rx.ne1 rfl rfl ⟨by omega, by omega⟩ (fun b32 => by omega) (fun b32 => ?_)
  refine Rx.walk 4 (pc' := 32) (L' := [some (.ref 0), some (.int (iz 4)), some (.int (iz 3)), some (.int (iz 3)), some (.int (iz 0)), some (.int (iz 0))]) (st' := [.int (iz 0), .ref 22, .int (iz 3)]) (h' := cmH z zl (uf f 22 od) fl tx) rfl ?_
  refine Rx.ial (g := od) rfl rfl (by omega) (by omega) (by omega) ?_
  rw [show (od 0) = 3 from h0]
  refine Rx.eq2 rfl rfl ⟨by omega, by omega⟩ ⟨by omega, by omega⟩ (fun b33 => ?_) (fun b33 => by omega)
  refine Rx.walk 3 (pc' := 66) (L' := [some (.ref 0), some (.int (iz 4)), some (.int (iz 3)), some (.int (iz 3)), some (.int (iz 0)), some (.int (iz 0))]) (st' := [.int (iz 3), .int (iz 1), .int (iz 0)]) (h' := cmH z zl (uf f 22 od) fl tx) rfl ?_
  refine Rx.ishl (c := 8) rfl (by decide) ?_
  refine Rx.ior (c := 8) rfl (by decide) ?_
  refine Rx.walk 1 (pc' := 70) (L' := [some (.ref 0), some (.int (iz 4)), some (.int (iz 3)), some (.int (iz 3)), some (.int (iz 8)), some (.int (iz 0))]) (st' := []) (h' := cmH z zl (uf f 22 od) fl tx) rfl ?_
  refine Rx.iinc (b := 1) rfl rfl rfl ?_
  refine Rx.walk 0 (pc' := 73) (L' := [some (.ref 0), some (.int (iz 4)), some (.int (iz 3)), some (.int (iz 3)), some (.int (iz 8)), some (.int (iz 1))]) (st' := []) (h' := cmH z zl (uf f 22 od) fl tx) rfl ?_
  refine Rx.walk 3 (pc' := 13) (L' := [some (.ref 0), some (.int (iz 4)), some (.int (iz 3)), some (.int (iz 3)), some (.int (iz 8)), some (.int (iz 1))]) (st' := [.int (iz 4), .int (iz 1)]) (h' := cmH z zl (uf f 22 od) fl tx) rfl ?_
  refine Rx.ge2 rfl rfl ⟨by omega, by omega⟩ ⟨by omega, by omega⟩ (fun b34 => by omega) (fun b34 => ?_)
  refine Rx.walk 2 (pc' := 19) (L' := [some (.ref 0), some (.int (iz 4)), some (.int (iz 3)), some (.int (iz 3)), some (.int (iz 8)), some (.int (iz 1))]) (st' := [.int (iz 3), .int (iz 8)]) (h' := cmH z zl (uf f 22 od) fl tx) rfl ?_
  refine Rx.callx (m' := m_X12_has) (as := [.int (iz 8), .int (iz 3)]) (rest := []) rfl (n_has_8_3 _ (cmH z zl (uf f 22 od) fl tx)   ) (fun v35 h36 q37 => ?_)
  obtain ⟨rfl, rfl⟩ := q37
  refine Rx.walk 0 (pc' := 22) (L' := [some (.ref 0), some (.int (iz 4)), some (.int (iz 3)), some (.int (iz 3)), some (.int (iz 8)), some (.int (iz 1))]) (st' := [.int (iz 1)]) (h' := cmH z zl (uf f 22 od) fl tx) rfl ?_
  refine Rx.ne1 rfl rfl ⟨by omega, by omega⟩ (fun b38 => ?_) (fun b38 => by omega)
  refine Rx.walk 3 (pc' := 40) (L' := [some (.ref 0), some (.int (iz 4)), some (.int (iz 3)), some (.int (iz 3)), some (.int (iz 8)), some (.int (iz 1))]) (st' := [.int (iz 3), .int (iz 8), .int (iz 3)]) (h' := cmH z zl (uf f 22 od) fl tx) rfl ?_
  refine Rx.callx (m' := m_X12_has) (as := [.int (iz 8), .int (iz 3)]) (rest := [.int (iz 3)]) rfl (n_has_8_3 _ (cmH z zl (uf f 22 od) fl tx)   ) (fun v39 h40 q41 => ?_)
  obtain ⟨rfl, rfl⟩ := q41
  refine Rx.walk 0 (pc' := 43) (L' := [some (.ref 0), some (.int (iz 4)), some (.int (iz 3)), some (.int (iz 3)), some (.int (iz 8)), some (.int (iz 1))]) (st' := [.int (iz 1), .int (iz 3)]) (h' := cmH z zl (uf f 22 od) fl tx) rfl ?_
  refine Rx.eq1 rfl rfl ⟨by omega, by omega⟩ (fun b42 => by omega) (fun b42 => ?_)
  refine Rx.walk 2 (pc' := 51) (L' := [some (.ref 0), some (.int (iz 4)), some (.int (iz 3)), some (.int (iz 3)), some (.int (iz 8)), some (.int (iz 1))]) (st' := [.int (iz 0), .int (iz 3)]) (h' := cmH z zl (uf f 22 od) fl tx) rfl ?_
  refine Rx.iadd rfl ?_
  refine Rx.walk 0 (pc' := 52) (L' := [some (.ref 0), some (.int (iz 4)), some (.int (iz 3)), some (.int (iz 3)), some (.int (iz 8)), some (.int (iz 1))]) (st' := [.int (iz 3)]) (h' := cmH z zl (uf f 22 od) fl tx) rfl ?_
  refine Rx.walk 3 (pc' := 55) (L' := [some (.ref 0), some (.int (iz 4)), some (.int (iz 3)), some (.int (iz 3)), some (.int (iz 8)), some (.int (iz 1))]) (st' := [.int (iz 1), .int (iz 3)]) (h' := cmH z zl (uf f 22 od) fl tx) rfl ?_
  refine Rx.iadd rfl ?_
  refine Rx.walk 0 (pc' := 56) (L' := [some (.ref 0), some (.int (iz 4)), some (.int (iz 3)), some (.int (iz 3)), some (.int (iz 8)), some (.int (iz 1))]) (st' := [.int (iz 4)]) (h' := cmH z zl (uf f 22 od) fl tx) rfl ?_
  refine Rx.walk 1 (pc' := 57) (L' := [some (.ref 0), some (.int (iz 4)), some (.int (iz 3)), some (.int (iz 3)), some (.int (iz 8)), some (.int (iz 1))]) (st' := [.int (iz 4), .int (iz 4)]) (h' := cmH z zl (uf f 22 od) fl tx) rfl ?_
  refine Rx.irem rfl ⟨by omega, by omega⟩ ⟨by omega, by omega⟩ (by omega) (by omega) ?_
  refine Rx.walk 4 (pc' := 19) (L' := [some (.ref 0), some (.int (iz 4)), some (.int (iz 3)), some (.int (iz 0)), some (.int (iz 8)), some (.int (iz 1))]) (st' := [.int (iz 0), .int (iz 8)]) (h' := cmH z zl (uf f 22 od) fl tx) rfl ?_
  refine Rx.callx (m' := m_X12_has) (as := [.int (iz 8), .int (iz 0)]) (rest := []) rfl (n_has_8_0 _ (cmH z zl (uf f 22 od) fl tx)   ) (fun v43 h44 q45 => ?_)
  obtain ⟨rfl, rfl⟩ := q45
  refine Rx.walk 0 (pc' := 22) (L' := [some (.ref 0), some (.int (iz 4)), some (.int (iz 3)), some (.int (iz 0)), some (.int (iz 8)), some (.int (iz 1))]) (st' := [.int (iz 0)]) (h' := cmH z zl (uf f 22 od) fl tx) rfl ?_
  refine Rx.ne1 rfl rfl ⟨by omega, by omega⟩ (fun b46 => by omega) (fun b46 => ?_)
  refine Rx.walk 4 (pc' := 32) (L' := [some (.ref 0), some (.int (iz 4)), some (.int (iz 3)), some (.int (iz 0)), some (.int (iz 8)), some (.int (iz 1))]) (st' := [.int (iz 1), .ref 22, .int (iz 0)]) (h' := cmH z zl (uf f 22 od) fl tx) rfl ?_
  refine Rx.ial (g := od) rfl rfl (by omega) (by omega) (by omega) ?_
  rw [show (od 1) = 2 from h1]
  refine Rx.eq2 rfl rfl ⟨by omega, by omega⟩ ⟨by omega, by omega⟩ (fun b47 => by omega) (fun b47 => ?_)
  refine Rx.walk 3 (pc' := 40) (L' := [some (.ref 0), some (.int (iz 4)), some (.int (iz 3)), some (.int (iz 0)), some (.int (iz 8)), some (.int (iz 1))]) (st' := [.int (iz 0), .int (iz 8), .int (iz 3)]) (h' := cmH z zl (uf f 22 od) fl tx) rfl ?_
  refine Rx.callx (m' := m_X12_has) (as := [.int (iz 8), .int (iz 0)]) (rest := [.int (iz 3)]) rfl (n_has_8_0 _ (cmH z zl (uf f 22 od) fl tx)   ) (fun v48 h49 q50 => ?_)
  obtain ⟨rfl, rfl⟩ := q50
  refine Rx.walk 0 (pc' := 43) (L' := [some (.ref 0), some (.int (iz 4)), some (.int (iz 3)), some (.int (iz 0)), some (.int (iz 8)), some (.int (iz 1))]) (st' := [.int (iz 0), .int (iz 3)]) (h' := cmH z zl (uf f 22 od) fl tx) rfl ?_
  refine Rx.eq1 rfl rfl ⟨by omega, by omega⟩ (fun b51 => ?_) (fun b51 => by omega)
  refine Rx.walk 1 (pc' := 51) (L' := [some (.ref 0), some (.int (iz 4)), some (.int (iz 3)), some (.int (iz 0)), some (.int (iz 8)), some (.int (iz 1))]) (st' := [.int (iz 1), .int (iz 3)]) (h' := cmH z zl (uf f 22 od) fl tx) rfl ?_
  refine Rx.iadd rfl ?_
  refine Rx.walk 0 (pc' := 52) (L' := [some (.ref 0), some (.int (iz 4)), some (.int (iz 3)), some (.int (iz 0)), some (.int (iz 8)), some (.int (iz 1))]) (st' := [.int (iz 4)]) (h' := cmH z zl (uf f 22 od) fl tx) rfl ?_
  refine Rx.walk 3 (pc' := 55) (L' := [some (.ref 0), some (.int (iz 4)), some (.int (iz 4)), some (.int (iz 0)), some (.int (iz 8)), some (.int (iz 1))]) (st' := [.int (iz 1), .int (iz 0)]) (h' := cmH z zl (uf f 22 od) fl tx) rfl ?_
  refine Rx.iadd rfl ?_
  refine Rx.walk 0 (pc' := 56) (L' := [some (.ref 0), some (.int (iz 4)), some (.int (iz 4)), some (.int (iz 0)), some (.int (iz 8)), some (.int (iz 1))]) (st' := [.int (iz 1)]) (h' := cmH z zl (uf f 22 od) fl tx) rfl ?_
  refine Rx.walk 1 (pc' := 57) (L' := [some (.ref 0), some (.int (iz 4)), some (.int (iz 4)), some (.int (iz 0)), some (.int (iz 8)), some (.int (iz 1))]) (st' := [.int (iz 4), .int (iz 1)]) (h' := cmH z zl (uf f 22 od) fl tx) rfl ?_
  refine Rx.irem rfl ⟨by omega, by omega⟩ ⟨by omega, by omega⟩ (by omega) (by omega) ?_
  refine Rx.walk 4 (pc' := 19) (L' := [some (.ref 0), some (.int (iz 4)), some (.int (iz 4)), some (.int (iz 1)), some (.int (iz 8)), some (.int (iz 1))]) (st' := [.int (iz 1), .int (iz 8)]) (h' := cmH z zl (uf f 22 od) fl tx) rfl ?_
  refine Rx.callx (m' := m_X12_has) (as := [.int (iz 8), .int (iz 1)]) (rest := []) rfl (n_has_8_1 _ (cmH z zl (uf f 22 od) fl tx)   ) (fun v52 h53 q54 => ?_)
  obtain ⟨rfl, rfl⟩ := q54
  refine Rx.walk 0 (pc' := 22) (L' := [some (.ref 0), some (.int (iz 4)), some (.int (iz 4)), some (.int (iz 1)), some (.int (iz 8)), some (.int (iz 1))]) (st' := [.int (iz 0)]) (h' := cmH z zl (uf f 22 od) fl tx) rfl ?_
  refine Rx.ne1 rfl rfl ⟨by omega, by omega⟩ (fun b55 => by omega) (fun b55 => ?_)
  refine Rx.walk 4 (pc' := 32) (L' := [some (.ref 0), some (.int (iz 4)), some (.int (iz 4)), some (.int (iz 1)), some (.int (iz 8)), some (.int (iz 1))]) (st' := [.int (iz 1), .ref 22, .int (iz 1)]) (h' := cmH z zl (uf f 22 od) fl tx) rfl ?_
  refine Rx.ial (g := od) rfl rfl (by omega) (by omega) (by omega) ?_
  rw [show (od 1) = 2 from h1]
  refine Rx.eq2 rfl rfl ⟨by omega, by omega⟩ ⟨by omega, by omega⟩ (fun b56 => by omega) (fun b56 => ?_)
  refine Rx.walk 3 (pc' := 40) (L' := [some (.ref 0), some (.int (iz 4)), some (.int (iz 4)), some (.int (iz 1)), some (.int (iz 8)), some (.int (iz 1))]) (st' := [.int (iz 1), .int (iz 8), .int (iz 4)]) (h' := cmH z zl (uf f 22 od) fl tx) rfl ?_
  refine Rx.callx (m' := m_X12_has) (as := [.int (iz 8), .int (iz 1)]) (rest := [.int (iz 4)]) rfl (n_has_8_1 _ (cmH z zl (uf f 22 od) fl tx)   ) (fun v57 h58 q59 => ?_)
  obtain ⟨rfl, rfl⟩ := q59
  refine Rx.walk 0 (pc' := 43) (L' := [some (.ref 0), some (.int (iz 4)), some (.int (iz 4)), some (.int (iz 1)), some (.int (iz 8)), some (.int (iz 1))]) (st' := [.int (iz 0), .int (iz 4)]) (h' := cmH z zl (uf f 22 od) fl tx) rfl ?_
  refine Rx.eq1 rfl rfl ⟨by omega, by omega⟩ (fun b60 => ?_) (fun b60 => by omega)
  refine Rx.walk 1 (pc' := 51) (L' := [some (.ref 0), some (.int (iz 4)), some (.int (iz 4)), some (.int (iz 1)), some (.int (iz 8)), some (.int (iz 1))]) (st' := [.int (iz 1), .int (iz 4)]) (h' := cmH z zl (uf f 22 od) fl tx) rfl ?_
  refine Rx.iadd rfl ?_
  refine Rx.walk 0 (pc' := 52) (L' := [some (.ref 0), some (.int (iz 4)), some (.int (iz 4)), some (.int (iz 1)), some (.int (iz 8)), some (.int (iz 1))]) (st' := [.int (iz 5)]) (h' := cmH z zl (uf f 22 od) fl tx) rfl ?_
  refine Rx.walk 3 (pc' := 55) (L' := [some (.ref 0), some (.int (iz 4)), some (.int (iz 5)), some (.int (iz 1)), some (.int (iz 8)), some (.int (iz 1))]) (st' := [.int (iz 1), .int (iz 1)]) (h' := cmH z zl (uf f 22 od) fl tx) rfl ?_
  refine Rx.iadd rfl ?_
  refine Rx.walk 0 (pc' := 56) (L' := [some (.ref 0), some (.int (iz 4)), some (.int (iz 5)), some (.int (iz 1)), some (.int (iz 8)), some (.int (iz 1))]) (st' := [.int (iz 2)]) (h' := cmH z zl (uf f 22 od) fl tx) rfl ?_
  refine Rx.walk 1 (pc' := 57) (L' := [some (.ref 0), some (.int (iz 4)), some (.int (iz 5)), some (.int (iz 1)), some (.int (iz 8)), some (.int (iz 1))]) (st' := [.int (iz 4), .int (iz 2)]) (h' := cmH z zl (uf f 22 od) fl tx) rfl ?_
  refine Rx.irem rfl ⟨by omega, by omega⟩ ⟨by omega, by omega⟩ (by omega) (by omega) ?_
  refine Rx.walk 4 (pc' := 19) (L' := [some (.ref 0), some (.int (iz 4)), some (.int (iz 5)), some (.int (iz 2)), some (.int (iz 8)), some (.int (iz 1))]) (st' := [.int (iz 2), .int (iz 8)]) (h' := cmH z zl (uf f 22 od) fl tx) rfl ?_
  refine Rx.callx (m' := m_X12_has) (as := [.int (iz 8), .int (iz 2)]) (rest := []) rfl (n_has_8_2 _ (cmH z zl (uf f 22 od) fl tx)   ) (fun v61 h62 q63 => ?_)
  obtain ⟨rfl, rfl⟩ := q63
  refine Rx.walk 0 (pc' := 22) (L' := [some (.ref 0), some (.int (iz 4)), some (.int (iz 5)), some (.int (iz 2)), some (.int (iz 8)), some (.int (iz 1))]) (st' := [.int (iz 0)]) (h' := cmH z zl (uf f 22 od) fl tx) rfl ?_
  refine Rx.ne1 rfl rfl ⟨by omega, by omega⟩ (fun b64 => by omega) (fun b64 => ?_)
  refine Rx.walk 4 (pc' := 32) (L' := [some (.ref 0), some (.int (iz 4)), some (.int (iz 5)), some (.int (iz 2)), some (.int (iz 8)), some (.int (iz 1))]) (st' := [.int (iz 1), .ref 22, .int (iz 2)]) (h' := cmH z zl (uf f 22 od) fl tx) rfl ?_
  refine Rx.ial (g := od) rfl rfl (by omega) (by omega) (by omega) ?_
  rw [show (od 1) = 2 from h1]
  refine Rx.eq2 rfl rfl ⟨by omega, by omega⟩ ⟨by omega, by omega⟩ (fun b65 => ?_) (fun b65 => by omega)
  refine Rx.walk 3 (pc' := 66) (L' := [some (.ref 0), some (.int (iz 4)), some (.int (iz 5)), some (.int (iz 2)), some (.int (iz 8)), some (.int (iz 1))]) (st' := [.int (iz 2), .int (iz 1), .int (iz 8)]) (h' := cmH z zl (uf f 22 od) fl tx) rfl ?_
  refine Rx.ishl (c := 4) rfl (by decide) ?_
  refine Rx.ior (c := 12) rfl (by decide) ?_
  refine Rx.walk 1 (pc' := 70) (L' := [some (.ref 0), some (.int (iz 4)), some (.int (iz 5)), some (.int (iz 2)), some (.int (iz 12)), some (.int (iz 1))]) (st' := []) (h' := cmH z zl (uf f 22 od) fl tx) rfl ?_
  refine Rx.iinc (b := 1) rfl rfl rfl ?_
  refine Rx.walk 0 (pc' := 73) (L' := [some (.ref 0), some (.int (iz 4)), some (.int (iz 5)), some (.int (iz 2)), some (.int (iz 12)), some (.int (iz 2))]) (st' := []) (h' := cmH z zl (uf f 22 od) fl tx) rfl ?_
  refine Rx.walk 3 (pc' := 13) (L' := [some (.ref 0), some (.int (iz 4)), some (.int (iz 5)), some (.int (iz 2)), some (.int (iz 12)), some (.int (iz 2))]) (st' := [.int (iz 4), .int (iz 2)]) (h' := cmH z zl (uf f 22 od) fl tx) rfl ?_
  refine Rx.ge2 rfl rfl ⟨by omega, by omega⟩ ⟨by omega, by omega⟩ (fun b66 => by omega) (fun b66 => ?_)
  refine Rx.walk 2 (pc' := 19) (L' := [some (.ref 0), some (.int (iz 4)), some (.int (iz 5)), some (.int (iz 2)), some (.int (iz 12)), some (.int (iz 2))]) (st' := [.int (iz 2), .int (iz 12)]) (h' := cmH z zl (uf f 22 od) fl tx) rfl ?_
  refine Rx.callx (m' := m_X12_has) (as := [.int (iz 12), .int (iz 2)]) (rest := []) rfl (n_has_12_2 _ (cmH z zl (uf f 22 od) fl tx)   ) (fun v67 h68 q69 => ?_)
  obtain ⟨rfl, rfl⟩ := q69
  refine Rx.walk 0 (pc' := 22) (L' := [some (.ref 0), some (.int (iz 4)), some (.int (iz 5)), some (.int (iz 2)), some (.int (iz 12)), some (.int (iz 2))]) (st' := [.int (iz 1)]) (h' := cmH z zl (uf f 22 od) fl tx) rfl ?_
  refine Rx.ne1 rfl rfl ⟨by omega, by omega⟩ (fun b70 => ?_) (fun b70 => by omega)
  refine Rx.walk 3 (pc' := 40) (L' := [some (.ref 0), some (.int (iz 4)), some (.int (iz 5)), some (.int (iz 2)), some (.int (iz 12)), some (.int (iz 2))]) (st' := [.int (iz 2), .int (iz 12), .int (iz 5)]) (h' := cmH z zl (uf f 22 od) fl tx) rfl ?_
  refine Rx.callx (m' := m_X12_has) (as := [.int (iz 12), .int (iz 2)]) (rest := [.int (iz 5)]) rfl (n_has_12_2 _ (cmH z zl (uf f 22 od) fl tx)   ) (fun v71 h72 q73 => ?_)
  obtain ⟨rfl, rfl⟩ := q73
  refine Rx.walk 0 (pc' := 43) (L' := [some (.ref 0), some (.int (iz 4)), some (.int (iz 5)), some (.int (iz 2)), some (.int (iz 12)), some (.int (iz 2))]) (st' := [.int (iz 1), .int (iz 5)]) (h' := cmH z zl (uf f 22 od) fl tx) rfl ?_
  refine Rx.eq1 rfl rfl ⟨by omega, by omega⟩ (fun b74 => by omega) (fun b74 => ?_)
  refine Rx.walk 2 (pc' := 51) (L' := [some (.ref 0), some (.int (iz 4)), some (.int (iz 5)), some (.int (iz 2)), some (.int (iz 12)), some (.int (iz 2))]) (st' := [.int (iz 0), .int (iz 5)]) (h' := cmH z zl (uf f 22 od) fl tx) rfl ?_
  refine Rx.iadd rfl ?_
  refine Rx.walk 0 (pc' := 52) (L' := [some (.ref 0), some (.int (iz 4)), some (.int (iz 5)), some (.int (iz 2)), some (.int (iz 12)), some (.int (iz 2))]) (st' := [.int (iz 5)]) (h' := cmH z zl (uf f 22 od) fl tx) rfl ?_
  refine Rx.walk 3 (pc' := 55) (L' := [some (.ref 0), some (.int (iz 4)), some (.int (iz 5)), some (.int (iz 2)), some (.int (iz 12)), some (.int (iz 2))]) (st' := [.int (iz 1), .int (iz 2)]) (h' := cmH z zl (uf f 22 od) fl tx) rfl ?_
  refine Rx.iadd rfl ?_
  refine Rx.walk 0 (pc' := 56) (L' := [some (.ref 0), some (.int (iz 4)), some (.int (iz 5)), some (.int (iz 2)), some (.int (iz 12)), some (.int (iz 2))]) (st' := [.int (iz 3)]) (h' := cmH z zl (uf f 22 od) fl tx) rfl ?_
  refine Rx.walk 1 (pc' := 57) (L' := [some (.ref 0), some (.int (iz 4)), some (.int (iz 5)), some (.int (iz 2)), some (.int (iz 12)), some (.int (iz 2))]) (st' := [.int (iz 4), .int (iz 3)]) (h' := cmH z zl (uf f 22 od) fl tx) rfl ?_
  refine Rx.irem rfl ⟨by omega, by omega⟩ ⟨by omega, by omega⟩ (by omega) (by omega) ?_
  refine Rx.walk 4 (pc' := 19) (L' := [some (.ref 0), some (.int (iz 4)), some (.int (iz 5)), some (.int (iz 3)), some (.int (iz 12)), some (.int (iz 2))]) (st' := [.int (iz 3), .int (iz 12)]) (h' := cmH z zl (uf f 22 od) fl tx) rfl ?_
  refine Rx.callx (m' := m_X12_has) (as := [.int (iz 12), .int (iz 3)]) (rest := []) rfl (n_has_12_3 _ (cmH z zl (uf f 22 od) fl tx)   ) (fun v75 h76 q77 => ?_)
  obtain ⟨rfl, rfl⟩ := q77
  refine Rx.walk 0 (pc' := 22) (L' := [some (.ref 0), some (.int (iz 4)), some (.int (iz 5)), some (.int (iz 3)), some (.int (iz 12)), some (.int (iz 2))]) (st' := [.int (iz 1)]) (h' := cmH z zl (uf f 22 od) fl tx) rfl ?_
  refine Rx.ne1 rfl rfl ⟨by omega, by omega⟩ (fun b78 => ?_) (fun b78 => by omega)
  refine Rx.walk 3 (pc' := 40) (L' := [some (.ref 0), some (.int (iz 4)), some (.int (iz 5)), some (.int (iz 3)), some (.int (iz 12)), some (.int (iz 2))]) (st' := [.int (iz 3), .int (iz 12), .int (iz 5)]) (h' := cmH z zl (uf f 22 od) fl tx) rfl ?_
  refine Rx.callx (m' := m_X12_has) (as := [.int (iz 12), .int (iz 3)]) (rest := [.int (iz 5)]) rfl (n_has_12_3 _ (cmH z zl (uf f 22 od) fl tx)   ) (fun v79 h80 q81 => ?_)
  obtain ⟨rfl, rfl⟩ := q81
  refine Rx.walk 0 (pc' := 43) (L' := [some (.ref 0), some (.int (iz 4)), some (.int (iz 5)), some (.int (iz 3)), some (.int (iz 12)), some (.int (iz 2))]) (st' := [.int (iz 1), .int (iz 5)]) (h' := cmH z zl (uf f 22 od) fl tx) rfl ?_
  refine Rx.eq1 rfl rfl ⟨by omega, by omega⟩ (fun b82 => by omega) (fun b82 => ?_)
  refine Rx.walk 2 (pc' := 51) (L' := [some (.ref 0), some (.int (iz 4)), some (.int (iz 5)), some (.int (iz 3)), some (.int (iz 12)), some (.int (iz 2))]) (st' := [.int (iz 0), .int (iz 5)]) (h' := cmH z zl (uf f 22 od) fl tx) rfl ?_
  refine Rx.iadd rfl ?_
  refine Rx.walk 0 (pc' := 52) (L' := [some (.ref 0), some (.int (iz 4)), some (.int (iz 5)), some (.int (iz 3)), some (.int (iz 12)), some (.int (iz 2))]) (st' := [.int (iz 5)]) (h' := cmH z zl (uf f 22 od) fl tx) rfl ?_
  refine Rx.walk 3 (pc' := 55) (L' := [some (.ref 0), some (.int (iz 4)), some (.int (iz 5)), some (.int (iz 3)), some (.int (iz 12)), some (.int (iz 2))]) (st' := [.int (iz 1), .int (iz 3)]) (h' := cmH z zl (uf f 22 od) fl tx) rfl ?_
  refine Rx.iadd rfl ?_
  refine Rx.walk 0 (pc' := 56) (L' := [some (.ref 0), some (.int (iz 4)), some (.int (iz 5)), some (.int (iz 3)), some (.int (iz 12)), some (.int (iz 2))]) (st' := [.int (iz 4)]) (h' := cmH z zl (uf f 22 od) fl tx) rfl ?_
  refine Rx.walk 1 (pc' := 57) (L' := [some (.ref 0), some (.int (iz 4)), some (.int (iz 5)), some (.int (iz 3)), some (.int (iz 12)), some (.int (iz 2))]) (st' := [.int (iz 4), .int (iz 4)]) (h' := cmH z zl (uf f 22 od) fl tx) rfl ?_
  refine Rx.irem rfl ⟨by omega, by omega⟩ ⟨by omega, by omega⟩ (by omega) (by omega) ?_
  refine Rx.walk 4 (pc' := 19) (L' := [some (.ref 0), some (.int (iz 4)), some (.int (iz 5)), some (.int (iz 0)), some (.int (iz 12)), some (.int (iz 2))]) (st' := [.int (iz 0), .int (iz 12)]) (h' := cmH z zl (uf f 22 od) fl tx) rfl ?_
  refine Rx.callx (m' := m_X12_has) (as := [.int (iz 12), .int (iz 0)]) (rest := []) rfl (n_has_12_0 _ (cmH z zl (uf f 22 od) fl tx)   ) (fun v83 h84 q85 => ?_)
  obtain ⟨rfl, rfl⟩ := q85
  refine Rx.walk 0 (pc' := 22) (L' := [some (.ref 0), some (.int (iz 4)), some (.int (iz 5)), some (.int (iz 0)), some (.int (iz 12)), some (.int (iz 2))]) (st' := [.int (iz 0)]) (h' := cmH z zl (uf f 22 od) fl tx) rfl ?_
  refine Rx.ne1 rfl rfl ⟨by omega, by omega⟩ (fun b86 => by omega) (fun b86 => ?_)
  refine Rx.walk 4 (pc' := 32) (L' := [some (.ref 0), some (.int (iz 4)), some (.int (iz 5)), some (.int (iz 0)), some (.int (iz 12)), some (.int (iz 2))]) (st' := [.int (iz 2), .ref 22, .int (iz 0)]) (h' := cmH z zl (uf f 22 od) fl tx) rfl ?_
  refine Rx.ial (g := od) rfl rfl (by omega) (by omega) (by omega) ?_
  rw [show (od 2) = 0 from h2]
  refine Rx.eq2 rfl rfl ⟨by omega, by omega⟩ ⟨by omega, by omega⟩ (fun b87 => ?_) (fun b87 => by omega)
  refine Rx.walk 3 (pc' := 66) (L' := [some (.ref 0), some (.int (iz 4)), some (.int (iz 5)), some (.int (iz 0)), some (.int (iz 12)), some (.int (iz 2))]) (st' := [.int (iz 0), .int (iz 1), .int (iz 12)]) (h' := cmH z zl (uf f 22 od) fl tx) rfl ?_
  refine Rx.ishl (c := 1) rfl (by decide) ?_
  refine Rx.ior (c := 13) rfl (by decide) ?_
  refine Rx.walk 1 (pc' := 70) (L' := [some (.ref 0), some (.int (iz 4)), some (.int (iz 5)), some (.int (iz 0)), some (.int (iz 13)), some (.int (iz 2))]) (st' := []) (h' := cmH z zl (uf f 22 od) fl tx) rfl ?_
  refine Rx.iinc (b := 1) rfl rfl rfl ?_
  refine Rx.walk 0 (pc' := 73) (L' := [some (.ref 0), some (.int (iz 4)), some (.int (iz 5)), some (.int (iz 0)), some (.int (iz 13)), some (.int (iz 3))]) (st' := []) (h' := cmH z zl (uf f 22 od) fl tx) rfl ?_
  refine Rx.walk 3 (pc' := 13) (L' := [some (.ref 0), some (.int (iz 4)), some (.int (iz 5)), some (.int (iz 0)), some (.int (iz 13)), some (.int (iz 3))]) (st' := [.int (iz 4), .int (iz 3)]) (h' := cmH z zl (uf f 22 od) fl tx) rfl ?_
  refine Rx.ge2 rfl rfl ⟨by omega, by omega⟩ ⟨by omega, by omega⟩ (fun b88 => by omega) (fun b88 => ?_)
  refine Rx.walk 2 (pc' := 19) (L' := [some (.ref 0), some (.int (iz 4)), some (.int (iz 5)), some (.int (iz 0)), some (.int (iz 13)), some (.int (iz 3))]) (st' := [.int (iz 0), .int (iz 13)]) (h' := cmH z zl (uf f 22 od) fl tx) rfl ?_
  refine Rx.callx (m' := m_X12_has) (as := [.int (iz 13), .int (iz 0)]) (rest := []) rfl (n_has_13_0 _ (cmH z zl (uf f 22 od) fl tx)   ) (fun v89 h90 q91 => ?_)
  obtain ⟨rfl, rfl⟩ := q91
  refine Rx.walk 0 (pc' := 22) (L' := [some (.ref 0), some (.int (iz 4)), some (.int (iz 5)), some (.int (iz 0)), some (.int (iz 13)), some (.int (iz 3))]) (st' := [.int (iz 1)]) (h' := cmH z zl (uf f 22 od) fl tx) rfl ?_
  refine Rx.ne1 rfl rfl ⟨by omega, by omega⟩ (fun b92 => ?_) (fun b92 => by omega)
  refine Rx.walk 3 (pc' := 40) (L' := [some (.ref 0), some (.int (iz 4)), some (.int (iz 5)), some (.int (iz 0)), some (.int (iz 13)), some (.int (iz 3))]) (st' := [.int (iz 0), .int (iz 13), .int (iz 5)]) (h' := cmH z zl (uf f 22 od) fl tx) rfl ?_
  refine Rx.callx (m' := m_X12_has) (as := [.int (iz 13), .int (iz 0)]) (rest := [.int (iz 5)]) rfl (n_has_13_0 _ (cmH z zl (uf f 22 od) fl tx)   ) (fun v93 h94 q95 => ?_)
  obtain ⟨rfl, rfl⟩ := q95
  refine Rx.walk 0 (pc' := 43) (L' := [some (.ref 0), some (.int (iz 4)), some (.int (iz 5)), some (.int (iz 0)), some (.int (iz 13)), some (.int (iz 3))]) (st' := [.int (iz 1), .int (iz 5)]) (h' := cmH z zl (uf f 22 od) fl tx) rfl ?_
  refine Rx.eq1 rfl rfl ⟨by omega, by omega⟩ (fun b96 => by omega) (fun b96 => ?_)
  refine Rx.walk 2 (pc' := 51) (L' := [some (.ref 0), some (.int (iz 4)), some (.int (iz 5)), some (.int (iz 0)), some (.int (iz 13)), some (.int (iz 3))]) (st' := [.int (iz 0), .int (iz 5)]) (h' := cmH z zl (uf f 22 od) fl tx) rfl ?_
  refine Rx.iadd rfl ?_
  refine Rx.walk 0 (pc' := 52) (L' := [some (.ref 0), some (.int (iz 4)), some (.int (iz 5)), some (.int (iz 0)), some (.int (iz 13)), some (.int (iz 3))]) (st' := [.int (iz 5)]) (h' := cmH z zl (uf f 22 od) fl tx) rfl ?_
  refine Rx.walk 3 (pc' := 55) (L' := [some (.ref 0), some (.int (iz 4)), some (.int (iz 5)), some (.int (iz 0)), some (.int (iz 13)), some (.int (iz 3))]) (st' := [.int (iz 1), .int (iz 0)]) (h' := cmH z zl (uf f 22 od) fl tx) rfl ?_
  refine Rx.iadd rfl ?_
  refine Rx.walk 0 (pc' := 56) (L' := [some (.ref 0), some (.int (iz 4)), some (.int (iz 5)), some (.int (iz 0)), some (.int (iz 13)), some (.int (iz 3))]) (st' := [.int (iz 1)]) (h' := cmH z zl (uf f 22 od) fl tx) rfl ?_
  refine Rx.walk 1 (pc' := 57) (L' := [some (.ref 0), some (.int (iz 4)), some (.int (iz 5)), some (.int (iz 0)), some (.int (iz 13)), some (.int (iz 3))]) (st' := [.int (iz 4), .int (iz 1)]) (h' := cmH z zl (uf f 22 od) fl tx) rfl ?_
  refine Rx.irem rfl ⟨by omega, by omega⟩ ⟨by omega, by omega⟩ (by omega) (by omega) ?_
  refine Rx.walk 4 (pc' := 19) (L' := [some (.ref 0), some (.int (iz 4)), some (.int (iz 5)), some (.int (iz 1)), some (.int (iz 13)), some (.int (iz 3))]) (st' := [.int (iz 1), .int (iz 13)]) (h' := cmH z zl (uf f 22 od) fl tx) rfl ?_
  refine Rx.callx (m' := m_X12_has) (as := [.int (iz 13), .int (iz 1)]) (rest := []) rfl (n_has_13_1 _ (cmH z zl (uf f 22 od) fl tx)   ) (fun v97 h98 q99 => ?_)
  obtain ⟨rfl, rfl⟩ := q99
  refine Rx.walk 0 (pc' := 22) (L' := [some (.ref 0), some (.int (iz 4)), some (.int (iz 5)), some (.int (iz 1)), some (.int (iz 13)), some (.int (iz 3))]) (st' := [.int (iz 0)]) (h' := cmH z zl (uf f 22 od) fl tx) rfl ?_
  refine Rx.ne1 rfl rfl ⟨by omega, by omega⟩ (fun b100 => by omega) (fun b100 => ?_)
  refine Rx.walk 4 (pc' := 32) (L' := [some (.ref 0), some (.int (iz 4)), some (.int (iz 5)), some (.int (iz 1)), some (.int (iz 13)), some (.int (iz 3))]) (st' := [.int (iz 3), .ref 22, .int (iz 1)]) (h' := cmH z zl (uf f 22 od) fl tx) rfl ?_
  refine Rx.ial (g := od) rfl rfl (by omega) (by omega) (by omega) ?_
  rw [show (od 3) = 1 from h3]
  refine Rx.eq2 rfl rfl ⟨by omega, by omega⟩ ⟨by omega, by omega⟩ (fun b101 => ?_) (fun b101 => by omega)
  refine Rx.walk 3 (pc' := 66) (L' := [some (.ref 0), some (.int (iz 4)), some (.int (iz 5)), some (.int (iz 1)), some (.int (iz 13)), some (.int (iz 3))]) (st' := [.int (iz 1), .int (iz 1), .int (iz 13)]) (h' := cmH z zl (uf f 22 od) fl tx) rfl ?_
  refine Rx.ishl (c := 2) rfl (by decide) ?_
  refine Rx.ior (c := 15) rfl (by decide) ?_
  refine Rx.walk 1 (pc' := 70) (L' := [some (.ref 0), some (.int (iz 4)), some (.int (iz 5)), some (.int (iz 1)), some (.int (iz 15)), some (.int (iz 3))]) (st' := []) (h' := cmH z zl (uf f 22 od) fl tx) rfl ?_
  refine Rx.iinc (b := 1) rfl rfl rfl ?_
  refine Rx.walk 0 (pc' := 73) (L' := [some (.ref 0), some (.int (iz 4)), some (.int (iz 5)), some (.int (iz 1)), some (.int (iz 15)), some (.int (iz 4))]) (st' := []) (h' := cmH z zl (uf f 22 od) fl tx) rfl ?_
  refine Rx.walk 3 (pc' := 13) (L' := [some (.ref 0), some (.int (iz 4)), some (.int (iz 5)), some (.int (iz 1)), some (.int (iz 15)), some (.int (iz 4))]) (st' := [.int (iz 4), .int (iz 4)]) (h' := cmH z zl (uf f 22 od) fl tx) rfl ?_
  refine Rx.ge2 rfl rfl ⟨by omega, by omega⟩ ⟨by omega, by omega⟩ (fun b102 => ?_) (fun b102 => by omega)
  refine Rx.walk 1 (pc' := 77) (L' := [some (.ref 0), some (.int (iz 4)), some (.int (iz 5)), some (.int (iz 1)), some (.int (iz 15)), some (.int (iz 4))]) (st' := [.int (iz 5)]) (h' := cmH z zl (uf f 22 od) fl tx) rfl ?_
  refine Rx.ret rfl ?_
  exact ⟨rfl, rfl⟩
set_option maxRecDepth 100000 in
set_option maxHeartbeats 4000000 in
theorem m_stepsOf4_23 (d : Nat) (z : Nat → Int) (zl : Nat → Int) (f : Nat → Int → Int) (fl : Nat → Int → Int) (tx : Nat)  (od : Int → Int) (h0 : od 0 = 3) (h1 : od 1 = 2) (h2 : od 2 = 1) (h3 : od 3 = 0) : Rx (d + 1) m_X12_stepsOf 0 (am_ent [.ref 0, .int (iz 4)] 6) [] (cmH z zl (uf f 22 od) fl tx) (fun rv h => rv = some (.int (iz 6)) ∧ h = cmH z zl (uf f 22 od) fl tx) := by
  refine Rx.walk 0 (pc' := 0) (L' := [some (.ref 0), some (.int (iz 4)), none, none, none, none]) (st' := []) (h' := cmH z zl (uf f 22 od) fl tx) rfl ?_
  refine Rx.walk 10 (pc' := 13) (L' := [some (.ref 0), some (.int (iz 4)), some (.int (iz 0)), some (.int (iz 0)), some (.int (iz 0)), some (.int (iz 0))]) (st' := [.int (iz 4), .int (iz 0)]) (h' := cmH z zl (uf f 22 od) fl tx) rfl ?_
  refine Rx.ge2 rfl rfl ⟨by omega, by omega⟩ ⟨by omega, by omega⟩ (fun b1 => by omega) (fun b1 => ?_)
  refine Rx.walk 2 (pc' := 19) (L' := [some (.ref 0), some (.int (iz 4)), some (.int (iz 0)), some (.int (iz 0)), some (.int (iz 0)), some (.int (iz 0))]) (st' := [.int (iz 0), .int (iz 0)]) (h' := cmH z zl (uf f 22 od) fl tx) rfl ?_
  refine Rx.callx (m' := m_X12_has) (as := [.int (iz 0), .int (iz 0)]) (rest := []) rfl (n_has_0_0 _ (cmH z zl (uf f 22 od) fl tx)   ) (fun v2 h3 q4 => ?_)
  obtain ⟨rfl, rfl⟩ := q4
  refine Rx.walk 0 (pc' := 22) (L' := [some (.ref 0), some (.int (iz 4)), some (.int (iz 0)), some (.int (iz 0)), some (.int (iz 0)), some (.int (iz 0))]) (st' := [.int (iz 0)]) (h' := cmH z zl (uf f 22 od) fl tx) rfl ?_
  refine Rx.ne1 rfl rfl ⟨by omega, by omega⟩ (fun b5 => by omega) (fun b5 => ?_)
  refine Rx.walk 4 (pc' := 32) (L' := [some (.ref 0), some (.int (iz 4)), some (.int (iz 0)), some (.int (iz 0)), some (.int (iz 0)), some (.int (iz 0))]) (st' := [.int (iz 0), .ref 22, .int (iz 0)]) (h' := cmH z zl (uf f 22 od) fl tx) rfl ?_
  refine Rx.ial (g := od) rfl rfl (by omega) (by omega) (by omega) ?_
  rw [show (od 0) = 3 from h0]
  refine Rx.eq2 rfl rfl ⟨by omega, by omega⟩ ⟨by omega, by omega⟩ (fun b6 => by omega) (fun b6 => ?_)
  refine Rx.walk 3 (pc' := 40) (L' := [some (.ref 0), some (.int (iz 4)), some (.int (iz 0)), some (.int (iz 0)), some (.int (iz 0)), some (.int (iz 0))]) (st' := [.int (iz 0), .int (iz 0), .int (iz 0)]) (h' := cmH z zl (uf f 22 od) fl tx) rfl ?_
  refine Rx.callx (m' := m_X12_has) (as := [.int (iz 0), .int (iz 0)]) (rest := [.int (iz 0)]) rfl (n_has_0_0 _ (cmH z zl (uf f 22 od) fl tx)   ) (fun v7 h8 q9 => ?_)
  obtain ⟨rfl, rfl⟩ := q9
  refine Rx.walk 0 (pc' := 43) (L' := [some (.ref 0), some (.int (iz 4)), some (.int (iz 0)), some (.int (iz 0)), some (.int (iz 0)), some (.int (iz 0))]) (st' := [.int (iz 0), .int (iz 0)]) (h' := cmH z zl (uf f 22 od) fl tx) rfl ?_
  refine Rx.eq1 rfl rfl ⟨by omega, by omega⟩ (fun b10 => ?_) (fun b10 => by omega)
  refine Rx.walk 1 (pc' := 51) (L' := [some (.ref 0), some (.int (iz 4)), some (.int (iz 0)), some (.int (iz 0)), some (.int (iz 0)), some (.int (iz 0))]) (st' := [.int (iz 1), .int (iz 0)]) (h' := cmH z zl (uf f 22 od) fl tx) rfl ?_
  refine Rx.iadd rfl ?_
  refine Rx.walk 0 (pc' := 52) (L' := [some (.ref 0), some (.int (iz 4)), some (.int (iz 0)), some (.int (iz 0)), some (.int (iz 0)), some (.int (iz 0))]) (st' := [.int (iz 1)]) (h' := cmH z zl (uf f 22 od) fl tx) rfl ?_
  refine Rx.walk 3 (pc' := 55) (L' := [some (.ref 0), some (.int (iz 4)), some (.int (iz 1)), some (.int (iz 0)), some (.int (iz 0)), some (.int (iz 0))]) (st' := [.int (iz 1), .int (iz 0)]) (h' := cmH z zl (uf f 22 od) fl tx) rfl ?_
  refine Rx.iadd rfl ?_
  refine Rx.walk 0 (pc' := 56) (L' := [some (.ref 0), some (.int (iz 4)), some (.int (iz 1)), some (.int (iz 0)), some (.int (iz 0)), some (.int (iz 0))]) (st' := [.int (iz 1)]) (h' := cmH z zl (uf f 22 od) fl tx) rfl ?_
  refine Rx.walk 1 (pc' := 57) (L' := [some (.ref 0), some (.int (iz 4)), some (.int (iz 1)), some (.int (iz 0)), some (.int (iz 0)), some (.int (iz 0))]) (st' := [.int (iz 4), .int (iz 1)]) (h' := cmH z zl (uf f 22 od) fl tx) rfl ?_
  refine Rx.irem rfl ⟨by omega, by omega⟩ ⟨by omega, by omega⟩ (by omega) (by omega) ?_
  refine Rx.walk 4 (pc' := 19) (L' := [some (.ref 0), some (.int (iz 4)), some (.int (iz 1)), some (.int (iz 1)), some (.int (iz 0)), some (.int (iz 0))]) (st' := [.int (iz 1), .int (iz 0)]) (h' := cmH z zl (uf f 22 od) fl tx) rfl ?_
  refine Rx.callx (m' := m_X12_has) (as := [.int (iz 0), .int (iz 1)]) (rest := []) rfl (n_has_0_1 _ (cmH z zl (uf f 22 od) fl tx)   ) (fun v11 h12 q13 => ?_)
  obtain ⟨rfl, rfl⟩ := q13
  refine Rx.walk 0 (pc' := 22) (L' := [some (.ref 0), some (.int (iz 4)), some (.int (iz 1)), some (.int (iz 1)), some (.int (iz 0)), some (.int (iz 0))]) (st' := [.int (iz 0)]) (h' := cmH z zl (uf f 22 od) fl tx) rfl ?_
  refine Rx.ne1 rfl rfl ⟨by omega, by omega⟩ (fun b14 => by omega) (fun b14 => ?_)
  refine Rx.walk 4 (pc' := 32) (L' := [some (.ref 0), some (.int (iz 4)), some (.int (iz 1)), some (.int (iz 1)), some (.int (iz 0)), some (.int (iz 0))]) (st' := [.int (iz 0), .ref 22, .int (iz 1)]) (h' := cmH z zl (uf f 22 od) fl tx) rfl ?_
  refine Rx.ial (g := od) rfl rfl (by omega) (by omega) (by omega) ?_
  rw [show (od 0) = 3 from h0]
  refine Rx.eq2 rfl rfl ⟨by omega, by omega⟩ ⟨by omega, by omega⟩ (fun b15 => by omega) (fun b15 => ?_)
  refine Rx.walk 3 (pc' := 40) (L' := [some (.ref 0), some (.int (iz 4)), some (.int (iz 1)), some (.int (iz 1)), some (.int (iz 0)), some (.int (iz 0))]) (st' := [.int (iz 1), .int (iz 0), .int (iz 1)]) (h' := cmH z zl (uf f 22 od) fl tx) rfl ?_
  refine Rx.callx (m' := m_X12_has) (as := [.int (iz 0), .int (iz 1)]) (rest := [.int (iz 1)]) rfl (n_has_0_1 _ (cmH z zl (uf f 22 od) fl tx)   ) (fun v16 h17 q18 => ?_)
  obtain ⟨rfl, rfl⟩ := q18
  refine Rx.walk 0 (pc' := 43) (L' := [some (.ref 0), some (.int (iz 4)), some (.int (iz 1)), some (.int (iz 1)), some (.int (iz 0)), some (.int (iz 0))]) (st' := [.int (iz 0), .int (iz 1)]) (h' := cmH z zl (uf f 22 od) fl tx) rfl ?_
  refine Rx.eq1 rfl rfl ⟨by omega, by omega⟩ (fun b19 => ?_) (fun b19 => by omega)
  refine Rx.walk 1 (pc' := 51) (L' := [some (.ref 0), some (.int (iz 4)), some (.int (iz 1)), some (.int (iz 1)), some (.int (iz 0)), some (.int (iz 0))]) (st' := [.int (iz 1), .int (iz 1)]) (h' := cmH z zl (uf f 22 od) fl tx) rfl ?_
  refine Rx.iadd rfl ?_
  refine Rx.walk 0 (pc' := 52) (L' := [some (.ref 0), some (.int (iz 4)), some (.int (iz 1)), some (.int (iz 1)), some (.int (iz 0)), some (.int (iz 0))]) (st' := [.int (iz 2)]) (h' := cmH z zl (uf f 22 od) fl tx) rfl ?_
  refine Rx.walk 3 (pc' := 55) (L' := [some (.ref 0), some (.int (iz 4)), some (.int (iz 2)), some (.int (iz 1)), some (.int (iz 0)), some (.int (iz 0))]) (st' := [.int (iz 1), .int (iz 1)]) (h' := cmH z zl (uf f 22 od) fl tx) rfl ?_
  refine Rx.iadd rfl ?_
  refine Rx.walk 0 (pc' := 56) (L' := [some (.ref 0), some (.int (iz 4)), some (.int (iz 2)), some (.int (iz 1)), some (.int (iz 0)), some (.int (iz 0))]) (st' := [.int (iz 2)]) (h' := cmH z zl (uf f 22 od) fl tx) rfl ?_
  refine Rx.walk 1 (pc' := 57) (L' := [some (.ref 0), some (.int (iz 4)), some (.int (iz 2)), some (.int (iz 1)), some (.int (iz 0)), some (.int (iz 0))]) (st' := [.int (iz 4), .int (iz 2)]) (h' := cmH z zl (uf f 22 od) fl tx) rfl ?_
  refine Rx.irem rfl ⟨by omega, by omega⟩ ⟨by omega, by omega⟩ (by omega) (by omega) ?_
  refine Rx.walk 4 (pc' := 19) (L' := [some (.ref 0), some (.int (iz 4)), some (.int (iz 2)), some (.int (iz 2)), some (.int (iz 0)), some (.int (iz 0))]) (st' := [.int (iz 2), .int (iz 0)]) (h' := cmH z zl (uf f 22 od) fl tx) rfl ?_
  refine Rx.callx (m' := m_X12_has) (as := [.int (iz 0), .int (iz 2)]) (rest := []) rfl (n_has_0_2 _ (cmH z zl (uf f 22 od) fl tx)   ) (fun v20 h21 q22 => ?_)
  obtain ⟨rfl, rfl⟩ := q22
  refine Rx.walk 0 (pc' := 22) (L' := [some (.ref 0), some (.int (iz 4)), some (.int (iz 2)), some (.int (iz 2)), some (.int (iz 0)), some (.int (iz 0))]) (st' := [.int (iz 0)]) (h' := cmH z zl (uf f 22 od) fl tx) rfl ?_
  refine Rx.ne1 rfl rfl ⟨by omega, by omega⟩ (fun b23 => by omega) (fun b23 => ?_)
  refine Rx.walk 4 (pc' := 32) (L' := [some (.ref 0), some (.int (iz 4)), some (.int (iz 2)), some (.int (iz 2)), some (.int (iz 0)), some (.int (iz 0))]) (st' := [.int (iz 0), .ref 22, .int (iz 2)]) (h' := cmH z zl (uf f 22 od) fl tx) rfl ?_
  refine Rx.ial (g := od) rfl rfl (by omega) (by omega) (by omega) ?_
  rw [show (od 0) = 3 from h0]
  refine Rx.eq2 rfl rfl ⟨by omega, by omega⟩ ⟨by omega, by omega⟩ (fun b24 => by omega) (fun b24 => ?_)
  refine Rx.walk 3 (pc' := 40) (L' := [some (.ref 0), some (.int (iz 4)), some (.int (iz 2)), some (.int (iz 2)), some (.int (iz 0)), some (.int (iz 0))]) (st' := [.int (iz 2), .int (iz 0), .int (iz 2)]) (h' := cmH z zl (uf f 22 od) fl tx) rfl ?_
  refine Rx.callx (m' := m_X12_has) (as := [.int (iz 0), .int (iz 2)]) (rest := [.int (iz 2)]) rfl (n_has_0_2 _ (cmH z zl (uf f 22 od) fl tx)   ) (fun v25 h26 q27 => ?_)
  obtain ⟨rfl, rfl⟩ := q27
  refine Rx.walk 0 (pc' := 43) (L' := [some (.ref 0), some (.int (iz 4)), some (.int (iz 2)), some (.int (iz 2)), some (.int (iz 0)), some (.int (iz 0))]) (st' := [.int (iz 0), .int (iz 2)]) (h' := cmH z zl (uf f 22 od) fl tx) rfl ?_
  refine Rx.eq1 rfl rfl ⟨by omega, by omega⟩ (fun b28 => ?_) (fun b28 => by omega)
  refine Rx.walk 1 (pc' := 51) (L' := [some (.ref 0), some (.int (iz 4)), some (.int (iz 2)), some (.int (iz 2)), some (.int (iz 0)), some (.int (iz 0))]) (st' := [.int (iz 1), .int (iz 2)]) (h' := cmH z zl (uf f 22 od) fl tx) rfl ?_
  refine Rx.iadd rfl ?_
  refine Rx.walk 0 (pc' := 52) (L' := [some (.ref 0), some (.int (iz 4)), some (.int (iz 2)), some (.int (iz 2)), some (.int (iz 0)), some (.int (iz 0))]) (st' := [.int (iz 3)]) (h' := cmH z zl (uf f 22 od) fl tx) rfl ?_
  refine Rx.walk 3 (pc' := 55) (L' := [some (.ref 0), some (.int (iz 4)), some (.int (iz 3)), some (.int (iz 2)), some (.int (iz 0)), some (.int (iz 0))]) (st' := [.int (iz 1), .int (iz 2)]) (h' := cmH z zl (uf f 22 od) fl tx) rfl ?_
  refine Rx.iadd rfl ?_
  refine Rx.walk 0 (pc' := 56) (L' := [some (.ref 0), some (.int (iz 4)), some (.int (iz 3)), some (.int (iz 2)), some (.int (iz 0)), some (.int (iz 0))]) (st' := [.int (iz 3)]) (h' := cmH z zl (uf f 22 od) fl tx) rfl ?_
  refine Rx.walk 1 (pc' := 57) (L' := [some (.ref 0), some (.int (iz 4)), some (.int (iz 3)), some (.int (iz 2)), some (.int (iz 0)), some (.int (iz 0))]) (st' := [.int (iz 4), .int (iz 3)]) (h' := cmH z zl (uf f 22 od) fl tx) rfl ?_
  refine Rx.irem rfl ⟨by omega, by omega⟩ ⟨by omega, by omega⟩ (by omega) (by omega) ?_
  refine Rx.walk 4 (pc' := 19) (L' := [some (.ref 0), some (.int (iz 4)), some (.int (iz 3)), some (.int (iz 3)), some (.int (iz 0)), some (.int (iz 0))]) (st' := [.int (iz 3), .int (iz 0)]) (h' := cmH z zl (uf f 22 od) fl tx) rfl ?_
  refine Rx.callx (m' := m_X12_has) (as := [.int (iz 0), .int (iz 3)]) (rest := []) rfl (n_has_0_3 _ (cmH z zl (uf f 22 od) fl tx)   ) (fun v29 h30 q31 => ?_)
  obtain ⟨rfl, rfl⟩ := q31
  refine Rx.walk 0 (pc' := 22) (L' := [some (.ref 0), some (.int (iz 4)), some (.int (iz 3)), some (.int (iz 3)), some (.int (iz 0)), some (.int (iz 0))]) (st' := [.int (iz 0)]) (h' := cmH z zl (uf f 22 od) fl tx) rfl ?_
  refine Rx.ne1 rfl rfl ⟨by omega, by omega⟩ (fun b32 => by omega) (fun b32 => ?_)
  refine Rx.walk 4 (pc' := 32) (L' := [some (.ref 0), some (.int (iz 4)), some (.int (iz 3)), some (.int (iz 3)), some (.int (iz 0)), some (.int (iz 0))]) (st' := [.int (iz 0), .ref 22, .int (iz 3)]) (h' := cmH z zl (uf f 22 od) fl tx) rfl ?_
  refine Rx.ial (g := od) rfl rfl (by omega) (by omega) (by omega) ?_
  rw [show (od 0) = 3 from h0]
  refine Rx.eq2 rfl rfl ⟨by omega, by omega⟩ ⟨by omega, by omega⟩ (fun b33 => ?_) (fun b33 => by omega)
  refine Rx.walk 3 (pc' := 66) (L' := [some (.ref 0), some (.int (iz 4)), some (.int (iz 3)), some (.int (iz 3)), some (.int (iz 0)), some (.int (iz 0))]) (st' := [.int (iz 3), .int (iz 1), .int (iz 0)]) (h' := cmH z zl (uf f 22 od) fl tx) rfl ?_
  refine Rx.ishl (c := 8) rfl (by decide) ?_
  refine Rx.ior (c := 8) rfl (by decide) ?_
  refine Rx.walk 1 (pc' := 70) (L' := [some (.ref 0), some (.int (iz 4)), some (.int (iz 3)), some (.int (iz 3)), some (.int (iz 8)), some (.int (iz 0))]) (st' := []) (h' := cmH z zl (uf f 22 od) fl tx) rfl ?_
  refine Rx.iinc (b := 1) rfl rfl rfl ?_
  refine Rx.walk 0 (pc' := 73) (L' := [some (.ref 0), some (.int (iz 4)), some (.int (iz 3)), some (.int (iz 3)), some (.int (iz 8)), some (.int (iz 1))]) (st' := []) (h' := cmH z zl (uf f 22 od) fl tx) rfl ?_
  refine Rx.walk 3 (pc' := 13) (L' := [some (.ref 0), some (.int (iz 4)), some (.int (iz 3)), some (.int (iz 3)), some (.int (iz 8)), some (.int (iz 1))]) (st' := [.int (iz 4), .int (iz 1)]) (h' := cmH z zl (uf f 22 od) fl tx) rfl ?_
  refine Rx.ge2 rfl rfl ⟨by omega, by omega⟩ ⟨by omega, by omega⟩ (fun b34 => by omega) (fun b34 => ?_)
  refine Rx.walk 2 (pc' := 19) (L' := [some (.ref 0), some (.int (iz 4)), some (.int (iz 3)), some (.int (iz 3)), some (.int (iz 8)), some (.int (iz 1))]) (st' := [.int (iz 3), .int (iz 8)]) (h' := cmH z zl (uf f 22 od) fl tx) rfl ?_
  refine Rx.callx (m' := m_X12_has) (as := [.int (iz 8), .int (iz 3)]) (rest := []) rfl (n_has_8_3 _ (cmH z zl (uf f 22 od) fl tx)   ) (fun v35 h36 q37 => ?_)
  obtain ⟨rfl, rfl⟩ := q37
  refine Rx.walk 0 (pc' := 22) (L' := [some (.ref 0), some (.int (iz 4)), some (.int (iz 3)), some (.int (iz 3)), some (.int (iz 8)), some (.int (iz 1))]) (st' := [.int (iz 1)]) (h' := cmH z zl (uf f 22 od) fl tx) rfl ?_
  refine Rx.ne1 rfl rfl ⟨by omega, by omega⟩ (fun b38 => ?_) (fun b38 => by omega)
  refine Rx.walk 3 (pc' := 40) (L' := [some (.ref 0), some (.int (iz 4)), some (.int (iz 3)), some (.int (iz 3)), some (.int (iz 8)), some (.int (iz 1))]) (st' := [.int (iz 3), .int (iz 8), .int (iz 3)]) (h' := cmH z zl (uf f 22 od) fl tx) rfl ?_
  refine Rx.callx (m' := m_X12_has) (as := [.int (iz 8), .int (iz 3)]) (rest := [.int (iz 3)]) rfl (n_has_8_3 _ (cmH z zl (uf f 22 od) fl tx)   ) (fun v39 h40 q41 => ?_)
  obtain ⟨rfl, rfl⟩ := q41
  refine Rx.walk 0 (pc' := 43) (L' := [some (.ref 0), some (.int (iz 4)), some (.int (iz 3)), some (.int (iz 3)), some (.int (iz 8)), some (.int (iz 1))]) (st' := [.int (iz 1), .int (iz 3)]) (h' := cmH z zl (uf f 22 od) fl tx) rfl ?_
  refine Rx.eq1 rfl rfl ⟨by omega, by omega⟩ (fun b42 => by omega) (fun b42 => ?_)
  refine Rx.walk 2 (pc' := 51) (L' := [some (.ref 0), some (.int (iz 4)), some (.int (iz 3)), some (.int (iz 3)), some (.int (iz 8)), some (.int (iz 1))]) (st' := [.int (iz 0), .int (iz 3)]) (h' := cmH z zl (uf f 22 od) fl tx) rfl ?_
  refine Rx.iadd rfl ?_
  refine Rx.walk 0 (pc' := 52) (L' := [some (.ref 0), some (.int (iz 4)), some (.int (iz 3)), some (.int (iz 3)), some (.int (iz 8)), some (.int (iz 1))]) (st' := [.int (iz 3)]) (h' := cmH z zl (uf f 22 od) fl tx) rfl ?_
  refine Rx.walk 3 (pc' := 55) (L' := [some (.ref 0), some (.int (iz 4)), some (.int (iz 3)), some (.int (iz 3)), some (.int (iz 8)), some (.int (iz 1))]) (st' := [.int (iz 1), .int (iz 3)]) (h' := cmH z zl (uf f 22 od) fl tx) rfl ?_
  refine Rx.iadd rfl ?_
  refine Rx.walk 0 (pc' := 56) (L' := [some (.ref 0), some (.int (iz 4)), some (.int (iz 3)), some (.int (iz 3)), some (.int (iz 8)), some (.int (iz 1))]) (st' := [.int (iz 4)]) (h' := cmH z zl (uf f 22 od) fl tx) rfl ?_
  refine Rx.walk 1 (pc' := 57) (L' := [some (.ref 0), some (.int (iz 4)), some (.int (iz 3)), some (.int (iz 3)), some (.int (iz 8)), some (.int (iz 1))]) (st' := [.int (iz 4), .int (iz 4)]) (h' := cmH z zl (uf f 22 od) fl tx) rfl ?_
  refine Rx.irem rfl ⟨by omega, by omega⟩ ⟨by omega, by omega⟩ (by omega) (by omega) ?_
  refine Rx.walk 4 (pc' := 19) (L' := [some (.ref 0), some (.int (iz 4)), some (.int (iz 3)), some (.int (iz 0)), some (.int (iz 8)), some (.int (iz 1))]) (st' := [.int (iz 0), .int (iz 8)]) (h' := cmH z zl (uf f 22 od) fl tx) rfl ?_
  refine Rx.callx (m' := m_X12_has) (as := [.int (iz 8), .int (iz 0)]) (rest := []) rfl (n_has_8_0 _ (cmH z zl (uf f 22 od) fl tx)   ) (fun v43 h44 q45 => ?_)
  obtain ⟨rfl, rfl⟩ := q45
  refine Rx.walk 0 (pc' := 22) (L' := [some (.ref 0), some (.int (iz 4)), some (.int (iz 3)), some (.int (iz 0)), some (.int (iz 8)), some (.int (iz 1))]) (st' := [.int (iz 0)]) (h' := cmH z zl (uf f 22 od) fl tx) rfl ?_
  refine Rx.ne1 rfl rfl ⟨by omega, by omega⟩ (fun b46 => by omega) (fun b46 => ?_)
  refine Rx.walk 4 (pc' := 32) (L' := [some (.ref 0), some (.int (iz 4)), some (.int (iz 3)), some (.int (iz 0)), some (.int (iz 8)), some (.int (iz 1))]) (st' := [.int (iz 1), .ref 22, .int (iz 0)]) (h' := cmH z zl (uf f 22 od) fl tx) rfl ?_
  refine Rx.ial (g := od) rfl rfl (by omega) (by omega) (by omega) ?_
  rw [show (od 1) = 2 from h1]
  refine Rx.eq2 rfl rfl ⟨by omega, by omega⟩ ⟨by omega, by omega⟩ (fun b47 => by omega) (fun b47 => ?_)
  refine Rx.walk 3 (pc' := 40) (L' := [some (.ref 0), some (.int (iz 4)), some (.int (iz 3)), some (.int (iz 0)), some (.int (iz 8)), some (.int (iz 1))]) (st' := [.int (iz 0), .int (iz 8), .int (iz 3)]) (h' := cmH z zl (uf f 22 od) fl tx) rfl ?_
  refine Rx.callx (m' := m_X12_has) (as := [.int (iz 8), .int (iz 0)]) (rest := [.int (iz 3)]) rfl (n_has_8_0 _ (cmH z zl (uf f 22 od) fl tx)   ) (fun v48 h49 q50 => ?_)
  obtain ⟨rfl, rfl⟩ := q50
  refine Rx.walk 0 (pc' := 43) (L' := [some (.ref 0), some (.int (iz 4)), some (.int (iz 3)), some (.int (iz 0)), some (.int (iz 8)), some (.int (iz 1))]) (st' := [.int (iz 0), .int (iz 3)]) (h' := cmH z zl (uf f 22 od) fl tx) rfl ?_
  refine Rx.eq1 rfl rfl ⟨by omega, by omega⟩ (fun b51 => ?_) (fun b51 => by omega)
  refine Rx.walk 1 (pc' := 51) (L' := [some (.ref 0), some (.int (iz 4)), some (.int (iz 3)), some (.int (iz 0)), some (.int (iz 8)), some (.int (iz 1))]) (st' := [.int (iz 1), .int (iz 3)]) (h' := cmH z zl (uf f 22 od) fl tx) rfl ?_
  refine Rx.iadd rfl ?_
  refine Rx.walk 0 (pc' := 52) (L' := [some (.ref 0), some (.int (iz 4)), some (.int (iz 3)), some (.int (iz 0)), some (.int (iz 8)), some (.int (iz 1))]) (st' := [.int (iz 4)]) (h' := cmH z zl (uf f 22 od) fl tx) rfl ?_
  refine Rx.walk 3 (pc' := 55) (L' := [some (.ref 0), some (.int (iz 4)), some (.int (iz 4)), some (.int (iz 0)), some (.int (iz 8)), some (.int (iz 1))]) (st' := [.int (iz 1), .int (iz 0)]) (h' := cmH z zl (uf f 22 od) fl tx) rfl ?_
  refine Rx.iadd rfl ?_
  refine Rx.walk 0 (pc' := 56) (L' := [some (.ref 0), some (.int (iz 4)), some (.int (iz 4)), some (.int (iz 0)), some (.int (iz 8)), some (.int (iz 1))]) (st' := [.int (iz 1)]) (h' := cmH z zl (uf f 22 od) fl tx) rfl ?_
  refine Rx.walk 1 (pc' := 57) (L' := [some (.ref 0), some (.int (iz 4)), some (.int (iz 4)), some (.int (iz 0)), some (.int (iz 8)), some (.int (iz 1))]) (st' := [.int (iz 4), .int (iz 1)]) (h' := cmH z zl (uf f 22 od) fl tx) rfl ?_
  refine Rx.irem rfl ⟨by omega, by omega⟩ ⟨by omega, by omega⟩ (by omega) (by omega) ?_
  refine Rx.walk 4 (pc' := 19) (L' := [some (.ref 0), some (.int (iz 4)), some (.int (iz 4)), some (.int (iz 1)), some (.int (iz 8)), some (.int (iz 1))]) (st' := [.int (iz 1), .int (iz 8)]) (h' := cmH z zl (uf f 22 od) fl tx) rfl ?_
  refine Rx.callx (m' := m_X12_has) (as := [.int (iz 8), .int (iz 1)]) (rest := []) rfl (n_has_8_1 _ (cmH z zl (uf f 22 od) fl tx)   ) (fun v52 h53 q54 => ?_)
  obtain ⟨rfl, rfl⟩ := q54
  refine Rx.walk 0 (pc' := 22) (L' := [some (.ref 0), some (.int (iz 4)), some (.int (iz 4)), some (.int (iz 1)), some (.int (iz 8)), some (.int (iz 1))]) (st' := [.int (iz 0)]) (h' := cmH z zl (uf f 22 od) fl tx) rfl ?_
  refine Rx.ne1 rfl rfl ⟨by omega, by omega⟩ (fun b55 => by omega) (fun b55 => ?_)
  refine Rx.walk 4 (pc' := 32) (L' := [some (.ref 0), some (.int (iz 4)), some (.int (iz 4)), some (.int (iz 1)), some (.int (iz 8)), some (.int (iz 1))]) (st' := [.int (iz 1), .ref 22, .int (iz 1)]) (h' := cmH z zl (uf f 22 od) fl tx) rfl ?_
  refine Rx.ial (g := od) rfl rfl (by omega) (by omega) (by omega) ?_
  rw [show (od 1) = 2 from h1]
  refine Rx.eq2 rfl rfl ⟨by omega, by omega⟩ ⟨by omega, by omega⟩ (fun b56 => by omega) (fun b56 => ?_)
  refine Rx.walk 3 (pc' := 40) (L' := [some (.ref 0), some (.int (iz 4)), some (.int (iz 4)), some (.int (iz 1)), some (.int (iz 8)), some (.int (iz 1))]) (st' := [.int (iz 1), .int (iz 8), .int (iz 4)]) (h' := cmH z zl (uf f 22 od) fl tx) rfl ?_
  refine Rx.callx (m' := m_X12_has) (as := [.int (iz 8), .int (iz 1)]) (rest := [.int (iz 4)]) rfl (n_has_8_1 _ (cmH z zl (uf f 22 od) fl tx)   ) (fun v57 h58 q59 => ?_)
  obtain ⟨rfl, rfl⟩ := q59
  refine Rx.walk 0 (pc' := 43) (L' := [some (.ref 0), some (.int (iz 4)), some (.int (iz 4)), some (.int (iz 1)), some (.int (iz 8)), some (.int (iz 1))]) (st' := [.int (iz 0), .int (iz 4)]) (h' := cmH z zl (uf f 22 od) fl tx) rfl ?_
  refine Rx.eq1 rfl rfl ⟨by omega, by omega⟩ (fun b60 => ?_) (fun b60 => by omega)
  refine Rx.walk 1 (pc' := 51) (L' := [some (.ref 0), some (.int (iz 4)), some (.int (iz 4)), some (.int (iz 1)), some (.int (iz 8)), some (.int (iz 1))]) (st' := [.int (iz 1), .int (iz 4)]) (h' := cmH z zl (uf f 22 od) fl tx) rfl ?_
  refine Rx.iadd rfl ?_
  refine Rx.walk 0 (pc' := 52) (L' := [some (.ref 0), some (.int (iz 4)), some (.int (iz 4)), some (.int (iz 1)), some (.int (iz 8)), some (.int (iz 1))]) (st' := [.int (iz 5)]) (h' := cmH z zl (uf f 22 od) fl tx) rfl ?_
  refine Rx.walk 3 (pc' := 55) (L' := [some (.ref 0), some (.int (iz 4)), some (.int (iz 5)), some (.int (iz 1)), some (.int (iz 8)), some (.int (iz 1))]) (st' := [.int (iz 1), .int (iz 1)]) (h' := cmH z zl (uf f 22 od) fl tx) rfl ?_
  refine Rx.iadd rfl ?_
  refine Rx.walk 0 (pc' := 56) (L' := [some (.ref 0), some (.int (iz 4)), some (.int (iz 5)), some (.int (iz 1)), some (.int (iz 8)), some (.int (iz 1))]) (st' := [.int (iz 2)]) (h' := cmH z zl (uf f 22 od) fl tx) rfl ?_
  refine Rx.walk 1 (pc' := 57) (L' := [some (.ref 0), some (.int (iz 4)), some (.int (iz 5)), some (.int (iz 1)), some (.int (iz 8)), some (.int (iz 1))]) (st' := [.int (iz 4), .int (iz 2)]) (h' := cmH z zl (uf f 22 od) fl tx) rfl ?_
  refine Rx.irem rfl ⟨by omega, by omega⟩ ⟨by omega, by omega⟩ (by omega) (by omega) ?_
  refine Rx.walk 4 (pc' := 19) (L' := [some (.ref 0), some (.int (iz 4)), some (.int (iz 5)), some (.int (iz 2)), some (.int (iz 8)), some (.int (iz 1))]) (st' := [.int (iz 2), .int (iz 8)]) (h' := cmH z zl (uf f 22 od) fl tx) rfl ?_
  refine Rx.callx (m' := m_X12_has) (as := [.int (iz 8), .int (iz 2)]) (rest := []) rfl (n_has_8_2 _ (cmH z zl (uf f 22 od) fl tx)   ) (fun v61 h62 q63 => ?_)
  obtain ⟨rfl, rfl⟩ := q63
  refine Rx.walk 0 (pc' := 22) (L' := [some (.ref 0), some (.int (iz 4)), some (.int (iz 5)), some (.int (iz 2)), some (.int (iz 8)), some (.int (iz 1))]) (st' := [.int (iz 0)]) (h' := cmH z zl (uf f 22 od) fl tx) rfl ?_
  refine Rx.ne1 rfl rfl ⟨by omega, by omega⟩ (fun b64 => by omega) (fun b64 => ?_)
  refine Rx.walk 4 (pc' := 32) (L' := [some (.ref 0), some (.int (iz 4)), some (.int (iz 5)), some (.int (iz 2)), some (.int (iz 8)), some (.int (iz 1))]) (st' := [.int (iz 1), .ref 22, .int (iz 2)]) (h' := cmH z zl (uf f 22 od) fl tx) rfl ?_
  refine Rx.ial (g := od) rfl rfl (by omega) (by omega) (by omega) ?_
  rw [show (od 1) = 2 from h1]
  refine Rx.eq2 rfl rfl ⟨by omega, by omega⟩ ⟨by omega, by omega⟩ (fun b65 => ?_) (fun b65 => by omega)
  refine Rx.walk 3 (pc' := 66) (L' := [some (.ref 0), some (.int (iz 4)), some (.int (iz 5)), some (.int (iz 2)), some (.int (iz 8)), some (.int (iz 1))]) (st' := [.int (iz 2), .int (iz 1), .int (iz 8)]) (h' := cmH z zl (uf f 22 od) fl tx) rfl ?_
  refine Rx.ishl (c := 4) rfl (by decide) ?_
  refine Rx.ior (c := 12) rfl (by decide) ?_
  refine Rx.walk 1 (pc' := 70) (L' := [some (.ref 0), some (.int (iz 4)), some (.int (iz 5)), some (.int (iz 2)), some (.int (iz 12)), some (.int (iz 1))]) (st' := []) (h' := cmH z zl (uf f 22 od) fl tx) rfl ?_
  refine Rx.iinc (b := 1) rfl rfl rfl ?_
  refine Rx.walk 0 (pc' := 73) (L' := [some (.ref 0), some (.int (iz 4)), some (.int (iz 5)), some (.int (iz 2)), some (.int (iz 12)), some (.int (iz 2))]) (st' := []) (h' := cmH z zl (uf f 22 od) fl tx) rfl ?_
  refine Rx.walk 3 (pc' := 13) (L' := [some (.ref 0), some (.int (iz 4)), some (.int (iz 5)), some (.int (iz 2)), some (.int (iz 12)), some (.int (iz 2))]) (st' := [.int (iz 4), .int (iz 2)]) (h' := cmH z zl (uf f 22 od) fl tx) rfl ?_
  refine Rx.ge2 rfl rfl ⟨by omega, by omega⟩ ⟨by omega, by omega⟩ (fun b66 => by omega) (fun b66 => ?_)
  refine Rx.walk 2 (pc' := 19) (L' := [some (.ref 0), some (.int (iz 4)), some (.int (iz 5)), some (.int (iz 2)), some (.int (iz 12)), some (.int (iz 2))]) (st' := [.int (iz 2), .int (iz 12)]) (h' := cmH z zl (uf f 22 od) fl tx) rfl ?_
  refine Rx.callx (m' := m_X12_has) (as := [.int (iz 12), .int (iz 2)]) (rest := []) rfl (n_has_12_2 _ (cmH z zl (uf f 22 od) fl tx)   ) (fun v67 h68 q69 => ?_)
  obtain ⟨rfl, rfl⟩ := q69
  refine Rx.walk 0 (pc' := 22) (L' := [some (.ref 0), some (.int (iz 4)), some (.int (iz 5)), some (.int (iz 2)), some (.int (iz 12)), some (.int (iz 2))]) (st' := [.int (iz 1)]) (h' := cmH z zl (uf f 22 od) fl tx) rfl ?_
  refine Rx.ne1 rfl rfl ⟨by omega, by omega⟩ (fun b70 => ?_) (fun b70 => by omega)
  refine Rx.walk 3 (pc' := 40) (L' := [some (.ref 0), some (.int (iz 4)), some (.int (iz 5)), some (.int (iz 2)), some (.int (iz 12)), some (.int (iz 2))]) (st' := [.int (iz 2), .int (iz 12), .int (iz 5)]) (h' := cmH z zl (uf f 22 od) fl tx) rfl ?_
  refine Rx.callx (m' := m_X12_has) (as := [.int (iz 12), .int (iz 2)]) (rest := [.int (iz 5)]) rfl (n_has_12_2 _ (cmH z zl (uf f 22 od) fl tx)   ) (fun v71 h72 q73 => ?_)
  obtain ⟨rfl, rfl⟩ := q73
  refine Rx.walk 0 (pc' := 43) (L' := [some (.ref 0), some (.int (iz 4)), some (.int (iz 5)), some (.int (iz 2)), some (.int (iz 12)), some (.int (iz 2))]) (st' := [.int (iz 1), .int (iz 5)]) (h' := cmH z zl (uf f 22 od) fl tx) rfl ?_
  refine Rx.eq1 rfl rfl ⟨by omega, by omega⟩ (fun b74 => by omega) (fun b74 => ?_)
  refine Rx.walk 2 (pc' := 51) (L' := [some (.ref 0), some (.int (iz 4)), some (.int (iz 5)), some (.int (iz 2)), some (.int (iz 12)), some (.int (iz 2))]) (st' := [.int (iz 0), .int (iz 5)]) (h' := cmH z zl (uf f 22 od) fl tx) rfl ?_
  refine Rx.iadd rfl ?_
  refine Rx.walk 0 (pc' := 52) (L' := [some (.ref 0), some (.int (iz 4)), some (.int (iz 5)), some (.int (iz 2)), some (.int (iz 12)), some (.int (iz 2))]) (st' := [.int (iz 5)]) (h' := cmH z zl (uf f 22 od) fl tx) rfl ?_
  refine Rx.walk 3 (pc' := 55) (L' := [some (.ref 0), some (.int (iz 4)), some (.int (iz 5)), some (.int (iz 2)), some (.int (iz 12)), some (.int (iz 2))]) (st' := [.int (iz 1), .int (iz 2)]) (h' := cmH z zl (uf f 22 od) fl tx) rfl ?_
  refine Rx.iadd rfl ?_
  refine Rx.walk 0 (pc' := 56) (L' := [some (.ref 0), some (.int (iz 4)), some (.int (iz 5)), some (.int (iz 2)), some (.int (iz 12)), some (.int (iz 2))]) (st' := [.int (iz 3)]) (h' := cmH z zl (uf f 22 od) fl tx) rfl ?_
  refine Rx.walk 1 (pc' := 57) (L' := [some (.ref 0), some (.int (iz 4)), some (.int (iz 5)), some (.int (iz 2)), some (.int (iz 12)), some (.int (iz 2))]) (st' := [.int (iz 4), .int (iz 3)]) (h' := cmH z zl (uf f 22 od) fl tx) rfl ?_
  refine Rx.irem rfl ⟨by omega, by omega⟩ ⟨by omega, by omega⟩ (by omega) (by omega) ?_
  refine Rx.walk 4 (pc' := 19) (L' := [some (.ref 0), some (.int (iz 4)), some (.int (iz 5)), some (.int (iz 3)), some (.int (iz 12)), some (.int (iz 2))]) (st' := [.int (iz 3), .int (iz 12)]) (h' := cmH z zl (uf f 22 od) fl tx) rfl ?_
  refine Rx.callx (m' := m_X12_has) (as := [.int (iz 12), .int (iz 3)]) (rest := []) rfl (n_has_12_3 _ (cmH z zl (uf f 22 od) fl tx)   ) (fun v75 h76 q77 => ?_)
  obtain ⟨rfl, rfl⟩ := q77
  refine Rx.walk 0 (pc' := 22) (L' := [some (.ref 0), some (.int (iz 4)), some (.int (iz 5)), some (.int (iz 3)), some (.int (iz 12)), some (.int (iz 2))]) (st' := [.int (iz 1)]) (h' := cmH z zl (uf f 22 od) fl tx) rfl ?_
  refine Rx.ne1 rfl rfl ⟨by omega, by omega⟩ (fun b78 => ?_) (fun b78 => by omega)
  refine Rx.walk 3 (pc' := 40) (L' := [some (.ref 0), some (.int (iz 4)), some (.int (iz 5)), some (.int (iz 3)), some (.int (iz 12)), some (.int (iz 2))]) (st' := [.int (iz 3), .int (iz 12), .int (iz 5)]) (h' := cmH z zl (uf f 22 od) fl tx) rfl ?_
  refine Rx.callx (m' := m_X12_has) (as := [.int (iz 12), .int (iz 3)]) (rest := [.int (iz 5)]) rfl (n_has_12_3 _ (cmH z zl (uf f 22 od) fl tx)   ) (fun v79 h80 q81 => ?_)
  obtain ⟨rfl, rfl⟩ := q81
  refine Rx.walk 0 (pc' := 43) (L' := [some (.ref 0), some (.int (iz 4)), some (.int (iz 5)), some (.int (iz 3)), some (.int (iz 12)), some (.int (iz 2))]) (st' := [.int (iz 1), .int (iz 5)]) (h' := cmH z zl (uf f 22 od) fl tx) rfl ?_
  refine Rx.eq1 rfl rfl ⟨by omega, by omega⟩ (fun b82 => by omega) (fun b82 => ?_)
  refine Rx.walk 2 (pc' := 51) (L' := [some (.ref 0), some (.int (iz 4)), some (.int (iz 5)), some (.int (iz 3)), some (.int (iz 12)), some (.int (iz 2))]) (st' := [.int (iz 0), .int (iz 5)]) (h' := cmH z zl (uf f 22 od) fl tx) rfl ?_
  refine Rx.iadd rfl ?_
  refine Rx.walk 0 (pc' := 52) (L' := [some (.ref 0), some (.int (iz 4)), some (.int (iz 5)), some (.int (iz 3)), some (.int (iz 12)), some (.int (iz 2))]) (st' := [.int (iz 5)]) (h' := cmH z zl (uf f 22 od) fl tx) rfl ?_
  refine Rx.walk 3 (pc' := 55) (L' := [some (.ref 0), some (.int (iz 4)), some (.int (iz 5)), some (.int (iz 3)), some (.int (iz 12)), some (.int (iz 2))]) (st' := [.int (iz 1), .int (iz 3)]) (h' := cmH z zl (uf f 22 od) fl tx) rfl ?_
  refine Rx.iadd rfl ?_
  refine Rx.walk 0 (pc' := 56) (L' := [some (.ref 0), some (.int (iz 4)), some (.int (iz 5)), some (.int (iz 3)), some (.int (iz 12)), some (.int (iz 2))]) (st' := [.int (iz 4)]) (h' := cmH z zl (uf f 22 od) fl tx) rfl ?_
  refine Rx.walk 1 (pc' := 57) (L' := [some (.ref 0), some (.int (iz 4)), some (.int (iz 5)), some (.int (iz 3)), some (.int (iz 12)), some (.int (iz 2))]) (st' := [.int (iz 4), .int (iz 4)]) (h' := cmH z zl (uf f 22 od) fl tx) rfl ?_
  refine Rx.irem rfl ⟨by omega, by omega⟩ ⟨by omega, by omega⟩ (by omega) (by omega) ?_
  refine Rx.walk 4 (pc' := 19) (L' := [some (.ref 0), some (.int (iz 4)), some (.int (iz 5)), some (.int (iz 0)), some (.int (iz 12)), some (.int (iz 2))]) (st' := [.int (iz 0), .int (iz 12)]) (h' := cmH z zl (uf f 22 od) fl tx) rfl ?_
  refine Rx.callx (m' := m_X12_has) (as := [.int (iz 12), .int (iz 0)]) (rest := []) rfl (n_has_12_0 _ (cmH z zl (uf f 22 od) fl tx)   ) (fun v83 h84 q85 => ?_)
  obtain ⟨rfl, rfl⟩ := q85
  refine Rx.walk 0 (pc' := 22) (L' := [some (.ref 0), some (.int (iz 4)), some (.int (iz 5)), some (.int (iz 0)), some (.int (iz 12)), some (.int (iz 2))]) (st' := [.int (iz 0)]) (h' := cmH z zl (uf f 22 od) fl tx) rfl ?_
  refine Rx.ne1 rfl rfl ⟨by omega, by omega⟩ (fun b86 => by omega) (fun b86 => ?_)
  refine Rx.walk 4 (pc' := 32) (L' := [some (.ref 0), some (.int (iz 4)), some (.int (iz 5)), some (.int (iz 0)), some (.int (iz 12)), some (.int (iz 2))]) (st' := [.int (iz 2), .ref 22, .int (iz 0)]) (h' := cmH z zl (uf f 22 od) fl tx) rfl ?_
  refine Rx.ial (g := od) rfl rfl (by omega) (by omega) (by omega) ?_
  rw [show (od 2) = 1 from h2]
  refine Rx.eq2 rfl rfl ⟨by omega, by omega⟩ ⟨by omega, by omega⟩ (fun b87 => by omega) (fun b87 => ?_)
  refine Rx.walk 3 (pc' := 40) (L' := [some (.ref 0), some (.int (iz 4)), some (.int (iz 5)), some (.int (iz 0)), some (.int (iz 12)), some (.int (iz 2))]) (st' := [.int (iz 0), .int (iz 12), .int (iz 5)]) (h' := cmH z zl (uf f 22 od) fl tx) rfl ?_
  refine Rx.callx (m' := m_X12_has) (as := [.int (iz 12), .int (iz 0)]) (rest := [.int (iz 5)]) rfl (n_has_12_0 _ (cmH z zl (uf f 22 od) fl tx)   ) (fun v88 h89 q90 => ?_)
  obtain ⟨rfl, rfl⟩ := q90
  refine Rx.walk 0 (pc' := 43) (L' := [some (.ref 0), some (.int (iz 4)), some (.int (iz 5)), some (.int (iz 0)), some (.int (iz 12)), some (.int (iz 2))]) (st' := [.int (iz 0), .int (iz 5)]) (h' := cmH z zl (uf f 22 od) fl tx) rfl ?_
  refine Rx.eq1 rfl rfl ⟨by omega, by omega⟩ (fun b91 => ?_) (fun b91 => by omega)
  refine Rx.walk 1 (pc' := 51) (L' := [some (.ref 0), some (.int (iz 4)), some (.int (iz 5)), some (.int (iz 0)), some (.int (iz 12)), some (.int (iz 2))]) (st' := [.int (iz 1), .int (iz 5)]) (h' := cmH z zl (uf f 22 od) fl tx) rfl ?_
  refine Rx.iadd rfl ?_
  refine Rx.walk 0 (pc' := 52) (L' := [some (.ref 0), some (.int (iz 4)), some (.int (iz 5)), some (.int (iz 0)), some (.int (iz 12)), some (.int (iz 2))]) (st' := [.int (iz 6)]) (h' := cmH z zl (uf f 22 od) fl tx) rfl ?_
  refine Rx.walk 3 (pc' := 55) (L' := [some (.ref 0), some (.int (iz 4)), some (.int (iz 6)), some (.int (iz 0)), some (.int (iz 12)), some (.int (iz 2))]) (st' := [.int (iz 1), .int (iz 0)]) (h' := cmH z zl (uf f 22 od) fl tx) rfl ?_
  refine Rx.iadd rfl ?_
  refine Rx.walk 0 (pc' := 56) (L' := [some (.ref 0), some (.int (iz 4)), some (.int (iz 6)), some (.int (iz 0)), some (.int (iz 12)), some (.int (iz 2))]) (st' := [.int (iz 1)]) (h' := cmH z zl (uf f 22 od) fl tx) rfl ?_
  refine Rx.walk 1 (pc' := 57) (L' := [some (.ref 0), some (.int (iz 4)), some (.int (iz 6)), some (.int (iz 0)), some (.int (iz 12)), some (.int (iz 2))]) (st' := [.int (iz 4), .int (iz 1)]) (h' := cmH z zl (uf f 22 od) fl tx) rfl ?_
  refine Rx.irem rfl ⟨by omega, by omega⟩ ⟨by omega, by omega⟩ (by omega) (by omega) ?_
  refine Rx.walk 4 (pc' := 19) (L' := [some (.ref 0), some (.int (iz 4)), some (.int (iz 6)), some (.int (iz 1)), some (.int (iz 12)), some (.int (iz 2))]) (st' := [.int (iz 1), .int (iz 12)]) (h' := cmH z zl (uf f 22 od) fl tx) rfl ?_
  refine Rx.callx (m' := m_X12_has) (as := [.int (iz 12), .int (iz 1)]) (rest := []) rfl (n_has_12_1 _ (cmH z zl (uf f 22 od) fl tx)   ) (fun v92 h93 q94 => ?_)
  obtain ⟨rfl, rfl⟩ := q94
  refine Rx.walk 0 (pc' := 22) (L' := [some (.ref 0), some (.int (iz 4)), some (.int (iz 6)), some (.int (iz 1)), some (.int (iz 12)), some (.int (iz 2))]) (st' := [.int (iz 0)]) (h' := cmH z zl (uf f 22 od) fl tx) rfl ?_
  refine Rx.ne1 rfl rfl ⟨by omega, by omega⟩ (fun b95 => by omega) (fun b95 => ?_)
  refine Rx.walk 4 (pc' := 32) (L' := [some (.ref 0), some (.int (iz 4)), some (.int (iz 6)), some (.int (iz 1)), some (.int (iz 12)), some (.int (iz 2))]) (st' := [.int (iz 2), .ref 22, .int (iz 1)]) (h' := cmH z zl (uf f 22 od) fl tx) rfl ?_
  refine Rx.ial (g := od) rfl rfl (by omega) (by omega) (by omega) ?_
  rw [show (od 2) = 1 from h2]
  refine Rx.eq2 rfl rfl ⟨by omega, by omega⟩ ⟨by omega, by omega⟩ (fun b96 => ?_) (fun b96 => by omega)
  refine Rx.walk 3 (pc' := 66) (L' := [some (.ref 0), some (.int (iz 4)), some (.int (iz 6)), some (.int (iz 1)), some (.int (iz 12)), some (.int (iz 2))]) (st' := [.int (iz 1), .int (iz 1), .int (iz 12)]) (h' := cmH z zl (uf f 22 od) fl tx) rfl ?_
  refine Rx.ishl (c := 2) rfl (by decide) ?_
  refine Rx.ior (c := 14) rfl (by decide) ?_
  refine Rx.walk 1 (pc' := 70) (L' := [some (.ref 0), some (.int (iz 4)), some (.int (iz 6)), some (.int (iz 1)), some (.int (iz 14)), some (.int (iz 2))]) (st' := []) (h' := cmH z zl (uf f 22 od) fl tx) rfl ?_
  refine Rx.iinc (b := 1) rfl rfl rfl ?_
  refine Rx.walk 0 (pc' := 73) (L' := [some (.ref 0), some (.int (iz 4)), some (.int (iz 6)), some (.int (iz 1)), some (.int (iz 14)), some (.int (iz 3))]) (st' := []) (h' := cmH z zl (uf f 22 od) fl tx) rfl ?_
  refine Rx.walk 3 (pc' := 13) (L' := [some (.ref 0), some (.int (iz 4)), some (.int (iz 6)), some (.int (iz 1)), some (.int (iz 14)), some (.int (iz 3))]) (st' := [.int (iz 4), .int (iz 3)]) (h' := cmH z zl (uf f 22 od) fl tx) rfl ?_
  refine Rx.ge2 rfl rfl ⟨by omega, by omega⟩ ⟨by omega, by omega⟩ (fun b97 => by omega) (fun b97 => ?_)
  refine Rx.walk 2 (pc' := 19) (L' := [some (.ref 0), some (.int (iz 4)), some (.int (iz 6)), some (.int (iz 1)), some (.int (iz 14)), some (.int (iz 3))]) (st' := [.int (iz 1), .int (iz 14)]) (h' := cmH z zl (uf f 22 od) fl tx) rfl ?_
  refine Rx.callx (m' := m_X12_has) (as := [.int (iz 14), .int (iz 1)]) (rest := []) rfl (n_has_14_1 _ (cmH z zl (uf f 22 od) fl tx)   ) (fun v98 h99 q100 => ?_)
  obtain ⟨rfl, rfl⟩ := q100
  refine Rx.walk 0 (pc' := 22) (L' := [some (.ref 0), some (.int (iz 4)), some (.int (iz 6)), some (.int (iz 1)), some (.int (iz 14)), some (.int (iz 3))]) (st' := [.int (iz 1)]) (h' := cmH z zl (uf f 22 od) fl tx) rfl ?_
  refine Rx.ne1 rfl rfl ⟨by omega, by omega⟩ (fun b101 => ?_) (fun b101 => by omega)
  refine Rx.walk 3 (pc' := 40) (L' := [some (.ref 0), some (.int (iz 4)), some (.int (iz 6)), some (.int (iz 1)), some (.int (iz 14)), some (.int (iz 3))]) (st' := [.int (iz 1), .int (iz 14), .int (iz 6)]) (h' := cmH z zl (uf f 22 od) fl tx) rfl ?_
  refine Rx.callx (m' := m_X12_has) (as := [.int (iz 14), .int (iz 1)]) (rest := [.int (iz 6)]) rfl (n_has_14_1 _ (cmH z zl (uf f 22 od) fl tx)   ) (fun v102 h103 q104 => ?_)
  obtain ⟨rfl, rfl⟩ := q104
  refine Rx.walk 0 (pc' := 43) (L' := [some (.ref 0), some (.int (iz 4)), some (.int (iz 6)), some (.int (iz 1)), some (.int (iz 14)), some (.int (iz 3))]) (st' := [.int (iz 1), .int (iz 6)]) (h' := cmH z zl (uf f 22 od) fl tx) rfl ?_
  refine Rx.eq1 rfl rfl ⟨by omega, by omega⟩ (fun b105 => by omega) (fun b105 => ?_)
  refine Rx.walk 2 (pc' := 51) (L' := [some (.ref 0), some (.int (iz 4)), some (.int (iz 6)), some (.int (iz 1)), some (.int (iz 14)), some (.int (iz 3))]) (st' := [.int (iz 0), .int (iz 6)]) (h' := cmH z zl (uf f 22 od) fl tx) rfl ?_
  refine Rx.iadd rfl ?_
  refine Rx.walk 0 (pc' := 52) (L' := [some (.ref 0), some (.int (iz 4)), some (.int (iz 6)), some (.int (iz 1)), some (.int (iz 14)), some (.int (iz 3))]) (st' := [.int (iz 6)]) (h' := cmH z zl (uf f 22 od) fl tx) rfl ?_
  refine Rx.walk 3 (pc' := 55) (L' := [some (.ref 0), some (.int (iz 4)), some (.int (iz 6)), some (.int (iz 1)), some (.int (iz 14)), some (.int (iz 3))]) (st' := [.int (iz 1), .int (iz 1)]) (h' := cmH z zl (uf f 22 od) fl tx) rfl ?_
  refine Rx.iadd rfl ?_
  refine Rx.walk 0 (pc' := 56) (L' := [some (.ref 0), some (.int (iz 4)), some (.int (iz 6)), some (.int (iz 1)), some (.int (iz 14)), some (.int (iz 3))]) (st' := [.int (iz 2)]) (h' := cmH z zl (uf f 22 od) fl tx) rfl ?_
  refine Rx.walk 1 (pc' := 57) (L' := [some (.ref 0), some (.int (iz 4)), some (.int (iz 6)), some (.int (iz 1)), some (.int (iz 14)), some (.int (iz 3))]) (st' := [.int (iz 4), .int (iz 2)]) (h' := cmH z zl (uf f 22 od) fl tx) rfl ?_
  refine Rx.irem rfl ⟨by omega, by omega⟩ ⟨by omega, by omega⟩ (by omega) (by omega) ?_
  refine Rx.walk 4 (pc' := 19) (L' := [some (.ref 0), some (.int (iz 4)), some (.int (iz 6)), some (.int (iz 2)), some (.int (iz 14)), some (.int (iz 3))]) (st' := [.int (iz 2), .int (iz 14)]) (h' := cmH z zl (uf f 22 od) fl tx) rfl ?_
  refine Rx.callx (m' := m_X12_has) (as := [.int (iz 14), .int (iz 2)]) (rest := []) rfl (n_has_14_2 _ (cmH z zl (uf f 22 od) fl tx)   ) (fun v106 h107 q108 => ?_)
  obtain ⟨rfl, rfl⟩ := q108
  refine Rx.walk 0 (pc' := 22) (L' := [some (.ref 0), some (.int (iz 4)), some (.int (iz 6)), some (.int (iz 2)), some (.int (iz 14)), some (.int (iz 3))]) (st' := [.int (iz 1)]) (h' := cmH z zl (uf f 22 od) fl tx) rfl ?_
  refine Rx.ne1 rfl rfl ⟨by omega, by omega⟩ (fun b109 => ?_) (fun b109 => by omega)
  refine Rx.walk 3 (pc' := 40) (L' := [some (.ref 0), some (.int (iz 4)), some (.int (iz 6)), some (.int (iz 2)), some (.int (iz 14)), some (.int (iz 3))]) (st' := [.int (iz 2), .int (iz 14), .int (iz 6)]) (h' := cmH z zl (uf f 22 od) fl tx) rfl ?_
  refine Rx.callx (m' := m_X12_has) (as := [.int (iz 14), .int (iz 2)]) (rest := [.int (iz 6)]) rfl (n_has_14_2 _ (cmH z zl (uf f 22 od) fl tx)   ) (fun v110 h111 q112 => ?_)
  obtain ⟨rfl, rfl⟩ := q112
  refine Rx.walk 0 (pc' := 43) (L' := [some (.ref 0), some (.int (iz 4)), some (.int (iz 6)), some (.int (iz 2)), some (.int (iz 14)), some (.int (iz 3))]) (st' := [.int (iz 1), .int (iz 6)]) (h' := cmH z zl (uf f 22 od) fl tx) rfl ?_
  refine Rx.eq1 rfl rfl ⟨by omega, by omega⟩ (fun b113 => by omega) (fun b113 => ?_)
  refine Rx.walk 2 (pc' := 51) (L' := [some (.ref 0), some (.int (iz 4)), some (.int (iz 6)), some (.int (iz 2)), some (.int (iz 14)), some (.int (iz 3))]) (st' := [.int (iz 0), .int (iz 6)]) (h' := cmH z zl (uf f 22 od) fl tx) rfl ?_
  refine Rx.iadd rfl ?_
  refine Rx.walk 0 (pc' := 52) (L' := [some (.ref 0), some (.int (iz 4)), some (.int (iz 6)), some (.int (iz 2)), some (.int (iz 14)), some (.int (iz 3))]) (st' := [.int (iz 6)]) (h' := cmH z zl (uf f 22 od) fl tx) rfl ?_
  refine Rx.walk 3 (pc' := 55) (L' := [some (.ref 0), some (.int (iz 4)), some (.int (iz 6)), some (.int (iz 2)), some (.int (iz 14)), some (.int (iz 3))]) (st' := [.int (iz 1), .int (iz 2)]) (h' := cmH z zl (uf f 22 od) fl tx) rfl ?_
  refine Rx.iadd rfl ?_
  refine Rx.walk 0 (pc' := 56) (L' := [some (.ref 0), some (.int (iz 4)), some (.int (iz 6)), some (.int (iz 2)), some (.int (iz 14)), some (.int (iz 3))]) (st' := [.int (iz 3)]) (h' := cmH z zl (uf f 22 od) fl tx) rfl ?_
  refine Rx.walk 1 (pc' := 57) (L' := [some (.ref 0), some (.int (iz 4)), some (.int (iz 6)), some (.int (iz 2)), some (.int (iz 14)), some (.int (iz 3))]) (st' := [.int (iz 4), .int (iz 3)]) (h' := cmH z zl (uf f 22 od) fl tx) rfl ?_
  refine Rx.irem rfl ⟨by omega, by omega⟩ ⟨by omega, by omega⟩ (by omega) (by omega) ?_
  refine Rx.walk 4 (pc' := 19) (L' := [some (.ref 0), some (.int (iz 4)), some (.int (iz 6)), some (.int (iz 3)), some (.int (iz 14)), some (.int (iz 3))]) (st' := [.int (iz 3), .int (iz 14)]) (h' := cmH z zl (uf f 22 od) fl tx) rfl ?_
  refine Rx.callx (m' := m_X12_has) (as := [.int (iz 14), .int (iz 3)]) (rest := []) rfl (n_has_14_3 _ (cmH z zl (uf f 22 od) fl tx)   ) (fun v114 h115 q116 => ?_)
  obtain ⟨rfl, rfl⟩ := q116
  refine Rx.walk 0 (pc' := 22) (L' := [some (.ref 0), some (.int (iz 4)), some (.int (iz 6)), some (.int (iz 3)), some (.int (iz 14)), some (.int (iz 3))]) (st' := [.int (iz 1)]) (h' := cmH z zl (uf f 22 od) fl tx) rfl ?_
  refine Rx.ne1 rfl rfl ⟨by omega, by omega⟩ (fun b117 => ?_) (fun b117 => by omega)
  refine Rx.walk 3 (pc' := 40) (L' := [some (.ref 0), some (.int (iz 4)), some (.int (iz 6)), some (.int (iz 3)), some (.int (iz 14)), some (.int (iz 3))]) (st' := [.int (iz 3), .int (iz 14), .int (iz 6)]) (h' := cmH z zl (uf f 22 od) fl tx) rfl ?_
  refine Rx.callx (m' := m_X12_has) (as := [.int (iz 14), .int (iz 3)]) (rest := [.int (iz 6)]) rfl (n_has_14_3 _ (cmH z zl (uf f 22 od) fl tx)   ) (fun v118 h119 q120 => ?_)
  obtain ⟨rfl, rfl⟩ := q120
  refine Rx.walk 0 (pc' := 43) (L' := [some (.ref 0), some (.int (iz 4)), some (.int (iz 6)), some (.int (iz 3)), some (.int (iz 14)), some (.int (iz 3))]) (st' := [.int (iz 1), .int (iz 6)]) (h' := cmH z zl (uf f 22 od) fl tx) rfl ?_
  refine Rx.eq1 rfl rfl ⟨by omega, by omega⟩ (fun b121 => by omega) (fun b121 => ?_)
  refine Rx.walk 2 (pc' := 51) (L' := [some (.ref 0), some (.int (iz 4)), some (.int (iz 6)), some (.int (iz 3)), some (.int (iz 14)), some (.int (iz 3))]) (st' := [.int (iz 0), .int (iz 6)]) (h' := cmH z zl (uf f 22 od) fl tx) rfl ?_
  refine Rx.iadd rfl ?_
  refine Rx.walk 0 (pc' := 52) (L' := [some (.ref 0), some (.int (iz 4)), some (.int (iz 6)), some (.int (iz 3)), some (.int (iz 14)), some (.int (iz 3))]) (st' := [.int (iz 6)]) (h' := cmH z zl (uf f 22 od) fl tx) rfl ?_
  refine Rx.walk 3 (pc' := 55) (L' := [some (.ref 0), some (.int (iz 4)), some (.int (iz 6)), some (.int (iz 3)), some (.int (iz 14)), some (.int (iz 3))]) (st' := [.int (iz 1), .int (iz 3)]) (h' := cmH z zl (uf f 22 od) fl tx) rfl ?_
  refine Rx.iadd rfl ?_
  refine Rx.walk 0 (pc' := 56) (L' := [some (.ref 0), some (.int (iz 4)), some (.int (iz 6)), some (.int (iz 3)), some (.int (iz 14)), some (.int (iz 3))]) (st' := [.int (iz 4)]) (h' := cmH z zl (uf f 22 od) fl tx) rfl ?_
  refine Rx.walk 1 (pc' := 57) (L' := [some (.ref 0), some (.int (iz 4)), some (.int (iz 6)), some (.int (iz 3)), some (.int (iz 14)), some (.int (iz 3))]) (st' := [.int (iz 4), .int (iz 4)]) (h' := cmH z zl (uf f 22 od) fl tx) rfl ?_
  refine Rx.irem rfl ⟨by omega, by omega⟩ ⟨by omega, by omega⟩ (by omega) (by omega) ?_
  refine Rx.walk 4 (pc' := 19) (L' := [some (.ref 0), some (.int (iz 4)), some (.int (iz 6)), some (.int (iz 0)), some (.int (iz 14)), some (.int (iz 3))]) (st' := [.int (iz 0), .int (iz 14)]) (h' := cmH z zl (uf f 22 od) fl tx) rfl ?_
  refine Rx.callx (m' := m_X12_has) (as := [.int (iz 14), .int (iz 0)]) (rest := []) rfl (n_has_14_0 _ (cmH z zl (uf f 22 od) fl tx)   ) (fun v122 h123 q124 => ?_)
  obtain ⟨rfl, rfl⟩ := q124
  refine Rx.walk 0 (pc' := 22) (L' := [some (.ref 0), some (.int (iz 4)), some (.int (iz 6)), some (.int (iz 0)), some (.int (iz 14)), some (.int (iz 3))]) (st' := [.int (iz 0)]) (h' := cmH z zl (uf f 22 od) fl tx) rfl ?_
  refine Rx.ne1 rfl rfl ⟨by omega, by omega⟩ (fun b125 => by omega) (fun b125 => ?_)
  refine Rx.walk 4 (pc' := 32) (L' := [some (.ref 0), some (.int (iz 4)), some (.int (iz 6)), some (.int (iz 0)), some (.int (iz 14)), some (.int (iz 3))]) (st' := [.int (iz 3), .ref 22, .int (iz 0)]) (h' := cmH z zl (uf f 22 od) fl tx) rfl ?_
  refine Rx.ial (g := od) rfl rfl (by omega) (by omega) (by omega) ?_
  rw [show (od 3) = 0 from h3]
  refine Rx.eq2 rfl rfl ⟨by omega, by omega⟩ ⟨by omega, by omega⟩ (fun b126 => ?_) (fun b126 => by omega)
  refine Rx.walk 3 (pc' := 66) (L' := [some (.ref 0), some (.int (iz 4)), some (.int (iz 6)), some (.int (iz 0)), some (.int (iz 14)), some (.int (iz 3))]) (st' := [.int (iz 0), .int (iz 1), .int (iz 14)]) (h' := cmH z zl (uf f 22 od) fl tx) rfl ?_
  refine Rx.ishl (c := 1) rfl (by decide) ?_
  refine Rx.ior (c := 15) rfl (by decide) ?_
  refine Rx.walk 1 (pc' := 70) (L' := [some (.ref 0), some (.int (iz 4)), some (.int (iz 6)), some (.int (iz 0)), some (.int (iz 15)), some (.int (iz 3))]) (st' := []) (h' := cmH z zl (uf f 22 od) fl tx) rfl ?_
  refine Rx.iinc (b := 1) rfl rfl rfl ?_
  refine Rx.walk 0 (pc' := 73) (L' := [some (.ref 0), some (.int (iz 4)), some (.int (iz 6)), some (.int (iz 0)), some (.int (iz 15)), some (.int (iz 4))]) (st' := []) (h' := cmH z zl (uf f 22 od) fl tx) rfl ?_
  refine Rx.walk 3 (pc' := 13) (L' := [some (.ref 0), some (.int (iz 4)), some (.int (iz 6)), some (.int (iz 0)), some (.int (iz 15)), some (.int (iz 4))]) (st' := [.int (iz 4), .int (iz 4)]) (h' := cmH z zl (uf f 22 od) fl tx) rfl ?_
  refine Rx.ge2 rfl rfl ⟨by omega, by omega⟩ ⟨by omega, by omega⟩ (fun b127 => ?_) (fun b127 => by omega)
  refine Rx.walk 1 (pc' := 77) (L' := [some (.ref 0), some (.int (iz 4)), some (.int (iz 6)), some (.int (iz 0)), some (.int (iz 15)), some (.int (iz 4))]) (st' := [.int (iz 6)]) (h' := cmH z zl (uf f 22 od) fl tx) rfl ?_
  refine Rx.ret rfl ?_
  exact ⟨rfl, rfl⟩
set_option maxRecDepth 100000 in
set_option maxHeartbeats 4000000 in
theorem m_stepsOf (d : Nat) (z : Nat → Int) (zl : Nat → Int) (f : Nat → Int → Int) (fl : Nat → Int → Int) (tx : Nat)  (m : Nat) (t : Nat) (od : Int → Int) (hm : 1 ≤ m ∧ m ≤ 4) (ht : t < (pmL m).length) (hl : lsI m od = pm m t) : Rx (d + 1) m_X12_stepsOf 0 (am_ent [.ref 0, .int (iz (m : Int))] 6) [] (cmH z zl (uf f 22 od) fl tx) (fun rv h => rv = some (.int (iz (trn m t))) ∧ h = cmH z zl (uf f 22 od) fl tx) := by
  rcases (show m = 1 ∨ m = 2 ∨ m = 3 ∨ m = 4 by omega) with rfl | rfl | rfl | rfl
  · have ht : t < 1 := ht
    obtain rfl : t = 0 := by omega
    have hl : [od 0] = [0] := hl
    simp only [List.cons.injEq, and_true] at hl
    have h0 := hl
    exact m_stepsOf1_0 d z zl f fl tx od h0
  · have ht : t < 2 := ht
    rcases (show t = 0 ∨ t = 1 by omega) with rfl | rfl
    · have hl : [od 0, od 1] = [0, 1] := hl
      simp only [List.cons.injEq, and_true] at hl
      obtain ⟨h0, h1⟩ := hl
      exact m_stepsOf2_0 d z zl f fl tx od h0 h1
    · have hl : [od 0, od 1] = [1, 0] := hl
      simp only [List.cons.injEq, and_true] at hl
      obtain ⟨h0, h1⟩ := hl
      exact m_stepsOf2_1 d z zl f fl tx od h0 h1
  · have ht : t < 6 := ht
    rcases (show t = 0 ∨ t = 1 ∨ t = 2 ∨ t = 3 ∨ t = 4 ∨ t = 5 by omega) with rfl | rfl | rfl | rfl | rfl | rfl
    · have hl : [od 0, od 1, od 2] = [0, 1, 2] := hl
      simp only [List.cons.injEq, and_true] at hl
      obtain ⟨h0, h1, h2⟩ := hl
      exact m_stepsOf3_0 d z zl f fl tx od h0 h1 h2
    · have hl : [od 0, od 1, od 2] = [0, 2, 1] := hl
      simp only [List.cons.injEq, and_true] at hl
      obtain ⟨h0, h1, h2⟩ := hl
      exact m_stepsOf3_1 d z zl f fl tx od h0 h1 h2
    · have hl : [od 0, od 1, od 2] = [1, 0, 2] := hl
      simp only [List.cons.injEq, and_true] at hl
      obtain ⟨h0, h1, h2⟩ := hl
      exact m_stepsOf3_2 d z zl f fl tx od h0 h1 h2
    · have hl : [od 0, od 1, od 2] = [1, 2, 0] := hl
      simp only [List.cons.injEq, and_true] at hl
      obtain ⟨h0, h1, h2⟩ := hl
      exact m_stepsOf3_3 d z zl f fl tx od h0 h1 h2
    · have hl : [od 0, od 1, od 2] = [2, 0, 1] := hl
      simp only [List.cons.injEq, and_true] at hl
      obtain ⟨h0, h1, h2⟩ := hl
      exact m_stepsOf3_4 d z zl f fl tx od h0 h1 h2
    · have hl : [od 0, od 1, od 2] = [2, 1, 0] := hl
      simp only [List.cons.injEq, and_true] at hl
      obtain ⟨h0, h1, h2⟩ := hl
      exact m_stepsOf3_5 d z zl f fl tx od h0 h1 h2
  · have ht : t < 24 := ht
    rcases (show t = 0 ∨ t = 1 ∨ t = 2 ∨ t = 3 ∨ t = 4 ∨ t = 5 ∨ t = 6 ∨ t = 7 ∨ t = 8 ∨ t = 9 ∨ t = 10 ∨ t = 11 ∨ t = 12 ∨ t = 13 ∨ t = 14 ∨ t = 15 ∨ t = 16 ∨ t = 17 ∨ t = 18 ∨ t = 19 ∨ t = 20 ∨ t = 21 ∨ t = 22 ∨ t = 23 by omega) with rfl | rfl | rfl | rfl | rfl | rfl | rfl | rfl | rfl | rfl | rfl | rfl | rfl | rfl | rfl | rfl | rfl | rfl | rfl | rfl | rfl | rfl | rfl | rfl
    · have hl : [od 0, od 1, od 2, od 3] = [0, 1, 2, 3] := hl
      simp only [List.cons.injEq, and_true] at hl
      obtain ⟨h0, h1, h2, h3⟩ := hl
      exact m_stepsOf4_0 d z zl f fl tx od h0 h1 h2 h3
    · have hl : [od 0, od 1, od 2, od 3] = [0, 1, 3, 2] := hl
      simp only [List.cons.injEq, and_true] at hl
      obtain ⟨h0, h1, h2, h3⟩ := hl
      exact m_stepsOf4_1 d z zl f fl tx od h0 h1 h2 h3
    · have hl : [od 0, od 1, od 2, od 3] = [0, 2, 1, 3] := hl
      simp only [List.cons.injEq, and_true] at hl
      obtain ⟨h0, h1, h2, h3⟩ := hl
      exact m_stepsOf4_2 d z zl f fl tx od h0 h1 h2 h3
    · have hl : [od 0, od 1, od 2, od 3] = [0, 2, 3, 1] := hl
      simp only [List.cons.injEq, and_true] at hl
      obtain ⟨h0, h1, h2, h3⟩ := hl
      exact m_stepsOf4_3 d z zl f fl tx od h0 h1 h2 h3
    · have hl : [od 0, od 1, od 2, od 3] = [0, 3, 1, 2] := hl
      simp only [List.cons.injEq, and_true] at hl
      obtain ⟨h0, h1, h2, h3⟩ := hl
      exact m_stepsOf4_4 d z zl f fl tx od h0 h1 h2 h3
    · have hl : [od 0, od 1, od 2, od 3] = [0, 3, 2, 1] := hl
      simp only [List.cons.injEq, and_true] at hl
      obtain ⟨h0, h1, h2, h3⟩ := hl
      exact m_stepsOf4_5 d z zl f fl tx od h0 h1 h2 h3
    · have hl : [od 0, od 1, od 2, od 3] = [1, 0, 2, 3] := hl
      simp only [List.cons.injEq, and_true] at hl
      obtain ⟨h0, h1, h2, h3⟩ := hl
      exact m_stepsOf4_6 d z zl f fl tx od h0 h1 h2 h3
    · have hl : [od 0, od 1, od 2, od 3] = [1, 0, 3, 2] := hl
      simp only [List.cons.injEq, and_true] at hl
      obtain ⟨h0, h1, h2, h3⟩ := hl
      exact m_stepsOf4_7 d z zl f fl tx od h0 h1 h2 h3
    · have hl : [od 0, od 1, od 2, od 3] = [1, 2, 0, 3] := hl
      simp only [List.cons.injEq, and_true] at hl
      obtain ⟨h0, h1, h2, h3⟩ := hl
      exact m_stepsOf4_8 d z zl f fl tx od h0 h1 h2 h3
    · have hl : [od 0, od 1, od 2, od 3] = [1, 2, 3, 0] := hl
      simp only [List.cons.injEq, and_true] at hl
      obtain ⟨h0, h1, h2, h3⟩ := hl
      exact m_stepsOf4_9 d z zl f fl tx od h0 h1 h2 h3
    · have hl : [od 0, od 1, od 2, od 3] = [1, 3, 0, 2] := hl
      simp only [List.cons.injEq, and_true] at hl
      obtain ⟨h0, h1, h2, h3⟩ := hl
      exact m_stepsOf4_10 d z zl f fl tx od h0 h1 h2 h3
    · have hl : [od 0, od 1, od 2, od 3] = [1, 3, 2, 0] := hl
      simp only [List.cons.injEq, and_true] at hl
      obtain ⟨h0, h1, h2, h3⟩ := hl
      exact m_stepsOf4_11 d z zl f fl tx od h0 h1 h2 h3
    · have hl : [od 0, od 1, od 2, od 3] = [2, 0, 1, 3] := hl
      simp only [List.cons.injEq, and_true] at hl
      obtain ⟨h0, h1, h2, h3⟩ := hl
      exact m_stepsOf4_12 d z zl f fl tx od h0 h1 h2 h3
    · have hl : [od 0, od 1, od 2, od 3] = [2, 0, 3, 1] := hl
      simp only [List.cons.injEq, and_true] at hl
      obtain ⟨h0, h1, h2, h3⟩ := hl
      exact m_stepsOf4_13 d z zl f fl tx od h0 h1 h2 h3
    · have hl : [od 0, od 1, od 2, od 3] = [2, 1, 0, 3] := hl
      simp only [List.cons.injEq, and_true] at hl
      obtain ⟨h0, h1, h2, h3⟩ := hl
      exact m_stepsOf4_14 d z zl f fl tx od h0 h1 h2 h3
    · have hl : [od 0, od 1, od 2, od 3] = [2, 1, 3, 0] := hl
      simp only [List.cons.injEq, and_true] at hl
      obtain ⟨h0, h1, h2, h3⟩ := hl
      exact m_stepsOf4_15 d z zl f fl tx od h0 h1 h2 h3
    · have hl : [od 0, od 1, od 2, od 3] = [2, 3, 0, 1] := hl
      simp only [List.cons.injEq, and_true] at hl
      obtain ⟨h0, h1, h2, h3⟩ := hl
      exact m_stepsOf4_16 d z zl f fl tx od h0 h1 h2 h3
    · have hl : [od 0, od 1, od 2, od 3] = [2, 3, 1, 0] := hl
      simp only [List.cons.injEq, and_true] at hl
      obtain ⟨h0, h1, h2, h3⟩ := hl
      exact m_stepsOf4_17 d z zl f fl tx od h0 h1 h2 h3
    · have hl : [od 0, od 1, od 2, od 3] = [3, 0, 1, 2] := hl
      simp only [List.cons.injEq, and_true] at hl
      obtain ⟨h0, h1, h2, h3⟩ := hl
      exact m_stepsOf4_18 d z zl f fl tx od h0 h1 h2 h3
    · have hl : [od 0, od 1, od 2, od 3] = [3, 0, 2, 1] := hl
      simp only [List.cons.injEq, and_true] at hl
      obtain ⟨h0, h1, h2, h3⟩ := hl
      exact m_stepsOf4_19 d z zl f fl tx od h0 h1 h2 h3
    · have hl : [od 0, od 1, od 2, od 3] = [3, 1, 0, 2] := hl
      simp only [List.cons.injEq, and_true] at hl
      obtain ⟨h0, h1, h2, h3⟩ := hl
      exact m_stepsOf4_20 d z zl f fl tx od h0 h1 h2 h3
    · have hl : [od 0, od 1, od 2, od 3] = [3, 1, 2, 0] := hl
      simp only [List.cons.injEq, and_true] at hl
      obtain ⟨h0, h1, h2, h3⟩ := hl
      exact m_stepsOf4_21 d z zl f fl tx od h0 h1 h2 h3
    · have hl : [od 0, od 1, od 2, od 3] = [3, 2, 0, 1] := hl
      simp only [List.cons.injEq, and_true] at hl
      obtain ⟨h0, h1, h2, h3⟩ := hl
      exact m_stepsOf4_22 d z zl f fl tx od h0 h1 h2 h3
    · have hl : [od 0, od 1, od 2, od 3] = [3, 2, 1, 0] := hl
      simp only [List.cons.injEq, and_true] at hl
      obtain ⟨h0, h1, h2, h3⟩ := hl
      exact m_stepsOf4_23 d z zl f fl tx od h0 h1 h2 h3

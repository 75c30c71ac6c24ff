/-! Tills, bitCount: contracts (printed by wip/whole/gentills.py) -/
set_option maxRecDepth 100000 in
set_option maxHeartbeats 4000000 in
theorem n_number (d : Nat) (h0 : AmH)  (a : Int) (b : Int) (c : Int) : Rx (d) m_X10_number 0 (am_ent [.int (iz a), .int (iz b), .int (iz c)] 3) [] (h0) (fun rv h => rv = some (.int (iz ((((a * 3125) + b) * 16) + c))) ∧ h0 = h) := by
  refine Rx.walk 0 (pc' := 0) (L' := [some (.int (iz a)), some (.int (iz b)), some (.int (iz c))]) (st' := []) (h' := h0) rfl ?_
  refine Rx.walk 2 (pc' := 4) (L' := [some (.int (iz a)), some (.int (iz b)), some (.int (iz c))]) (st' := [.int (iz 3125), .int (iz a)]) (h' := h0) rfl ?_
  refine Rx.imul rfl ?_
  refine Rx.walk 1 (pc' := 6) (L' := [some (.int (iz a)), some (.int (iz b)), some (.int (iz c))]) (st' := [.int (iz b), .int (iz (a * 3125))]) (h' := h0) rfl ?_
  refine Rx.iadd rfl ?_
  refine Rx.walk 1 (pc' := 9) (L' := [some (.int (iz a)), some (.int (iz b)), some (.int (iz c))]) (st' := [.int (iz 16), .int (iz ((a * 3125) + b))]) (h' := h0) rfl ?_
  refine Rx.imul rfl ?_
  refine Rx.walk 1 (pc' := 11) (L' := [some (.int (iz a)), some (.int (iz b)), some (.int (iz c))]) (st' := [.int (iz c), .int (iz (((a * 3125) + b) * 16))]) (h' := h0) rfl ?_
  refine Rx.iadd rfl ?_
  refine Rx.ret rfl ?_
  exact ⟨rfl, rfl⟩
set_option maxRecDepth 100000 in
set_option maxHeartbeats 4000000 in
theorem n_trayOf (d : Nat) (h0 : AmH)  (till : Int) (h0_ : 0 ≤ till) (h1_ : till < 2147483648) : Rx (d) m_X10_trayOf 0 (am_ent [.int (iz till)] 1) [] (h0) (fun rv h => ∃ r : Int, rv = some (.int (iz r)) ∧ h0 = h ∧ r = till % 16) := by
  refine Rx.walk 0 (pc' := 0) (L' := [some (.int (iz till))]) (st' := []) (h' := h0) rfl ?_
  refine Rx.walk 2 (pc' := 3) (L' := [some (.int (iz till))]) (st' := [.int (iz 16), .int (iz till)]) (h' := h0) rfl ?_
  refine Rx.irem rfl ⟨by omega, by omega⟩ ⟨by omega, by omega⟩ (by omega) (by omega) ?_
  refine Rx.ret rfl ?_
  exact ⟨_, rfl, rfl, (by omega)⟩
set_option maxRecDepth 100000 in
set_option maxHeartbeats 4000000 in
theorem n_pipeOf (d : Nat) (h0 : AmH)  (till : Int) (p : Int) (h0_ : 0 ≤ till) (h1_ : till < 2147483648) (hp : bI p) : Rx (d) m_X10_pipeOf 0 (am_ent [.int (iz till), .int (iz p)] 3) [] (h0) (fun rv h => ∃ r : Int, rv = some (.int (iz r)) ∧ h0 = h ∧ ((p = 0 ∧ r = till / 16 / 3125) ∨ (p ≠ 0 ∧ r = till / 16 % 3125))) := by
  refine Rx.walk 0 (pc' := 0) (L' := [some (.int (iz till)), some (.int (iz p)), none]) (st' := []) (h' := h0) rfl ?_
  refine Rx.walk 2 (pc' := 3) (L' := [some (.int (iz till)), some (.int (iz p)), none]) (st' := [.int (iz 16), .int (iz till)]) (h' := h0) rfl ?_
  refine Rx.idiv rfl ⟨by omega, by omega⟩ ⟨by omega, by omega⟩ (by omega) (by omega) ?_
  refine Rx.walk 2 (pc' := 6) (L' := [some (.int (iz till)), some (.int (iz p)), some (.int (iz (till / 16)))]) (st' := [.int (iz p)]) (h' := h0) rfl ?_
  refine Rx.ne1 rfl rfl hp (fun b1 => ?_) (fun b1 => ?_)
  · refine Rx.walk 2 (pc' := 21) (L' := [some (.int (iz till)), some (.int (iz p)), some (.int (iz (till / 16)))]) (st' := [.int (iz 3125), .int (iz (till / 16))]) (h' := h0) rfl ?_
    refine Rx.irem rfl ⟨by omega, by omega⟩ ⟨by omega, by omega⟩ (by omega) (by omega) ?_
    refine Rx.ret rfl ?_
    exact ⟨_, rfl, rfl, (by omega)⟩
  · refine Rx.walk 2 (pc' := 13) (L' := [some (.int (iz till)), some (.int (iz p)), some (.int (iz (till / 16)))]) (st' := [.int (iz 3125), .int (iz (till / 16))]) (h' := h0) rfl ?_
    refine Rx.idiv rfl ⟨by omega, by omega⟩ ⟨by omega, by omega⟩ (by omega) (by omega) ?_
    refine Rx.walk 1 (pc' := 22) (L' := [some (.int (iz till)), some (.int (iz p)), some (.int (iz (till / 16)))]) (st' := [.int (iz ((till / 16) / 3125))]) (h' := h0) rfl ?_
    refine Rx.ret rfl ?_
    exact ⟨_, rfl, rfl, (by omega)⟩
set_option maxRecDepth 100000 in
set_option maxHeartbeats 4000000 in
theorem n_withPipe (d : Nat) (h0 : AmH)  (till : Int) (p : Int) (x : Int) (h0_ : 0 ≤ till) (h1_ : till < 2147483648) (hp : bI p) : Rx (d + 1) m_X10_withPipe 0 (am_ent [.int (iz till), .int (iz p), .int (iz x)] 3) [] (h0) (fun rv h => ∃ r : Int, rv = some (.int (iz r)) ∧ h0 = h ∧ ((p = 0 ∧ r = (x * 3125 + till / 16 % 3125) * 16 + till % 16) ∨ (p ≠ 0 ∧ r = (till / 16 / 3125 * 3125 + x) * 16 + till % 16))) := by
  refine Rx.walk 0 (pc' := 0) (L' := [some (.int (iz till)), some (.int (iz p)), some (.int (iz x))]) (st' := []) (h' := h0) rfl ?_
  refine Rx.walk 1 (pc' := 1) (L' := [some (.int (iz till)), some (.int (iz p)), some (.int (iz x))]) (st' := [.int (iz p)]) (h' := h0) rfl ?_
  refine Rx.ne1 rfl rfl hp (fun b1 => ?_) (fun b1 => ?_)
  · refine Rx.walk 2 (pc' := 22) (L' := [some (.int (iz till)), some (.int (iz p)), some (.int (iz x))]) (st' := [.int (iz 0), .int (iz till)]) (h' := h0) rfl ?_
    refine Rx.callx (m' := m_X10_pipeOf) (as := [.int (iz till), .int (iz 0)]) (rest := []) rfl (n_pipeOf _ h0  till 0 (by first | assumption | omega) (by first | assumption | omega) ⟨by omega, by omega⟩) (fun v4 h5 q6 => ?_)
    obtain ⟨r_2, rfl, rfl, f3⟩ := q6
    refine Rx.walk 0 (pc' := 25) (L' := [some (.int (iz till)), some (.int (iz p)), some (.int (iz x))]) (st' := [.int (iz r_2)]) (h' := h0) rfl ?_
    refine Rx.walk 2 (pc' := 27) (L' := [some (.int (iz till)), some (.int (iz p)), some (.int (iz x))]) (st' := [.int (iz till), .int (iz x), .int (iz r_2)]) (h' := h0) rfl ?_
    refine Rx.callx (m' := m_X10_trayOf) (as := [.int (iz till)]) (rest := [.int (iz x), .int (iz r_2)]) rfl (n_trayOf _ h0  till (by first | assumption | omega) (by first | assumption | omega)) (fun v9 h10 q11 => ?_)
    obtain ⟨r_7, rfl, rfl, f8⟩ := q11
    refine Rx.walk 0 (pc' := 30) (L' := [some (.int (iz till)), some (.int (iz p)), some (.int (iz x))]) (st' := [.int (iz r_7), .int (iz x), .int (iz r_2)]) (h' := h0) rfl ?_
    refine Rx.callx (m' := m_X10_number) (as := [.int (iz r_2), .int (iz x), .int (iz r_7)]) (rest := []) rfl (n_number _ h0  r_2 x r_7 ) (fun v12 h13 q14 => ?_)
    obtain ⟨rfl, rfl⟩ := q14
    refine Rx.walk 0 (pc' := 33) (L' := [some (.int (iz till)), some (.int (iz p)), some (.int (iz x))]) (st' := [.int (iz ((((r_2 * 3125) + x) * 16) + r_7))]) (h' := h0) rfl ?_
    refine Rx.ret rfl ?_
    exact ⟨_, rfl, rfl, (by omega)⟩
  · refine Rx.walk 3 (pc' := 7) (L' := [some (.int (iz till)), some (.int (iz p)), some (.int (iz x))]) (st' := [.int (iz 1), .int (iz till), .int (iz x)]) (h' := h0) rfl ?_
    refine Rx.callx (m' := m_X10_pipeOf) (as := [.int (iz till), .int (iz 1)]) (rest := [.int (iz x)]) rfl (n_pipeOf _ h0  till 1 (by first | assumption | omega) (by first | assumption | omega) ⟨by omega, by omega⟩) (fun v17 h18 q19 => ?_)
    obtain ⟨r_15, rfl, rfl, f16⟩ := q19
    refine Rx.walk 0 (pc' := 10) (L' := [some (.int (iz till)), some (.int (iz p)), some (.int (iz x))]) (st' := [.int (iz r_15), .int (iz x)]) (h' := h0) rfl ?_
    refine Rx.walk 1 (pc' := 11) (L' := [some (.int (iz till)), some (.int (iz p)), some (.int (iz x))]) (st' := [.int (iz till), .int (iz r_15), .int (iz x)]) (h' := h0) rfl ?_
    refine Rx.callx (m' := m_X10_trayOf) (as := [.int (iz till)]) (rest := [.int (iz r_15), .int (iz x)]) rfl (n_trayOf _ h0  till (by first | assumption | omega) (by first | assumption | omega)) (fun v22 h23 q24 => ?_)
    obtain ⟨r_20, rfl, rfl, f21⟩ := q24
    refine Rx.walk 0 (pc' := 14) (L' := [some (.int (iz till)), some (.int (iz p)), some (.int (iz x))]) (st' := [.int (iz r_20), .int (iz r_15), .int (iz x)]) (h' := h0) rfl ?_
    refine Rx.callx (m' := m_X10_number) (as := [.int (iz x), .int (iz r_15), .int (iz r_20)]) (rest := []) rfl (n_number _ h0  x r_15 r_20 ) (fun v25 h26 q27 => ?_)
    obtain ⟨rfl, rfl⟩ := q27
    refine Rx.walk 0 (pc' := 17) (L' := [some (.int (iz till)), some (.int (iz p)), some (.int (iz x))]) (st' := [.int (iz ((((x * 3125) + r_15) * 16) + r_20))]) (h' := h0) rfl ?_
    refine Rx.walk 1 (pc' := 33) (L' := [some (.int (iz till)), some (.int (iz p)), some (.int (iz x))]) (st' := [.int (iz ((((x * 3125) + r_15) * 16) + r_20))]) (h' := h0) rfl ?_
    refine Rx.ret rfl ?_
    exact ⟨_, rfl, rfl, (by omega)⟩
set_option maxRecDepth 100000 in
set_option maxHeartbeats 4000000 in
theorem n_height (d : Nat) (h0 : AmH)  (p : Int) (hp : bI p) : Rx (d) m_X10_height 0 (am_ent [.int (iz p)] 1) [] (h0) (fun rv h => ∃ r : Int, rv = some (.int (iz r)) ∧ h0 = h ∧ r = ht p) := by
  refine Rx.walk 0 (pc' := 0) (L' := [some (.int (iz p))]) (st' := []) (h' := h0) rfl ?_
  refine Rx.walk 2 (pc' := 2) (L' := [some (.int (iz p))]) (st' := [.int (iz 5), .int (iz p)]) (h' := h0) rfl ?_
  refine Rx.ge2 rfl rfl hp ⟨by omega, by omega⟩ (fun b1 => ?_) (fun b1 => ?_)
  · refine Rx.walk 2 (pc' := 18) (L' := [some (.int (iz p))]) (st' := [.int (iz 25), .int (iz p)]) (h' := h0) rfl ?_
    refine Rx.ge2 rfl rfl hp ⟨by omega, by omega⟩ (fun b2 => ?_) (fun b2 => ?_)
    · refine Rx.walk 2 (pc' := 26) (L' := [some (.int (iz p))]) (st' := [.int (iz 125), .int (iz p)]) (h' := h0) rfl ?_
      refine Rx.ge2 rfl rfl hp ⟨by omega, by omega⟩ (fun b3 => ?_) (fun b3 => ?_)
      · refine Rx.walk 2 (pc' := 35) (L' := [some (.int (iz p))]) (st' := [.int (iz 625), .int (iz p)]) (h' := h0) rfl ?_
        refine Rx.ge2 rfl rfl hp ⟨by omega, by omega⟩ (fun b4 => ?_) (fun b4 => ?_)
        · refine Rx.walk 1 (pc' := 43) (L' := [some (.int (iz p))]) (st' := [.int (iz 5)]) (h' := h0) rfl ?_
          refine Rx.ret rfl ?_
          exact ⟨_, rfl, rfl, (by have := ht_c p; omega)⟩
        · refine Rx.walk 2 (pc' := 43) (L' := [some (.int (iz p))]) (st' := [.int (iz 4)]) (h' := h0) rfl ?_
          refine Rx.ret rfl ?_
          exact ⟨_, rfl, rfl, (by have := ht_c p; omega)⟩
      · refine Rx.walk 1 (pc' := 30) (L' := [some (.int (iz p))]) (st' := [.int (iz 3)]) (h' := h0) rfl ?_
        refine Rx.ret rfl ?_
        exact ⟨_, rfl, rfl, (by have := ht_c p; omega)⟩
    · refine Rx.walk 1 (pc' := 22) (L' := [some (.int (iz p))]) (st' := [.int (iz 2)]) (h' := h0) rfl ?_
      refine Rx.ret rfl ?_
      exact ⟨_, rfl, rfl, (by have := ht_c p; omega)⟩
  · refine Rx.walk 1 (pc' := 6) (L' := [some (.int (iz p))]) (st' := [.int (iz p)]) (h' := h0) rfl ?_
    refine Rx.ne1 rfl rfl hp (fun b5 => ?_) (fun b5 => ?_)
    · refine Rx.walk 1 (pc' := 14) (L' := [some (.int (iz p))]) (st' := [.int (iz 1)]) (h' := h0) rfl ?_
      refine Rx.ret rfl ?_
      exact ⟨_, rfl, rfl, (by have := ht_c p; omega)⟩
    · refine Rx.walk 2 (pc' := 14) (L' := [some (.int (iz p))]) (st' := [.int (iz 0)]) (h' := h0) rfl ?_
      refine Rx.ret rfl ?_
      exact ⟨_, rfl, rfl, (by have := ht_c p; omega)⟩
set_option maxRecDepth 100000 in
set_option maxHeartbeats 4000000 in
theorem n_bitCount (d : Nat) (h0 : AmH)  (x : Int) (h0_ : 0 ≤ x) (h1_ : x < 16) : Rx (d) m_J6_bitCount_0f7a4 0 (am_ent [.int (iz x)] 1) [] (h0) (fun rv h => ∃ r : Int, rv = some (.int (iz r)) ∧ h0 = h ∧ r = bc x) := by
  rcases (show x = 0 ∨ x = 1 ∨ x = 2 ∨ x = 3 ∨ x = 4 ∨ x = 5 ∨ x = 6 ∨ x = 7 ∨ x = 8 ∨ x = 9 ∨ x = 10 ∨ x = 11 ∨ x = 12 ∨ x = 13 ∨ x = 14 ∨ x = 15 by omega) with rfl | rfl | rfl | rfl | rfl | rfl | rfl | rfl | rfl | rfl | rfl | rfl | rfl | rfl | rfl | rfl
  · exact ⟨_, _, ⟨60, rfl⟩, 0, rfl, rfl, by decide⟩
  · exact ⟨_, _, ⟨60, rfl⟩, 1, rfl, rfl, by decide⟩
  · exact ⟨_, _, ⟨60, rfl⟩, 1, rfl, rfl, by decide⟩
  · exact ⟨_, _, ⟨60, rfl⟩, 2, rfl, rfl, by decide⟩
  · exact ⟨_, _, ⟨60, rfl⟩, 1, rfl, rfl, by decide⟩
  · exact ⟨_, _, ⟨60, rfl⟩, 2, rfl, rfl, by decide⟩
  · exact ⟨_, _, ⟨60, rfl⟩, 2, rfl, rfl, by decide⟩
  · exact ⟨_, _, ⟨60, rfl⟩, 3, rfl, rfl, by decide⟩
  · exact ⟨_, _, ⟨60, rfl⟩, 1, rfl, rfl, by decide⟩
  · exact ⟨_, _, ⟨60, rfl⟩, 2, rfl, rfl, by decide⟩
  · exact ⟨_, _, ⟨60, rfl⟩, 2, rfl, rfl, by decide⟩
  · exact ⟨_, _, ⟨60, rfl⟩, 3, rfl, rfl, by decide⟩
  · exact ⟨_, _, ⟨60, rfl⟩, 2, rfl, rfl, by decide⟩
  · exact ⟨_, _, ⟨60, rfl⟩, 3, rfl, rfl, by decide⟩
  · exact ⟨_, _, ⟨60, rfl⟩, 3, rfl, rfl, by decide⟩
  · exact ⟨_, _, ⟨60, rfl⟩, 4, rfl, rfl, by decide⟩
set_option maxRecDepth 100000 in
set_option maxHeartbeats 4000000 in
theorem n_coinsIn (d : Nat) (h0 : AmH)  (till : Int) (h0_ : 0 ≤ till) (h1_ : till < 2147483648) : Rx (d + 1) m_X10_coinsIn 0 (am_ent [.int (iz till)] 1) [] (h0) (fun rv h => ∃ r : Int, rv = some (.int (iz r)) ∧ h0 = h ∧ r = ht (till / 16 / 3125) + ht (till / 16 % 3125) + bc (till % 16)) := by
  refine Rx.walk 0 (pc' := 0) (L' := [some (.int (iz till))]) (st' := []) (h' := h0) rfl ?_
  refine Rx.walk 2 (pc' := 2) (L' := [some (.int (iz till))]) (st' := [.int (iz 0), .int (iz till)]) (h' := h0) rfl ?_
  refine Rx.callx (m' := m_X10_pipeOf) (as := [.int (iz till), .int (iz 0)]) (rest := []) rfl (n_pipeOf _ h0  till 0 (by first | assumption | omega) (by first | assumption | omega) ⟨by omega, by omega⟩) (fun v3 h4 q5 => ?_)
  obtain ⟨r_1, rfl, rfl, f2⟩ := q5
  refine Rx.walk 0 (pc' := 5) (L' := [some (.int (iz till))]) (st' := [.int (iz r_1)]) (h' := h0) rfl ?_
  refine Rx.callx (m' := m_X10_height) (as := [.int (iz r_1)]) (rest := []) rfl (n_height _ h0  r_1 ⟨by omega, by omega⟩) (fun v8 h9 q10 => ?_)
  obtain ⟨r_6, rfl, rfl, f7⟩ := q10
  refine Rx.walk 0 (pc' := 8) (L' := [some (.int (iz till))]) (st' := [.int (iz r_6)]) (h' := h0) rfl ?_
  refine Rx.walk 2 (pc' := 10) (L' := [some (.int (iz till))]) (st' := [.int (iz 1), .int (iz till), .int (iz r_6)]) (h' := h0) rfl ?_
  refine Rx.callx (m' := m_X10_pipeOf) (as := [.int (iz till), .int (iz 1)]) (rest := [.int (iz r_6)]) rfl (n_pipeOf _ h0  till 1 (by first | assumption | omega) (by first | assumption | omega) ⟨by omega, by omega⟩) (fun v13 h14 q15 => ?_)
  obtain ⟨r_11, rfl, rfl, f12⟩ := q15
  refine Rx.walk 0 (pc' := 13) (L' := [some (.int (iz till))]) (st' := [.int (iz r_11), .int (iz r_6)]) (h' := h0) rfl ?_
  refine Rx.callx (m' := m_X10_height) (as := [.int (iz r_11)]) (rest := [.int (iz r_6)]) rfl (n_height _ h0  r_11 ⟨by omega, by omega⟩) (fun v18 h19 q20 => ?_)
  obtain ⟨r_16, rfl, rfl, f17⟩ := q20
  refine Rx.walk 0 (pc' := 16) (L' := [some (.int (iz till))]) (st' := [.int (iz r_16), .int (iz r_6)]) (h' := h0) rfl ?_
  refine Rx.iadd rfl ?_
  refine Rx.walk 1 (pc' := 18) (L' := [some (.int (iz till))]) (st' := [.int (iz till), .int (iz (r_6 + r_16))]) (h' := h0) rfl ?_
  refine Rx.callx (m' := m_X10_trayOf) (as := [.int (iz till)]) (rest := [.int (iz (r_6 + r_16))]) rfl (n_trayOf _ h0  till (by first | assumption | omega) (by first | assumption | omega)) (fun v23 h24 q25 => ?_)
  obtain ⟨r_21, rfl, rfl, f22⟩ := q25
  refine Rx.walk 0 (pc' := 21) (L' := [some (.int (iz till))]) (st' := [.int (iz r_21), .int (iz (r_6 + r_16))]) (h' := h0) rfl ?_
  refine Rx.callx (m' := m_J6_bitCount_0f7a4) (as := [.int (iz r_21)]) (rest := [.int (iz (r_6 + r_16))]) rfl (n_bitCount _ h0  r_21 (by first | assumption | omega) (by first | assumption | omega)) (fun v28 h29 q30 => ?_)
  obtain ⟨r_26, rfl, rfl, f27⟩ := q30
  refine Rx.walk 0 (pc' := 24) (L' := [some (.int (iz till))]) (st' := [.int (iz r_26), .int (iz (r_6 + r_16))]) (h' := h0) rfl ?_
  refine Rx.iadd rfl ?_
  refine Rx.ret rfl ?_
  have e1 : r_1 = till / 16 / 3125 := by omega
  have e2 : r_11 = till / 16 % 3125 := by omega
  rw [e1] at f7; rw [e2] at f17; rw [f22] at f27
  exact ⟨_, rfl, rfl, by rw [f7, f17, f27]⟩
set_option maxRecDepth 100000 in
set_option maxHeartbeats 4000000 in
theorem n_coinsAbove (d : Nat) (h0 : AmH)  (p : Int) (k : Int) (h0_ : 0 ≤ p) (h1_ : p < 2147483648) (h2_ : -1 ≤ k) (h3_ : k < 100) : Rx (d) m_X10_coinsAbove 0 (am_ent [.int (iz p), .int (iz k)] 4) [] (h0) (fun rv h => ∃ r : Int, rv = some (.int (iz r)) ∧ h0 = h ∧ r = cab p k) := by
  refine Rx.walk 0 (pc' := 0) (L' := [some (.int (iz p)), some (.int (iz k)), none, none]) (st' := []) (h' := h0) rfl ?_
  refine Rx.walk 6 (pc' := 6) (L' := [some (.int (iz p)), some (.int (iz k)), some (.int (iz p)), some (.int (iz 0))]) (st' := [.int (iz 5), .int (iz 0)]) (h' := h0) rfl ?_
  refine Rx.ge2 rfl rfl ⟨by omega, by omega⟩ ⟨by omega, by omega⟩ (fun b1 => by omega) (fun b1 => ?_)
  refine Rx.walk 1 (pc' := 10) (L' := [some (.int (iz p)), some (.int (iz k)), some (.int (iz p)), some (.int (iz 0))]) (st' := [.int (iz p)]) (h' := h0) rfl ?_
  refine Rx.le1 rfl rfl ⟨by omega, by omega⟩ (fun b2 => ?_) (fun b2 => ?_)
  · refine Rx.walk 1 (pc' := 35) (L' := [some (.int (iz p)), some (.int (iz k)), some (.int (iz p)), some (.int (iz 0))]) (st' := [.int (iz (-1))]) (h' := h0) rfl ?_
    refine Rx.ret rfl ?_
    exact ⟨_, rfl, rfl, (by simp only [cab, cabF]; (repeat' split) <;> omega)⟩
  · refine Rx.walk 2 (pc' := 15) (L' := [some (.int (iz p)), some (.int (iz k)), some (.int (iz p)), some (.int (iz 0))]) (st' := [.int (iz 5), .int (iz p)]) (h' := h0) rfl ?_
    refine Rx.irem rfl ⟨by omega, by omega⟩ ⟨by omega, by omega⟩ (by omega) (by omega) ?_
    refine Rx.walk 2 (pc' := 18) (L' := [some (.int (iz p)), some (.int (iz k)), some (.int (iz p)), some (.int (iz 0))]) (st' := [.int (iz 1), .int (iz k), .int (iz (p % 5))]) (h' := h0) rfl ?_
    refine Rx.iadd rfl ?_
    refine Rx.ne2 rfl rfl ⟨by omega, by omega⟩ ⟨by omega, by omega⟩ (fun b3 => ?_) (fun b3 => ?_)
    · refine Rx.walk 2 (pc' := 26) (L' := [some (.int (iz p)), some (.int (iz k)), some (.int (iz p)), some (.int (iz 0))]) (st' := [.int (iz 5), .int (iz p)]) (h' := h0) rfl ?_
      refine Rx.idiv rfl ⟨by omega, by omega⟩ ⟨by omega, by omega⟩ (by omega) (by omega) ?_
      refine Rx.walk 1 (pc' := 28) (L' := [some (.int (iz p)), some (.int (iz k)), some (.int (iz (p / 5))), some (.int (iz 0))]) (st' := []) (h' := h0) rfl ?_
      refine Rx.iinc (b := 1) rfl rfl rfl ?_
      refine Rx.walk 0 (pc' := 31) (L' := [some (.int (iz p)), some (.int (iz k)), some (.int (iz (p / 5))), some (.int (iz 1))]) (st' := []) (h' := h0) rfl ?_
      refine Rx.walk 3 (pc' := 6) (L' := [some (.int (iz p)), some (.int (iz k)), some (.int (iz (p / 5))), some (.int (iz 1))]) (st' := [.int (iz 5), .int (iz 1)]) (h' := h0) rfl ?_
      refine Rx.ge2 rfl rfl ⟨by omega, by omega⟩ ⟨by omega, by omega⟩ (fun b4 => by omega) (fun b4 => ?_)
      refine Rx.walk 1 (pc' := 10) (L' := [some (.int (iz p)), some (.int (iz k)), some (.int (iz (p / 5))), some (.int (iz 1))]) (st' := [.int (iz (p / 5))]) (h' := h0) rfl ?_
      refine Rx.le1 rfl rfl ⟨by omega, by omega⟩ (fun b5 => ?_) (fun b5 => ?_)
      · refine Rx.walk 1 (pc' := 35) (L' := [some (.int (iz p)), some (.int (iz k)), some (.int (iz (p / 5))), some (.int (iz 1))]) (st' := [.int (iz (-1))]) (h' := h0) rfl ?_
        refine Rx.ret rfl ?_
        exact ⟨_, rfl, rfl, (by simp only [cab, cabF]; (repeat' split) <;> omega)⟩
      · refine Rx.walk 2 (pc' := 15) (L' := [some (.int (iz p)), some (.int (iz k)), some (.int (iz (p / 5))), some (.int (iz 1))]) (st' := [.int (iz 5), .int (iz (p / 5))]) (h' := h0) rfl ?_
        refine Rx.irem rfl ⟨by omega, by omega⟩ ⟨by omega, by omega⟩ (by omega) (by omega) ?_
        refine Rx.walk 2 (pc' := 18) (L' := [some (.int (iz p)), some (.int (iz k)), some (.int (iz (p / 5))), some (.int (iz 1))]) (st' := [.int (iz 1), .int (iz k), .int (iz ((p / 5) % 5))]) (h' := h0) rfl ?_
        refine Rx.iadd rfl ?_
        refine Rx.ne2 rfl rfl ⟨by omega, by omega⟩ ⟨by omega, by omega⟩ (fun b6 => ?_) (fun b6 => ?_)
        · refine Rx.walk 2 (pc' := 26) (L' := [some (.int (iz p)), some (.int (iz k)), some (.int (iz (p / 5))), some (.int (iz 1))]) (st' := [.int (iz 5), .int (iz (p / 5))]) (h' := h0) rfl ?_
          refine Rx.idiv rfl ⟨by omega, by omega⟩ ⟨by omega, by omega⟩ (by omega) (by omega) ?_
          refine Rx.walk 1 (pc' := 28) (L' := [some (.int (iz p)), some (.int (iz k)), some (.int (iz ((p / 5) / 5))), some (.int (iz 1))]) (st' := []) (h' := h0) rfl ?_
          refine Rx.iinc (b := 1) rfl rfl rfl ?_
          refine Rx.walk 0 (pc' := 31) (L' := [some (.int (iz p)), some (.int (iz k)), some (.int (iz ((p / 5) / 5))), some (.int (iz 2))]) (st' := []) (h' := h0) rfl ?_
          refine Rx.walk 3 (pc' := 6) (L' := [some (.int (iz p)), some (.int (iz k)), some (.int (iz ((p / 5) / 5))), some (.int (iz 2))]) (st' := [.int (iz 5), .int (iz 2)]) (h' := h0) rfl ?_
          refine Rx.ge2 rfl rfl ⟨by omega, by omega⟩ ⟨by omega, by omega⟩ (fun b7 => by omega) (fun b7 => ?_)
          refine Rx.walk 1 (pc' := 10) (L' := [some (.int (iz p)), some (.int (iz k)), some (.int (iz ((p / 5) / 5))), some (.int (iz 2))]) (st' := [.int (iz ((p / 5) / 5))]) (h' := h0) rfl ?_
          refine Rx.le1 rfl rfl ⟨by omega, by omega⟩ (fun b8 => ?_) (fun b8 => ?_)
          · refine Rx.walk 1 (pc' := 35) (L' := [some (.int (iz p)), some (.int (iz k)), some (.int (iz ((p / 5) / 5))), some (.int (iz 2))]) (st' := [.int (iz (-1))]) (h' := h0) rfl ?_
            refine Rx.ret rfl ?_
            exact ⟨_, rfl, rfl, (by simp only [cab, cabF]; (repeat' split) <;> omega)⟩
          · refine Rx.walk 2 (pc' := 15) (L' := [some (.int (iz p)), some (.int (iz k)), some (.int (iz ((p / 5) / 5))), some (.int (iz 2))]) (st' := [.int (iz 5), .int (iz ((p / 5) / 5))]) (h' := h0) rfl ?_
            refine Rx.irem rfl ⟨by omega, by omega⟩ ⟨by omega, by omega⟩ (by omega) (by omega) ?_
            refine Rx.walk 2 (pc' := 18) (L' := [some (.int (iz p)), some (.int (iz k)), some (.int (iz ((p / 5) / 5))), some (.int (iz 2))]) (st' := [.int (iz 1), .int (iz k), .int (iz (((p / 5) / 5) % 5))]) (h' := h0) rfl ?_
            refine Rx.iadd rfl ?_
            refine Rx.ne2 rfl rfl ⟨by omega, by omega⟩ ⟨by omega, by omega⟩ (fun b9 => ?_) (fun b9 => ?_)
            · refine Rx.walk 2 (pc' := 26) (L' := [some (.int (iz p)), some (.int (iz k)), some (.int (iz ((p / 5) / 5))), some (.int (iz 2))]) (st' := [.int (iz 5), .int (iz ((p / 5) / 5))]) (h' := h0) rfl ?_
              refine Rx.idiv rfl ⟨by omega, by omega⟩ ⟨by omega, by omega⟩ (by omega) (by omega) ?_
              refine Rx.walk 1 (pc' := 28) (L' := [some (.int (iz p)), some (.int (iz k)), some (.int (iz (((p / 5) / 5) / 5))), some (.int (iz 2))]) (st' := []) (h' := h0) rfl ?_
              refine Rx.iinc (b := 1) rfl rfl rfl ?_
              refine Rx.walk 0 (pc' := 31) (L' := [some (.int (iz p)), some (.int (iz k)), some (.int (iz (((p / 5) / 5) / 5))), some (.int (iz 3))]) (st' := []) (h' := h0) rfl ?_
              refine Rx.walk 3 (pc' := 6) (L' := [some (.int (iz p)), some (.int (iz k)), some (.int (iz (((p / 5) / 5) / 5))), some (.int (iz 3))]) (st' := [.int (iz 5), .int (iz 3)]) (h' := h0) rfl ?_
              refine Rx.ge2 rfl rfl ⟨by omega, by omega⟩ ⟨by omega, by omega⟩ (fun b10 => by omega) (fun b10 => ?_)
              refine Rx.walk 1 (pc' := 10) (L' := [some (.int (iz p)), some (.int (iz k)), some (.int (iz (((p / 5) / 5) / 5))), some (.int (iz 3))]) (st' := [.int (iz (((p / 5) / 5) / 5))]) (h' := h0) rfl ?_
              refine Rx.le1 rfl rfl ⟨by omega, by omega⟩ (fun b11 => ?_) (fun b11 => ?_)
              · refine Rx.walk 1 (pc' := 35) (L' := [some (.int (iz p)), some (.int (iz k)), some (.int (iz (((p / 5) / 5) / 5))), some (.int (iz 3))]) (st' := [.int (iz (-1))]) (h' := h0) rfl ?_
                refine Rx.ret rfl ?_
                exact ⟨_, rfl, rfl, (by simp only [cab, cabF]; (repeat' split) <;> omega)⟩
              · refine Rx.walk 2 (pc' := 15) (L' := [some (.int (iz p)), some (.int (iz k)), some (.int (iz (((p / 5) / 5) / 5))), some (.int (iz 3))]) (st' := [.int (iz 5), .int (iz (((p / 5) / 5) / 5))]) (h' := h0) rfl ?_
                refine Rx.irem rfl ⟨by omega, by omega⟩ ⟨by omega, by omega⟩ (by omega) (by omega) ?_
                refine Rx.walk 2 (pc' := 18) (L' := [some (.int (iz p)), some (.int (iz k)), some (.int (iz (((p / 5) / 5) / 5))), some (.int (iz 3))]) (st' := [.int (iz 1), .int (iz k), .int (iz ((((p / 5) / 5) / 5) % 5))]) (h' := h0) rfl ?_
                refine Rx.iadd rfl ?_
                refine Rx.ne2 rfl rfl ⟨by omega, by omega⟩ ⟨by omega, by omega⟩ (fun b12 => ?_) (fun b12 => ?_)
                · refine Rx.walk 2 (pc' := 26) (L' := [some (.int (iz p)), some (.int (iz k)), some (.int (iz (((p / 5) / 5) / 5))), some (.int (iz 3))]) (st' := [.int (iz 5), .int (iz (((p / 5) / 5) / 5))]) (h' := h0) rfl ?_
                  refine Rx.idiv rfl ⟨by omega, by omega⟩ ⟨by omega, by omega⟩ (by omega) (by omega) ?_
                  refine Rx.walk 1 (pc' := 28) (L' := [some (.int (iz p)), some (.int (iz k)), some (.int (iz ((((p / 5) / 5) / 5) / 5))), some (.int (iz 3))]) (st' := []) (h' := h0) rfl ?_
                  refine Rx.iinc (b := 1) rfl rfl rfl ?_
                  refine Rx.walk 0 (pc' := 31) (L' := [some (.int (iz p)), some (.int (iz k)), some (.int (iz ((((p / 5) / 5) / 5) / 5))), some (.int (iz 4))]) (st' := []) (h' := h0) rfl ?_
                  refine Rx.walk 3 (pc' := 6) (L' := [some (.int (iz p)), some (.int (iz k)), some (.int (iz ((((p / 5) / 5) / 5) / 5))), some (.int (iz 4))]) (st' := [.int (iz 5), .int (iz 4)]) (h' := h0) rfl ?_
                  refine Rx.ge2 rfl rfl ⟨by omega, by omega⟩ ⟨by omega, by omega⟩ (fun b13 => by omega) (fun b13 => ?_)
                  refine Rx.walk 1 (pc' := 10) (L' := [some (.int (iz p)), some (.int (iz k)), some (.int (iz ((((p / 5) / 5) / 5) / 5))), some (.int (iz 4))]) (st' := [.int (iz ((((p / 5) / 5) / 5) / 5))]) (h' := h0) rfl ?_
                  refine Rx.le1 rfl rfl ⟨by omega, by omega⟩ (fun b14 => ?_) (fun b14 => ?_)
                  · refine Rx.walk 1 (pc' := 35) (L' := [some (.int (iz p)), some (.int (iz k)), some (.int (iz ((((p / 5) / 5) / 5) / 5))), some (.int (iz 4))]) (st' := [.int (iz (-1))]) (h' := h0) rfl ?_
                    refine Rx.ret rfl ?_
                    exact ⟨_, rfl, rfl, (by simp only [cab, cabF]; (repeat' split) <;> omega)⟩
                  · refine Rx.walk 2 (pc' := 15) (L' := [some (.int (iz p)), some (.int (iz k)), some (.int (iz ((((p / 5) / 5) / 5) / 5))), some (.int (iz 4))]) (st' := [.int (iz 5), .int (iz ((((p / 5) / 5) / 5) / 5))]) (h' := h0) rfl ?_
                    refine Rx.irem rfl ⟨by omega, by omega⟩ ⟨by omega, by omega⟩ (by omega) (by omega) ?_
                    refine Rx.walk 2 (pc' := 18) (L' := [some (.int (iz p)), some (.int (iz k)), some (.int (iz ((((p / 5) / 5) / 5) / 5))), some (.int (iz 4))]) (st' := [.int (iz 1), .int (iz k), .int (iz (((((p / 5) / 5) / 5) / 5) % 5))]) (h' := h0) rfl ?_
                    refine Rx.iadd rfl ?_
                    refine Rx.ne2 rfl rfl ⟨by omega, by omega⟩ ⟨by omega, by omega⟩ (fun b15 => ?_) (fun b15 => ?_)
                    · refine Rx.walk 2 (pc' := 26) (L' := [some (.int (iz p)), some (.int (iz k)), some (.int (iz ((((p / 5) / 5) / 5) / 5))), some (.int (iz 4))]) (st' := [.int (iz 5), .int (iz ((((p / 5) / 5) / 5) / 5))]) (h' := h0) rfl ?_
                      refine Rx.idiv rfl ⟨by omega, by omega⟩ ⟨by omega, by omega⟩ (by omega) (by omega) ?_
                      refine Rx.walk 1 (pc' := 28) (L' := [some (.int (iz p)), some (.int (iz k)), some (.int (iz (((((p / 5) / 5) / 5) / 5) / 5))), some (.int (iz 4))]) (st' := []) (h' := h0) rfl ?_
                      refine Rx.iinc (b := 1) rfl rfl rfl ?_
                      refine Rx.walk 0 (pc' := 31) (L' := [some (.int (iz p)), some (.int (iz k)), some (.int (iz (((((p / 5) / 5) / 5) / 5) / 5))), some (.int (iz 5))]) (st' := []) (h' := h0) rfl ?_
                      refine Rx.walk 3 (pc' := 6) (L' := [some (.int (iz p)), some (.int (iz k)), some (.int (iz (((((p / 5) / 5) / 5) / 5) / 5))), some (.int (iz 5))]) (st' := [.int (iz 5), .int (iz 5)]) (h' := h0) rfl ?_
                      refine Rx.ge2 rfl rfl ⟨by omega, by omega⟩ ⟨by omega, by omega⟩ (fun b16 => ?_) (fun b16 => by omega)
                      refine Rx.walk 1 (pc' := 35) (L' := [some (.int (iz p)), some (.int (iz k)), some (.int (iz (((((p / 5) / 5) / 5) / 5) / 5))), some (.int (iz 5))]) (st' := [.int (iz (-1))]) (h' := h0) rfl ?_
                      refine Rx.ret rfl ?_
                      exact ⟨_, rfl, rfl, (by simp only [cab, cabF]; (repeat' split) <;> omega)⟩
                    · refine Rx.walk 1 (pc' := 23) (L' := [some (.int (iz p)), some (.int (iz k)), some (.int (iz ((((p / 5) / 5) / 5) / 5))), some (.int (iz 4))]) (st' := [.int (iz 4)]) (h' := h0) rfl ?_
                      refine Rx.ret rfl ?_
                      exact ⟨_, rfl, rfl, (by simp only [cab, cabF]; (repeat' split) <;> omega)⟩
                · refine Rx.walk 1 (pc' := 23) (L' := [some (.int (iz p)), some (.int (iz k)), some (.int (iz (((p / 5) / 5) / 5))), some (.int (iz 3))]) (st' := [.int (iz 3)]) (h' := h0) rfl ?_
                  refine Rx.ret rfl ?_
                  exact ⟨_, rfl, rfl, (by simp only [cab, cabF]; (repeat' split) <;> omega)⟩
            · refine Rx.walk 1 (pc' := 23) (L' := [some (.int (iz p)), some (.int (iz k)), some (.int (iz ((p / 5) / 5))), some (.int (iz 2))]) (st' := [.int (iz 2)]) (h' := h0) rfl ?_
              refine Rx.ret rfl ?_
              exact ⟨_, rfl, rfl, (by simp only [cab, cabF]; (repeat' split) <;> omega)⟩
        · refine Rx.walk 1 (pc' := 23) (L' := [some (.int (iz p)), some (.int (iz k)), some (.int (iz (p / 5))), some (.int (iz 1))]) (st' := [.int (iz 1)]) (h' := h0) rfl ?_
          refine Rx.ret rfl ?_
          exact ⟨_, rfl, rfl, (by simp only [cab, cabF]; (repeat' split) <;> omega)⟩
    · refine Rx.walk 1 (pc' := 23) (L' := [some (.int (iz p)), some (.int (iz k)), some (.int (iz p)), some (.int (iz 0))]) (st' := [.int (iz 0)]) (h' := h0) rfl ?_
      refine Rx.ret rfl ?_
      exact ⟨_, rfl, rfl, (by simp only [cab, cabF]; (repeat' split) <;> omega)⟩
set_option maxRecDepth 100000 in
set_option maxHeartbeats 4000000 in
theorem n_digitOnTray (d : Nat) (h0 : AmH)  (n : Int) (t : Int) (h0_ : 0 ≤ t) (h1_ : t ≤ 4) (h2_ : n = tw t) : Rx (d) m_X10_digitOnTray 0 (am_ent [.int (iz n)] 2) [] (h0) (fun rv h => rv = some (.int (iz t)) ∧ h0 = h) := by
  subst h2_
  rcases (show t = 0 ∨ t = 1 ∨ t = 2 ∨ t = 3 ∨ t = 4 by omega) with rfl | rfl | rfl | rfl | rfl
  · exact ⟨_, _, ⟨100, rfl⟩, rfl, rfl⟩
  · exact ⟨_, _, ⟨100, rfl⟩, rfl, rfl⟩
  · exact ⟨_, _, ⟨100, rfl⟩, rfl, rfl⟩
  · exact ⟨_, _, ⟨100, rfl⟩, rfl, rfl⟩
  · exact ⟨_, _, ⟨100, rfl⟩, rfl, rfl⟩
set_option maxRecDepth 100000 in
set_option maxHeartbeats 4000000 in
theorem n_trayWith (d : Nat) (h0 : AmH)  (t : Int) (h0_ : 0 ≤ t) (h1_ : t ≤ 4) : Rx (d) m_X10_trayWith 0 (am_ent [.int (iz t)] 1) [] (h0) (fun rv h => rv = some (.int (iz (tw t))) ∧ h0 = h) := by
  rcases (show t = 0 ∨ t = 1 ∨ t = 2 ∨ t = 3 ∨ t = 4 by omega) with rfl | rfl | rfl | rfl | rfl
  · exact ⟨_, _, ⟨100, rfl⟩, rfl, rfl⟩
  · exact ⟨_, _, ⟨100, rfl⟩, rfl, rfl⟩
  · exact ⟨_, _, ⟨100, rfl⟩, rfl, rfl⟩
  · exact ⟨_, _, ⟨100, rfl⟩, rfl, rfl⟩
  · exact ⟨_, _, ⟨100, rfl⟩, rfl, rfl⟩

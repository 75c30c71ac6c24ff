/-! orders of the class: starts, reads, asNumber, swap, moveUp, turns, advances (printed by wip/whole/genorder.py) -/
def trn (m t : Nat) : Int := (([[], [0], [0, 1], [0, 1, 2, 1, 2, 3], [0, 1, 2, 1, 2, 3, 3, 4, 2, 1, 2, 3, 3, 4, 5, 4, 2, 3, 3, 4, 5, 4, 5, 6]] : List (List Int)).getD m []).getD t 0
section RxNeg
variable {d : Nat} {m : AmM} {pc : Nat} {L : AmL} {h : AmH} {P : Option Value → AmH → Prop} {rest : List Value} {len : Nat} {v : Value} {a b : Int}
theorem Rx.idivN (hat : am_at m.2.2.2.2.2 pc = some (.idiv, len, v)) (ha : bI (-a)) (hb : bI b) (h0 : 0 ≤ a) (hb0 : b ≠ 0) (k : Rx d m (pc + 1) L (.int (iz (-(a / b))) :: rest) h P) : Rx d m pc L (.int (iz b) :: .int (iz (-a)) :: rest) h P := by
  refine Rx.idivT hat ha hb hb0 ?_
  rw [Int.neg_tdiv, Int.tdiv_eq_ediv_of_nonneg h0]
  exact k
theorem Rx.iremN (hat : am_at m.2.2.2.2.2 pc = some (.irem, len, v)) (ha : bI (-a)) (hb : bI b) (h0 : 0 ≤ a) (hb0 : b ≠ 0) (k : Rx d m (pc + 1) L (.int (iz (-(a % b))) :: rest) h P) : Rx d m pc L (.int (iz b) :: .int (iz (-a)) :: rest) h P := by
  refine Rx.iremT hat ha hb hb0 ?_
  rw [Int.neg_tmod, Int.tmod_eq_emod_of_nonneg h0]
  exact k
end RxNeg
set_option maxRecDepth 100000 in
set_option maxHeartbeats 4000000 in
theorem x_starts0 (d : Nat) (z : Nat → Nat → Int) (f : Nat → Int → Int) (C : Nat → CuR) (T : Nat → TsR) (rc : Nat → Nat) (tl : AmH)  (osz : Int) (who : Int → Int) : Rx (d) m_X3_starts 0 (am_ent [.ref 95, .int (iz 0)] 3) [] (cxW (u2 z 95 1 osz) (uf f 96 who) C T rc tl) (fun rv h => ∃ who' : Int → Int, rv = none ∧ h = cxW (u2 z 95 1 0) (uf f 96 who') C T rc tl ∧ lsI 0 who' = pm 0 0) := by
  refine Rx.walk 0 (pc' := 0) (L' := [some (.ref 95), some (.int (iz 0)), none]) (st' := []) (h' := cxW (u2 z 95 1 osz) (uf f 96 who) C T rc tl) rfl ?_
  refine Rx.walk 4 (pc' := 4) (L' := [some (.ref 95), some (.int (iz 0)), none]) (st' := [.int (iz 0), .int (iz 4), .int (iz 0), .ref 95]) (h' := cxW (u2 z 95 1 osz) (uf f 96 who) C T rc tl) rfl ?_
  refine Rx.imin rfl ⟨by omega, by omega⟩ ⟨by omega, by omega⟩ ?_
  refine Rx.walk 0 (pc' := 7) (L' := [some (.ref 95), some (.int (iz 0)), none]) (st' := [.int (iz 0), .int (iz 0), .ref 95]) (h' := cxW (u2 z 95 1 osz) (uf f 96 who) C T rc tl) rfl ?_
  refine Rx.imax rfl ⟨by omega, by omega⟩ ⟨by omega, by omega⟩ ?_
  refine Rx.walk 0 (pc' := 10) (L' := [some (.ref 95), some (.int (iz 0)), none]) (st' := [.int (iz 0), .ref 95]) (h' := cxW (u2 z 95 1 osz) (uf f 96 who) C T rc tl) rfl ?_
  refine Rx.walk 6 (pc' := 20) (L' := [some (.ref 95), some (.int (iz 0)), some (.int (iz 0))]) (st' := [.int (iz 0), .int (iz 0)]) (h' := cxW (u2 z 95 1 0) (uf f 96 who) C T rc tl) rfl ?_
  refine Rx.ge2 rfl rfl ⟨by omega, by omega⟩ ⟨by omega, by omega⟩ (fun b1 => ?_) (fun b1 => by omega)
  refine Rx.ret rfl ?_
  exact ⟨_, rfl, rfl, (by rfl)⟩
set_option maxRecDepth 100000 in
set_option maxHeartbeats 4000000 in
theorem x_starts1 (d : Nat) (z : Nat → Nat → Int) (f : Nat → Int → Int) (C : Nat → CuR) (T : Nat → TsR) (rc : Nat → Nat) (tl : AmH)  (osz : Int) (who : Int → Int) : Rx (d) m_X3_starts 0 (am_ent [.ref 95, .int (iz 1)] 3) [] (cxW (u2 z 95 1 osz) (uf f 96 who) C T rc tl) (fun rv h => ∃ who' : Int → Int, rv = none ∧ h = cxW (u2 z 95 1 1) (uf f 96 who') C T rc tl ∧ lsI 1 who' = pm 1 0) := by
  refine Rx.walk 0 (pc' := 0) (L' := [some (.ref 95), some (.int (iz 1)), none]) (st' := []) (h' := cxW (u2 z 95 1 osz) (uf f 96 who) C T rc tl) rfl ?_
  refine Rx.walk 4 (pc' := 4) (L' := [some (.ref 95), some (.int (iz 1)), none]) (st' := [.int (iz 1), .int (iz 4), .int (iz 0), .ref 95]) (h' := cxW (u2 z 95 1 osz) (uf f 96 who) C T rc tl) rfl ?_
  refine Rx.imin rfl ⟨by omega, by omega⟩ ⟨by omega, by omega⟩ ?_
  refine Rx.walk 0 (pc' := 7) (L' := [some (.ref 95), some (.int (iz 1)), none]) (st' := [.int (iz 1), .int (iz 0), .ref 95]) (h' := cxW (u2 z 95 1 osz) (uf f 96 who) C T rc tl) rfl ?_
  refine Rx.imax rfl ⟨by omega, by omega⟩ ⟨by omega, by omega⟩ ?_
  refine Rx.walk 0 (pc' := 10) (L' := [some (.ref 95), some (.int (iz 1)), none]) (st' := [.int (iz 1), .ref 95]) (h' := cxW (u2 z 95 1 osz) (uf f 96 who) C T rc tl) rfl ?_
  refine Rx.walk 6 (pc' := 20) (L' := [some (.ref 95), some (.int (iz 1)), some (.int (iz 0))]) (st' := [.int (iz 1), .int (iz 0)]) (h' := cxW (u2 z 95 1 1) (uf f 96 who) C T rc tl) rfl ?_
  refine Rx.ge2 rfl rfl ⟨by omega, by omega⟩ ⟨by omega, by omega⟩ (fun b1 => by omega) (fun b1 => ?_)
  refine Rx.walk 4 (pc' := 29) (L' := [some (.ref 95), some (.int (iz 1)), some (.int (iz 0))]) (st' := [.int (iz 0), .int (iz 0), .ref 96]) (h' := cxW (u2 z 95 1 1) (uf f 96 who) C T rc tl) rfl ?_
  refine Rx.ias (g := who) (h' := cxW (u2 z 95 1 1) (uf f 96 (iu who 0 0)) C T rc tl) rfl rfl (by omega) (by omega) (by omega) rfl ?_
  refine Rx.iinc (b := 1) rfl rfl rfl ?_
  refine Rx.walk 0 (pc' := 33) (L' := [some (.ref 95), some (.int (iz 1)), some (.int (iz 1))]) (st' := []) (h' := cxW (u2 z 95 1 1) (uf f 96 (iu who 0 0)) C T rc tl) rfl ?_
  refine Rx.walk 4 (pc' := 20) (L' := [some (.ref 95), some (.int (iz 1)), some (.int (iz 1))]) (st' := [.int (iz 1), .int (iz 1)]) (h' := cxW (u2 z 95 1 1) (uf f 96 (iu who 0 0)) C T rc tl) rfl ?_
  refine Rx.ge2 rfl rfl ⟨by omega, by omega⟩ ⟨by omega, by omega⟩ (fun b2 => ?_) (fun b2 => by omega)
  refine Rx.ret rfl ?_
  exact ⟨_, rfl, rfl, (by show [_] = [0]; simp [iu])⟩
set_option maxRecDepth 100000 in
set_option maxHeartbeats 4000000 in
theorem x_starts2 (d : Nat) (z : Nat → Nat → Int) (f : Nat → Int → Int) (C : Nat → CuR) (T : Nat → TsR) (rc : Nat → Nat) (tl : AmH)  (osz : Int) (who : Int → Int) : Rx (d) m_X3_starts 0 (am_ent [.ref 95, .int (iz 2)] 3) [] (cxW (u2 z 95 1 osz) (uf f 96 who) C T rc tl) (fun rv h => ∃ who' : Int → Int, rv = none ∧ h = cxW (u2 z 95 1 2) (uf f 96 who') C T rc tl ∧ lsI 2 who' = pm 2 0) := by
  refine Rx.walk 0 (pc' := 0) (L' := [some (.ref 95), some (.int (iz 2)), none]) (st' := []) (h' := cxW (u2 z 95 1 osz) (uf f 96 who) C T rc tl) rfl ?_
  refine Rx.walk 4 (pc' := 4) (L' := [some (.ref 95), some (.int (iz 2)), none]) (st' := [.int (iz 2), .int (iz 4), .int (iz 0), .ref 95]) (h' := cxW (u2 z 95 1 osz) (uf f 96 who) C T rc tl) rfl ?_
  refine Rx.imin rfl ⟨by omega, by omega⟩ ⟨by omega, by omega⟩ ?_
  refine Rx.walk 0 (pc' := 7) (L' := [some (.ref 95), some (.int (iz 2)), none]) (st' := [.int (iz 2), .int (iz 0), .ref 95]) (h' := cxW (u2 z 95 1 osz) (uf f 96 who) C T rc tl) rfl ?_
  refine Rx.imax rfl ⟨by omega, by omega⟩ ⟨by omega, by omega⟩ ?_
  refine Rx.walk 0 (pc' := 10) (L' := [some (.ref 95), some (.int (iz 2)), none]) (st' := [.int (iz 2), .ref 95]) (h' := cxW (u2 z 95 1 osz) (uf f 96 who) C T rc tl) rfl ?_
  refine Rx.walk 6 (pc' := 20) (L' := [some (.ref 95), some (.int (iz 2)), some (.int (iz 0))]) (st' := [.int (iz 2), .int (iz 0)]) (h' := cxW (u2 z 95 1 2) (uf f 96 who) C T rc tl) rfl ?_
  refine Rx.ge2 rfl rfl ⟨by omega, by omega⟩ ⟨by omega, by omega⟩ (fun b1 => by omega) (fun b1 => ?_)
  refine Rx.walk 4 (pc' := 29) (L' := [some (.ref 95), some (.int (iz 2)), some (.int (iz 0))]) (st' := [.int (iz 0), .int (iz 0), .ref 96]) (h' := cxW (u2 z 95 1 2) (uf f 96 who) C T rc tl) rfl ?_
  refine Rx.ias (g := who) (h' := cxW (u2 z 95 1 2) (uf f 96 (iu who 0 0)) C T rc tl) rfl rfl (by omega) (by omega) (by omega) rfl ?_
  refine Rx.iinc (b := 1) rfl rfl rfl ?_
  refine Rx.walk 0 (pc' := 33) (L' := [some (.ref 95), some (.int (iz 2)), some (.int (iz 1))]) (st' := []) (h' := cxW (u2 z 95 1 2) (uf f 96 (iu who 0 0)) C T rc tl) rfl ?_
  refine Rx.walk 4 (pc' := 20) (L' := [some (.ref 95), some (.int (iz 2)), some (.int (iz 1))]) (st' := [.int (iz 2), .int (iz 1)]) (h' := cxW (u2 z 95 1 2) (uf f 96 (iu who 0 0)) C T rc tl) rfl ?_
  refine Rx.ge2 rfl rfl ⟨by omega, by omega⟩ ⟨by omega, by omega⟩ (fun b2 => by omega) (fun b2 => ?_)
  refine Rx.walk 4 (pc' := 29) (L' := [some (.ref 95), some (.int (iz 2)), some (.int (iz 1))]) (st' := [.int (iz 1), .int (iz 1), .ref 96]) (h' := cxW (u2 z 95 1 2) (uf f 96 (iu who 0 0)) C T rc tl) rfl ?_
  refine Rx.ias (g := (iu who 0 0)) (h' := cxW (u2 z 95 1 2) (uf f 96 (iu (iu who 0 0) 1 1)) C T rc tl) rfl rfl (by omega) (by omega) (by omega) rfl ?_
  refine Rx.iinc (b := 1) rfl rfl rfl ?_
  refine Rx.walk 0 (pc' := 33) (L' := [some (.ref 95), some (.int (iz 2)), some (.int (iz 2))]) (st' := []) (h' := cxW (u2 z 95 1 2) (uf f 96 (iu (iu who 0 0) 1 1)) C T rc tl) rfl ?_
  refine Rx.walk 4 (pc' := 20) (L' := [some (.ref 95), some (.int (iz 2)), some (.int (iz 2))]) (st' := [.int (iz 2), .int (iz 2)]) (h' := cxW (u2 z 95 1 2) (uf f 96 (iu (iu who 0 0) 1 1)) C T rc tl) rfl ?_
  refine Rx.ge2 rfl rfl ⟨by omega, by omega⟩ ⟨by omega, by omega⟩ (fun b3 => ?_) (fun b3 => by omega)
  refine Rx.ret rfl ?_
  exact ⟨_, rfl, rfl, (by show [_, _] = [0, 1]; simp [iu])⟩
set_option maxRecDepth 100000 in
set_option maxHeartbeats 4000000 in
theorem x_starts3 (d : Nat) (z : Nat → Nat → Int) (f : Nat → Int → Int) (C : Nat → CuR) (T : Nat → TsR) (rc : Nat → Nat) (tl : AmH)  (osz : Int) (who : Int → Int) : Rx (d) m_X3_starts 0 (am_ent [.ref 95, .int (iz 3)] 3) [] (cxW (u2 z 95 1 osz) (uf f 96 who) C T rc tl) (fun rv h => ∃ who' : Int → Int, rv = none ∧ h = cxW (u2 z 95 1 3) (uf f 96 who') C T rc tl ∧ lsI 3 who' = pm 3 0) := by
  refine Rx.walk 0 (pc' := 0) (L' := [some (.ref 95), some (.int (iz 3)), none]) (st' := []) (h' := cxW (u2 z 95 1 osz) (uf f 96 who) C T rc tl) rfl ?_
  refine Rx.walk 4 (pc' := 4) (L' := [some (.ref 95), some (.int (iz 3)), none]) (st' := [.int (iz 3), .int (iz 4), .int (iz 0), .ref 95]) (h' := cxW (u2 z 95 1 osz) (uf f 96 who) C T rc tl) rfl ?_
  refine Rx.imin rfl ⟨by omega, by omega⟩ ⟨by omega, by omega⟩ ?_
  refine Rx.walk 0 (pc' := 7) (L' := [some (.ref 95), some (.int (iz 3)), none]) (st' := [.int (iz 3), .int (iz 0), .ref 95]) (h' := cxW (u2 z 95 1 osz) (uf f 96 who) C T rc tl) rfl ?_
  refine Rx.imax rfl ⟨by omega, by omega⟩ ⟨by omega, by omega⟩ ?_
  refine Rx.walk 0 (pc' := 10) (L' := [some (.ref 95), some (.int (iz 3)), none]) (st' := [.int (iz 3), .ref 95]) (h' := cxW (u2 z 95 1 osz) (uf f 96 who) C T rc tl) rfl ?_
  refine Rx.walk 6 (pc' := 20) (L' := [some (.ref 95), some (.int (iz 3)), some (.int (iz 0))]) (st' := [.int (iz 3), .int (iz 0)]) (h' := cxW (u2 z 95 1 3) (uf f 96 who) C T rc tl) rfl ?_
  refine Rx.ge2 rfl rfl ⟨by omega, by omega⟩ ⟨by omega, by omega⟩ (fun b1 => by omega) (fun b1 => ?_)
  refine Rx.walk 4 (pc' := 29) (L' := [some (.ref 95), some (.int (iz 3)), some (.int (iz 0))]) (st' := [.int (iz 0), .int (iz 0), .ref 96]) (h' := cxW (u2 z 95 1 3) (uf f 96 who) C T rc tl) rfl ?_
  refine Rx.ias (g := who) (h' := cxW (u2 z 95 1 3) (uf f 96 (iu who 0 0)) C T rc tl) rfl rfl (by omega) (by omega) (by omega) rfl ?_
  refine Rx.iinc (b := 1) rfl rfl rfl ?_
  refine Rx.walk 0 (pc' := 33) (L' := [some (.ref 95), some (.int (iz 3)), some (.int (iz 1))]) (st' := []) (h' := cxW (u2 z 95 1 3) (uf f 96 (iu who 0 0)) C T rc tl) rfl ?_
  refine Rx.walk 4 (pc' := 20) (L' := [some (.ref 95), some (.int (iz 3)), some (.int (iz 1))]) (st' := [.int (iz 3), .int (iz 1)]) (h' := cxW (u2 z 95 1 3) (uf f 96 (iu who 0 0)) C T rc tl) rfl ?_
  refine Rx.ge2 rfl rfl ⟨by omega, by omega⟩ ⟨by omega, by omega⟩ (fun b2 => by omega) (fun b2 => ?_)
  refine Rx.walk 4 (pc' := 29) (L' := [some (.ref 95), some (.int (iz 3)), some (.int (iz 1))]) (st' := [.int (iz 1), .int (iz 1), .ref 96]) (h' := cxW (u2 z 95 1 3) (uf f 96 (iu who 0 0)) C T rc tl) rfl ?_
  refine Rx.ias (g := (iu who 0 0)) (h' := cxW (u2 z 95 1 3) (uf f 96 (iu (iu who 0 0) 1 1)) C T rc tl) rfl rfl (by omega) (by omega) (by omega) rfl ?_
  refine Rx.iinc (b := 1) rfl rfl rfl ?_
  refine Rx.walk 0 (pc' := 33) (L' := [some (.ref 95), some (.int (iz 3)), some (.int (iz 2))]) (st' := []) (h' := cxW (u2 z 95 1 3) (uf f 96 (iu (iu who 0 0) 1 1)) C T rc tl) rfl ?_
  refine Rx.walk 4 (pc' := 20) (L' := [some (.ref 95), some (.int (iz 3)), some (.int (iz 2))]) (st' := [.int (iz 3), .int (iz 2)]) (h' := cxW (u2 z 95 1 3) (uf f 96 (iu (iu who 0 0) 1 1)) C T rc tl) rfl ?_
  refine Rx.ge2 rfl rfl ⟨by omega, by omega⟩ ⟨by omega, by omega⟩ (fun b3 => by omega) (fun b3 => ?_)
  refine Rx.walk 4 (pc' := 29) (L' := [some (.ref 95), some (.int (iz 3)), some (.int (iz 2))]) (st' := [.int (iz 2), .int (iz 2), .ref 96]) (h' := cxW (u2 z 95 1 3) (uf f 96 (iu (iu who 0 0) 1 1)) C T rc tl) rfl ?_
  refine Rx.ias (g := (iu (iu who 0 0) 1 1)) (h' := cxW (u2 z 95 1 3) (uf f 96 (iu (iu (iu who 0 0) 1 1) 2 2)) C T rc tl) rfl rfl (by omega) (by omega) (by omega) rfl ?_
  refine Rx.iinc (b := 1) rfl rfl rfl ?_
  refine Rx.walk 0 (pc' := 33) (L' := [some (.ref 95), some (.int (iz 3)), some (.int (iz 3))]) (st' := []) (h' := cxW (u2 z 95 1 3) (uf f 96 (iu (iu (iu who 0 0) 1 1) 2 2)) C T rc tl) rfl ?_
  refine Rx.walk 4 (pc' := 20) (L' := [some (.ref 95), some (.int (iz 3)), some (.int (iz 3))]) (st' := [.int (iz 3), .int (iz 3)]) (h' := cxW (u2 z 95 1 3) (uf f 96 (iu (iu (iu who 0 0) 1 1) 2 2)) C T rc tl) rfl ?_
  refine Rx.ge2 rfl rfl ⟨by omega, by omega⟩ ⟨by omega, by omega⟩ (fun b4 => ?_) (fun b4 => by omega)
  refine Rx.ret rfl ?_
  exact ⟨_, rfl, rfl, (by show [_, _, _] = [0, 1, 2]; simp [iu])⟩
set_option maxRecDepth 100000 in
set_option maxHeartbeats 4000000 in
theorem x_starts4 (d : Nat) (z : Nat → Nat → Int) (f : Nat → Int → Int) (C : Nat → CuR) (T : Nat → TsR) (rc : Nat → Nat) (tl : AmH)  (osz : Int) (who : Int → Int) : Rx (d) m_X3_starts 0 (am_ent [.ref 95, .int (iz 4)] 3) [] (cxW (u2 z 95 1 osz) (uf f 96 who) C T rc tl) (fun rv h => ∃ who' : Int → Int, rv = none ∧ h = cxW (u2 z 95 1 4) (uf f 96 who') C T rc tl ∧ lsI 4 who' = pm 4 0) := by
  refine Rx.walk 0 (pc' := 0) (L' := [some (.ref 95), some (.int (iz 4)), none]) (st' := []) (h' := cxW (u2 z 95 1 osz) (uf f 96 who) C T rc tl) rfl ?_
  refine Rx.walk 4 (pc' := 4) (L' := [some (.ref 95), some (.int (iz 4)), none]) (st' := [.int (iz 4), .int (iz 4), .int (iz 0), .ref 95]) (h' := cxW (u2 z 95 1 osz) (uf f 96 who) C T rc tl) rfl ?_
  refine Rx.imin rfl ⟨by omega, by omega⟩ ⟨by omega, by omega⟩ ?_
  refine Rx.walk 0 (pc' := 7) (L' := [some (.ref 95), some (.int (iz 4)), none]) (st' := [.int (iz 4), .int (iz 0), .ref 95]) (h' := cxW (u2 z 95 1 osz) (uf f 96 who) C T rc tl) rfl ?_
  refine Rx.imax rfl ⟨by omega, by omega⟩ ⟨by omega, by omega⟩ ?_
  refine Rx.walk 0 (pc' := 10) (L' := [some (.ref 95), some (.int (iz 4)), none]) (st' := [.int (iz 4), .ref 95]) (h' := cxW (u2 z 95 1 osz) (uf f 96 who) C T rc tl) rfl ?_
  refine Rx.walk 6 (pc' := 20) (L' := [some (.ref 95), some (.int (iz 4)), some (.int (iz 0))]) (st' := [.int (iz 4), .int (iz 0)]) (h' := cxW (u2 z 95 1 4) (uf f 96 who) C T rc tl) rfl ?_
  refine Rx.ge2 rfl rfl ⟨by omega, by omega⟩ ⟨by omega, by omega⟩ (fun b1 => by omega) (fun b1 => ?_)
  refine Rx.walk 4 (pc' := 29) (L' := [some (.ref 95), some (.int (iz 4)), some (.int (iz 0))]) (st' := [.int (iz 0), .int (iz 0), .ref 96]) (h' := cxW (u2 z 95 1 4) (uf f 96 who) C T rc tl) rfl ?_
  refine Rx.ias (g := who) (h' := cxW (u2 z 95 1 4) (uf f 96 (iu who 0 0)) C T rc tl) rfl rfl (by omega) (by omega) (by omega) rfl ?_
  refine Rx.iinc (b := 1) rfl rfl rfl ?_
  refine Rx.walk 0 (pc' := 33) (L' := [some (.ref 95), some (.int (iz 4)), some (.int (iz 1))]) (st' := []) (h' := cxW (u2 z 95 1 4) (uf f 96 (iu who 0 0)) C T rc tl) rfl ?_
  refine Rx.walk 4 (pc' := 20) (L' := [some (.ref 95), some (.int (iz 4)), some (.int (iz 1))]) (st' := [.int (iz 4), .int (iz 1)]) (h' := cxW (u2 z 95 1 4) (uf f 96 (iu who 0 0)) C T rc tl) rfl ?_
  refine Rx.ge2 rfl rfl ⟨by omega, by omega⟩ ⟨by omega, by omega⟩ (fun b2 => by omega) (fun b2 => ?_)
  refine Rx.walk 4 (pc' := 29) (L' := [some (.ref 95), some (.int (iz 4)), some (.int (iz 1))]) (st' := [.int (iz 1), .int (iz 1), .ref 96]) (h' := cxW (u2 z 95 1 4) (uf f 96 (iu who 0 0)) C T rc tl) rfl ?_
  refine Rx.ias (g := (iu who 0 0)) (h' := cxW (u2 z 95 1 4) (uf f 96 (iu (iu who 0 0) 1 1)) C T rc tl) rfl rfl (by omega) (by omega) (by omega) rfl ?_
  refine Rx.iinc (b := 1) rfl rfl rfl ?_
  refine Rx.walk 0 (pc' := 33) (L' := [some (.ref 95), some (.int (iz 4)), some (.int (iz 2))]) (st' := []) (h' := cxW (u2 z 95 1 4) (uf f 96 (iu (iu who 0 0) 1 1)) C T rc tl) rfl ?_
  refine Rx.walk 4 (pc' := 20) (L' := [some (.ref 95), some (.int (iz 4)), some (.int (iz 2))]) (st' := [.int (iz 4), .int (iz 2)]) (h' := cxW (u2 z 95 1 4) (uf f 96 (iu (iu who 0 0) 1 1)) C T rc tl) rfl ?_
  refine Rx.ge2 rfl rfl ⟨by omega, by omega⟩ ⟨by omega, by omega⟩ (fun b3 => by omega) (fun b3 => ?_)
  refine Rx.walk 4 (pc' := 29) (L' := [some (.ref 95), some (.int (iz 4)), some (.int (iz 2))]) (st' := [.int (iz 2), .int (iz 2), .ref 96]) (h' := cxW (u2 z 95 1 4) (uf f 96 (iu (iu who 0 0) 1 1)) C T rc tl) rfl ?_
  refine Rx.ias (g := (iu (iu who 0 0) 1 1)) (h' := cxW (u2 z 95 1 4) (uf f 96 (iu (iu (iu who 0 0) 1 1) 2 2)) C T rc tl) rfl rfl (by omega) (by omega) (by omega) rfl ?_
  refine Rx.iinc (b := 1) rfl rfl rfl ?_
  refine Rx.walk 0 (pc' := 33) (L' := [some (.ref 95), some (.int (iz 4)), some (.int (iz 3))]) (st' := []) (h' := cxW (u2 z 95 1 4) (uf f 96 (iu (iu (iu who 0 0) 1 1) 2 2)) C T rc tl) rfl ?_
  refine Rx.walk 4 (pc' := 20) (L' := [some (.ref 95), some (.int (iz 4)), some (.int (iz 3))]) (st' := [.int (iz 4), .int (iz 3)]) (h' := cxW (u2 z 95 1 4) (uf f 96 (iu (iu (iu who 0 0) 1 1) 2 2)) C T rc tl) rfl ?_
  refine Rx.ge2 rfl rfl ⟨by omega, by omega⟩ ⟨by omega, by omega⟩ (fun b4 => by omega) (fun b4 => ?_)
  refine Rx.walk 4 (pc' := 29) (L' := [some (.ref 95), some (.int (iz 4)), some (.int (iz 3))]) (st' := [.int (iz 3), .int (iz 3), .ref 96]) (h' := cxW (u2 z 95 1 4) (uf f 96 (iu (iu (iu who 0 0) 1 1) 2 2)) C T rc tl) rfl ?_
  refine Rx.ias (g := (iu (iu (iu who 0 0) 1 1) 2 2)) (h' := cxW (u2 z 95 1 4) (uf f 96 (iu (iu (iu (iu who 0 0) 1 1) 2 2) 3 3)) C T rc tl) rfl rfl (by omega) (by omega) (by omega) rfl ?_
  refine Rx.iinc (b := 1) rfl rfl rfl ?_
  refine Rx.walk 0 (pc' := 33) (L' := [some (.ref 95), some (.int (iz 4)), some (.int (iz 4))]) (st' := []) (h' := cxW (u2 z 95 1 4) (uf f 96 (iu (iu (iu (iu who 0 0) 1 1) 2 2) 3 3)) C T rc tl) rfl ?_
  refine Rx.walk 4 (pc' := 20) (L' := [some (.ref 95), some (.int (iz 4)), some (.int (iz 4))]) (st' := [.int (iz 4), .int (iz 4)]) (h' := cxW (u2 z 95 1 4) (uf f 96 (iu (iu (iu (iu who 0 0) 1 1) 2 2) 3 3)) C T rc tl) rfl ?_
  refine Rx.ge2 rfl rfl ⟨by omega, by omega⟩ ⟨by omega, by omega⟩ (fun b5 => ?_) (fun b5 => by omega)
  refine Rx.ret rfl ?_
  exact ⟨_, rfl, rfl, (by show [_, _, _, _] = [0, 1, 2, 3]; simp [iu])⟩
set_option maxRecDepth 100000 in
set_option maxHeartbeats 4000000 in
theorem x_starts (d : Nat) (z : Nat → Nat → Int) (f : Nat → Int → Int) (C : Nat → CuR) (T : Nat → TsR) (rc : Nat → Nat) (tl : AmH)  (cu : Int) (osz : Int) (who : Int → Int) (hc : 0 ≤ cu ∧ cu ≤ 4) : Rx (d) m_X3_starts 0 (am_ent [.ref 95, .int (iz cu)] 3) [] (cxW (u2 z 95 1 osz) (uf f 96 who) C T rc tl) (fun rv h => ∃ who' : Int → Int, rv = none ∧ h = cxW (u2 z 95 1 cu) (uf f 96 who') C T rc tl ∧ lsI cu.toNat who' = pm cu.toNat 0) := by
  rcases (show cu = 0 ∨ cu = 1 ∨ cu = 2 ∨ cu = 3 ∨ cu = 4 by omega) with rfl | rfl | rfl | rfl | rfl
  · exact x_starts0 d z f C T rc tl osz who
  · exact x_starts1 d z f C T rc tl osz who
  · exact x_starts2 d z f C T rc tl osz who
  · exact x_starts3 d z f C T rc tl osz who
  · exact x_starts4 d z f C T rc tl osz who
set_option maxRecDepth 100000 in
set_option maxHeartbeats 4000000 in
theorem x_reads0 (d : Nat) (z : Nat → Nat → Int) (f : Nat → Int → Int) (C : Nat → CuR) (T : Nat → TsR) (rc : Nat → Nat) (tl : AmH)  (row : Int) (osz : Int) (who : Int → Int) (hr : bI (row)) (h0 : 0 ≤ row) : Rx (d + 1) m_X3_reads 0 (am_ent [.ref 95, .int (iz row), .int (iz 0)] 6) [] (cxW (u2 z 95 1 osz) (uf f 96 who) C T rc tl) (fun rv h => ∃ r : Int, ∃ who' : Int → Int, rv = some (.int (iz r)) ∧ h = cxW (u2 z 95 1 0) (uf f 96 who') C T rc tl ∧ ((r = 1 ∧ ordOK 0 row ∧ lsI 0 who' = ordL 0 row) ∨ (r = 0 ∧ ¬ ordOK 0 row))) := by
  obtain ⟨hr0, hr1⟩ := id hr
  refine Rx.walk 0 (pc' := 0) (L' := [some (.ref 95), some (.int (iz row)), some (.int (iz 0)), none, none, none]) (st' := []) (h' := cxW (u2 z 95 1 osz) (uf f 96 who) C T rc tl) rfl ?_
  refine Rx.walk 2 (pc' := 2) (L' := [some (.ref 95), some (.int (iz row)), some (.int (iz 0)), none, none, none]) (st' := [.int (iz 0), .ref 95]) (h' := cxW (u2 z 95 1 osz) (uf f 96 who) C T rc tl) rfl ?_
  refine Rx.callx (m' := m_X3_starts) (as := [.ref 95, .int (iz 0)]) (rest := []) rfl (x_starts _ (u2 z 95 1 osz) (uf f 96 who) C T rc tl  0 osz who (by first | assumption | omega)) (fun v3 h4 q5 => ?_)
  obtain ⟨who_1, rfl, rfl, f2⟩ := q5
  refine Rx.walk 0 (pc' := 5) (L' := [some (.ref 95), some (.int (iz row)), some (.int (iz 0)), none, none, none]) (st' := []) (h' := cxW (u2 z 95 1 0) (uf f 96 who_1) C T rc tl) rfl ?_
  refine Rx.walk 7 (pc' := 15) (L' := [some (.ref 95), some (.int (iz row)), some (.int (iz 0)), some (.int (iz row)), some (.int (iz 0)), none]) (st' := [.int (iz 1), .int (iz 0)]) (h' := cxW (u2 z 95 1 0) (uf f 96 who_1) C T rc tl) rfl ?_
  refine Rx.isub rfl ?_
  refine Rx.walk 0 (pc' := 16) (L' := [some (.ref 95), some (.int (iz row)), some (.int (iz 0)), some (.int (iz row)), some (.int (iz 0)), none]) (st' := [.int (iz (-1))]) (h' := cxW (u2 z 95 1 0) (uf f 96 who_1) C T rc tl) rfl ?_
  refine Rx.walk 2 (pc' := 20) (L' := [some (.ref 95), some (.int (iz row)), some (.int (iz 0)), some (.int (iz row)), some (.int (iz 0)), some (.int (iz (-1)))]) (st' := [.int (iz (-1))]) (h' := cxW (u2 z 95 1 0) (uf f 96 who_1) C T rc tl) rfl ?_
  refine Rx.lt1 rfl rfl ⟨by omega, by omega⟩ (fun b6 => ?_) (fun b6 => by omega)
  refine Rx.walk 2 (pc' := 89) (L' := [some (.ref 95), some (.int (iz row)), some (.int (iz 0)), some (.int (iz row)), some (.int (iz 0)), some (.int (iz (-1)))]) (st' := [.int (iz 0)]) (h' := cxW (u2 z 95 1 0) (uf f 96 who_1) C T rc tl) rfl ?_
  refine Rx.le1 rfl rfl ⟨by omega, by omega⟩ (fun b7 => ?_) (fun b7 => by omega)
  refine Rx.walk 1 (pc' := 113) (L' := [some (.ref 95), some (.int (iz row)), some (.int (iz 0)), some (.int (iz row)), some (.int (iz 0)), some (.int (iz (-1)))]) (st' := [.int (iz 0)]) (h' := cxW (u2 z 95 1 0) (uf f 96 who_1) C T rc tl) rfl ?_
  refine Rx.ret rfl ?_
  exact ⟨_, _, rfl, rfl, Or.inr ⟨rfl, fun q => absurd q.1 (by decide)⟩⟩
set_option maxRecDepth 100000 in
set_option maxHeartbeats 4000000 in
theorem x_reads0n (d : Nat) (z : Nat → Nat → Int) (f : Nat → Int → Int) (C : Nat → CuR) (T : Nat → TsR) (rc : Nat → Nat) (tl : AmH)  (nr : Int) (osz : Int) (who : Int → Int) (hr : bI ((-nr))) (h0 : 1 ≤ nr) : Rx (d + 1) m_X3_reads 0 (am_ent [.ref 95, .int (iz (-nr)), .int (iz 0)] 6) [] (cxW (u2 z 95 1 osz) (uf f 96 who) C T rc tl) (fun rv h => ∃ r : Int, ∃ who' : Int → Int, rv = some (.int (iz r)) ∧ h = cxW (u2 z 95 1 0) (uf f 96 who') C T rc tl ∧ ((r = 1 ∧ ordOK 0 (-nr) ∧ lsI 0 who' = ordL 0 (-nr)) ∨ (r = 0 ∧ ¬ ordOK 0 (-nr)))) := by
  obtain ⟨hr0, hr1⟩ := id hr
  refine Rx.walk 0 (pc' := 0) (L' := [some (.ref 95), some (.int (iz (-nr))), some (.int (iz 0)), none, none, none]) (st' := []) (h' := cxW (u2 z 95 1 osz) (uf f 96 who) C T rc tl) rfl ?_
  refine Rx.walk 2 (pc' := 2) (L' := [some (.ref 95), some (.int (iz (-nr))), some (.int (iz 0)), none, none, none]) (st' := [.int (iz 0), .ref 95]) (h' := cxW (u2 z 95 1 osz) (uf f 96 who) C T rc tl) rfl ?_
  refine Rx.callx (m' := m_X3_starts) (as := [.ref 95, .int (iz 0)]) (rest := []) rfl (x_starts _ (u2 z 95 1 osz) (uf f 96 who) C T rc tl  0 osz who (by first | assumption | omega)) (fun v3 h4 q5 => ?_)
  obtain ⟨who_1, rfl, rfl, f2⟩ := q5
  refine Rx.walk 0 (pc' := 5) (L' := [some (.ref 95), some (.int (iz (-nr))), some (.int (iz 0)), none, none, none]) (st' := []) (h' := cxW (u2 z 95 1 0) (uf f 96 who_1) C T rc tl) rfl ?_
  refine Rx.walk 7 (pc' := 15) (L' := [some (.ref 95), some (.int (iz (-nr))), some (.int (iz 0)), some (.int (iz (-nr))), some (.int (iz 0)), none]) (st' := [.int (iz 1), .int (iz 0)]) (h' := cxW (u2 z 95 1 0) (uf f 96 who_1) C T rc tl) rfl ?_
  refine Rx.isub rfl ?_
  refine Rx.walk 0 (pc' := 16) (L' := [some (.ref 95), some (.int (iz (-nr))), some (.int (iz 0)), some (.int (iz (-nr))), some (.int (iz 0)), none]) (st' := [.int (iz (-1))]) (h' := cxW (u2 z 95 1 0) (uf f 96 who_1) C T rc tl) rfl ?_
  refine Rx.walk 2 (pc' := 20) (L' := [some (.ref 95), some (.int (iz (-nr))), some (.int (iz 0)), some (.int (iz (-nr))), some (.int (iz 0)), some (.int (iz (-1)))]) (st' := [.int (iz (-1))]) (h' := cxW (u2 z 95 1 0) (uf f 96 who_1) C T rc tl) rfl ?_
  refine Rx.lt1 rfl rfl ⟨by omega, by omega⟩ (fun b6 => ?_) (fun b6 => by omega)
  refine Rx.walk 2 (pc' := 89) (L' := [some (.ref 95), some (.int (iz (-nr))), some (.int (iz 0)), some (.int (iz (-nr))), some (.int (iz 0)), some (.int (iz (-1)))]) (st' := [.int (iz 0)]) (h' := cxW (u2 z 95 1 0) (uf f 96 who_1) C T rc tl) rfl ?_
  refine Rx.le1 rfl rfl ⟨by omega, by omega⟩ (fun b7 => ?_) (fun b7 => by omega)
  refine Rx.walk 1 (pc' := 113) (L' := [some (.ref 95), some (.int (iz (-nr))), some (.int (iz 0)), some (.int (iz (-nr))), some (.int (iz 0)), some (.int (iz (-1)))]) (st' := [.int (iz 0)]) (h' := cxW (u2 z 95 1 0) (uf f 96 who_1) C T rc tl) rfl ?_
  refine Rx.ret rfl ?_
  exact ⟨_, _, rfl, rfl, Or.inr ⟨rfl, fun q => by have := q.2.1; omega⟩⟩
set_option maxRecDepth 100000 in
set_option maxHeartbeats 4000000 in
theorem x_reads1 (d : Nat) (z : Nat → Nat → Int) (f : Nat → Int → Int) (C : Nat → CuR) (T : Nat → TsR) (rc : Nat → Nat) (tl : AmH)  (row : Int) (osz : Int) (who : Int → Int) (hr : bI (row)) (h0 : 0 ≤ row) : Rx (d + 1) m_X3_reads 0 (am_ent [.ref 95, .int (iz row), .int (iz 1)] 6) [] (cxW (u2 z 95 1 osz) (uf f 96 who) C T rc tl) (fun rv h => ∃ r : Int, ∃ who' : Int → Int, rv = some (.int (iz r)) ∧ h = cxW (u2 z 95 1 1) (uf f 96 who') C T rc tl ∧ ((r = 1 ∧ ordOK 1 row ∧ lsI 1 who' = ordL 1 row) ∨ (r = 0 ∧ ¬ ordOK 1 row))) := by
  obtain ⟨hr0, hr1⟩ := id hr
  refine Rx.walk 0 (pc' := 0) (L' := [some (.ref 95), some (.int (iz row)), some (.int (iz 1)), none, none, none]) (st' := []) (h' := cxW (u2 z 95 1 osz) (uf f 96 who) C T rc tl) rfl ?_
  refine Rx.walk 2 (pc' := 2) (L' := [some (.ref 95), some (.int (iz row)), some (.int (iz 1)), none, none, none]) (st' := [.int (iz 1), .ref 95]) (h' := cxW (u2 z 95 1 osz) (uf f 96 who) C T rc tl) rfl ?_
  refine Rx.callx (m' := m_X3_starts) (as := [.ref 95, .int (iz 1)]) (rest := []) rfl (x_starts _ (u2 z 95 1 osz) (uf f 96 who) C T rc tl  1 osz who (by first | assumption | omega)) (fun v3 h4 q5 => ?_)
  obtain ⟨who_1, rfl, rfl, f2⟩ := q5
  refine Rx.walk 0 (pc' := 5) (L' := [some (.ref 95), some (.int (iz row)), some (.int (iz 1)), none, none, none]) (st' := []) (h' := cxW (u2 z 95 1 1) (uf f 96 who_1) C T rc tl) rfl ?_
  refine Rx.walk 7 (pc' := 15) (L' := [some (.ref 95), some (.int (iz row)), some (.int (iz 1)), some (.int (iz row)), some (.int (iz 0)), none]) (st' := [.int (iz 1), .int (iz 1)]) (h' := cxW (u2 z 95 1 1) (uf f 96 who_1) C T rc tl) rfl ?_
  refine Rx.isub rfl ?_
  refine Rx.walk 0 (pc' := 16) (L' := [some (.ref 95), some (.int (iz row)), some (.int (iz 1)), some (.int (iz row)), some (.int (iz 0)), none]) (st' := [.int (iz 0)]) (h' := cxW (u2 z 95 1 1) (uf f 96 who_1) C T rc tl) rfl ?_
  refine Rx.walk 2 (pc' := 20) (L' := [some (.ref 95), some (.int (iz row)), some (.int (iz 1)), some (.int (iz row)), some (.int (iz 0)), some (.int (iz 0))]) (st' := [.int (iz 0)]) (h' := cxW (u2 z 95 1 1) (uf f 96 who_1) C T rc tl) rfl ?_
  refine Rx.lt1 rfl rfl ⟨by omega, by omega⟩ (fun b6 => by omega) (fun b6 => ?_)
  refine Rx.walk 5 (pc' := 32) (L' := [some (.ref 95), some (.int (iz row)), some (.int (iz 1)), some (.int (iz row)), some (.int (iz 0)), some (.int (iz 0))]) (st' := [.int (iz 10), .int (iz row), .int (iz 0), .ref 96]) (h' := cxW (u2 z 95 1 1) (uf f 96 who_1) C T rc tl) rfl ?_
  refine Rx.irem rfl ⟨by omega, by omega⟩ ⟨by omega, by omega⟩ (by omega) (by omega) ?_
  refine Rx.ias (g := who_1) (h' := cxW (u2 z 95 1 1) (uf f 96 (iu who_1 0 (row % 10))) C T rc tl) rfl rfl (by omega) (by omega) (by omega) rfl ?_
  refine Rx.walk 2 (pc' := 37) (L' := [some (.ref 95), some (.int (iz row)), some (.int (iz 1)), some (.int (iz row)), some (.int (iz 0)), some (.int (iz 0))]) (st' := [.int (iz 10), .int (iz row)]) (h' := cxW (u2 z 95 1 1) (uf f 96 (iu who_1 0 (row % 10))) C T rc tl) rfl ?_
  refine Rx.idiv rfl ⟨by omega, by omega⟩ ⟨by omega, by omega⟩ (by omega) (by omega) ?_
  refine Rx.walk 4 (pc' := 45) (L' := [some (.ref 95), some (.int (iz row)), some (.int (iz 1)), some (.int (iz (row / 10))), some (.int (iz 0)), some (.int (iz 0))]) (st' := [.int (iz 0), .ref 96]) (h' := cxW (u2 z 95 1 1) (uf f 96 (iu who_1 0 (row % 10))) C T rc tl) rfl ?_
  refine Rx.ial (g := (iu who_1 0 (row % 10))) rfl rfl (by omega) (by omega) (by omega) ?_
  rw [show ((iu who_1 0 (row % 10)) 0) = (row % 10) by simp [iu]]
  refine Rx.lt1 rfl rfl ⟨by omega, by omega⟩ (fun b7 => ?_) (fun b7 => ?_)
  · refine Rx.walk 1 (pc' := 64) (L' := [some (.ref 95), some (.int (iz row)), some (.int (iz 1)), some (.int (iz (row / 10))), some (.int (iz 0)), some (.int (iz 0))]) (st' := [.int (iz 0)]) (h' := cxW (u2 z 95 1 1) (uf f 96 (iu who_1 0 (row % 10))) C T rc tl) rfl ?_
    refine Rx.ret rfl ?_
    refine ⟨_, _, rfl, rfl, Or.inr ⟨rfl, ?_⟩⟩
    rintro ⟨-, h2, h3, h4, h5⟩
    have h3 : row < 10 := h3
    simp only [ordL, List.mem_singleton, forall_eq] at h4
    omega
  · refine Rx.walk 3 (pc' := 55) (L' := [some (.ref 95), some (.int (iz row)), some (.int (iz 1)), some (.int (iz (row / 10))), some (.int (iz 0)), some (.int (iz 0))]) (st' := [.int (iz 0), .ref 96]) (h' := cxW (u2 z 95 1 1) (uf f 96 (iu who_1 0 (row % 10))) C T rc tl) rfl ?_
    refine Rx.ial (g := (iu who_1 0 (row % 10))) rfl rfl (by omega) (by omega) (by omega) ?_
    rw [show ((iu who_1 0 (row % 10)) 0) = (row % 10) by simp [iu]]
    refine Rx.walk 2 (pc' := 60) (L' := [some (.ref 95), some (.int (iz row)), some (.int (iz 1)), some (.int (iz (row / 10))), some (.int (iz 0)), some (.int (iz 0))]) (st' := [.int (iz 1), .int (iz (row % 10))]) (h' := cxW (u2 z 95 1 1) (uf f 96 (iu who_1 0 (row % 10))) C T rc tl) rfl ?_
    refine Rx.lt2 rfl rfl ⟨by omega, by omega⟩ ⟨by omega, by omega⟩ (fun b8 => ?_) (fun b8 => ?_)
    · refine Rx.walk 5 (pc' := 74) (L' := [some (.ref 95), some (.int (iz row)), some (.int (iz 1)), some (.int (iz (row / 10))), some (.int (iz 0)), some (.int (iz 0))]) (st' := [.int (iz 0), .ref 96, .int (iz 1), .int (iz 0)]) (h' := cxW (u2 z 95 1 1) (uf f 96 (iu who_1 0 (row % 10))) C T rc tl) rfl ?_
      refine Rx.ial (g := (iu who_1 0 (row % 10))) rfl rfl (by omega) (by omega) (by omega) ?_
      rw [show ((iu who_1 0 (row % 10)) 0) = (row % 10) by simp [iu]]
      refine Rx.ishl (c := (p2 (row % 10))) rfl (p2_shl (by omega) (by omega)) ?_
      refine Rx.ior (c := (orB 0 (row % 10))) rfl (orB_or (by omega) (by omega) (by omega) (by omega)) ?_
      have ob8 := orB_b (s := 0) (e := (row % 10)) (by omega) (by omega) (by omega) (by omega)
      refine Rx.walk 1 (pc' := 79) (L' := [some (.ref 95), some (.int (iz row)), some (.int (iz 1)), some (.int (iz (row / 10))), some (.int (iz (orB 0 (row % 10)))), some (.int (iz 0))]) (st' := []) (h' := cxW (u2 z 95 1 1) (uf f 96 (iu who_1 0 (row % 10))) C T rc tl) rfl ?_
      refine Rx.iinc (b := -1) rfl rfl rfl ?_
      refine Rx.walk 0 (pc' := 82) (L' := [some (.ref 95), some (.int (iz row)), some (.int (iz 1)), some (.int (iz (row / 10))), some (.int (iz (orB 0 (row % 10)))), some (.int (iz (-1)))]) (st' := []) (h' := cxW (u2 z 95 1 1) (uf f 96 (iu who_1 0 (row % 10))) C T rc tl) rfl ?_
      refine Rx.walk 2 (pc' := 20) (L' := [some (.ref 95), some (.int (iz row)), some (.int (iz 1)), some (.int (iz (row / 10))), some (.int (iz (orB 0 (row % 10)))), some (.int (iz (-1)))]) (st' := [.int (iz (-1))]) (h' := cxW (u2 z 95 1 1) (uf f 96 (iu who_1 0 (row % 10))) C T rc tl) rfl ?_
      refine Rx.lt1 rfl rfl ⟨by omega, by omega⟩ (fun b9 => ?_) (fun b9 => by omega)
      refine Rx.walk 2 (pc' := 89) (L' := [some (.ref 95), some (.int (iz row)), some (.int (iz 1)), some (.int (iz (row / 10))), some (.int (iz (orB 0 (row % 10)))), some (.int (iz (-1)))]) (st' := [.int (iz 1)]) (h' := cxW (u2 z 95 1 1) (uf f 96 (iu who_1 0 (row % 10))) C T rc tl) rfl ?_
      refine Rx.le1 rfl rfl ⟨by omega, by omega⟩ (fun b10 => by omega) (fun b10 => ?_)
      refine Rx.walk 1 (pc' := 93) (L' := [some (.ref 95), some (.int (iz row)), some (.int (iz 1)), some (.int (iz (row / 10))), some (.int (iz (orB 0 (row % 10)))), some (.int (iz (-1)))]) (st' := [.int (iz (row / 10))]) (h' := cxW (u2 z 95 1 1) (uf f 96 (iu who_1 0 (row % 10))) C T rc tl) rfl ?_
      refine Rx.ne1 rfl rfl ⟨by omega, by omega⟩ (fun b11 => ?_) (fun b11 => ?_)
      · refine Rx.walk 1 (pc' := 113) (L' := [some (.ref 95), some (.int (iz row)), some (.int (iz 1)), some (.int (iz (row / 10))), some (.int (iz (orB 0 (row % 10)))), some (.int (iz (-1)))]) (st' := [.int (iz 0)]) (h' := cxW (u2 z 95 1 1) (uf f 96 (iu who_1 0 (row % 10))) C T rc tl) rfl ?_
        refine Rx.ret rfl ?_
        refine ⟨_, _, rfl, rfl, Or.inr ⟨rfl, ?_⟩⟩
        rintro ⟨-, h2, h3, h4, h5⟩
        have h3 : row < 10 := h3
        simp only [ordL, List.mem_singleton, forall_eq] at h4
        omega
      · refine Rx.walk 1 (pc' := 98) (L' := [some (.ref 95), some (.int (iz row)), some (.int (iz 1)), some (.int (iz (row / 10))), some (.int (iz (orB 0 (row % 10)))), some (.int (iz (-1)))]) (st' := [.int (iz (orB 0 (row % 10)))]) (h' := cxW (u2 z 95 1 1) (uf f 96 (iu who_1 0 (row % 10))) C T rc tl) rfl ?_
        refine Rx.callx (m' := m_J6_bitCount_0f7a4) (as := [.int (iz (orB 0 (row % 10)))]) (rest := []) rfl (n_bitCount _ (cxW (u2 z 95 1 1) (uf f 96 (iu who_1 0 (row % 10))) C T rc tl)  (orB 0 (row % 10)) (by first | assumption | omega) (by first | assumption | omega)) (fun v14 h15 q16 => ?_)
        obtain ⟨r_12, rfl, rfl, f13⟩ := q16
        refine Rx.walk 0 (pc' := 101) (L' := [some (.ref 95), some (.int (iz row)), some (.int (iz 1)), some (.int (iz (row / 10))), some (.int (iz (orB 0 (row % 10)))), some (.int (iz (-1)))]) (st' := [.int (iz r_12)]) (h' := cxW (u2 z 95 1 1) (uf f 96 (iu who_1 0 (row % 10))) C T rc tl) rfl ?_
        have bb := bc_b (x := (orB 0 (row % 10)))
        refine Rx.walk 2 (pc' := 105) (L' := [some (.ref 95), some (.int (iz row)), some (.int (iz 1)), some (.int (iz (row / 10))), some (.int (iz (orB 0 (row % 10)))), some (.int (iz (-1)))]) (st' := [.int (iz 1), .int (iz r_12)]) (h' := cxW (u2 z 95 1 1) (uf f 96 (iu who_1 0 (row % 10))) C T rc tl) rfl ?_
        refine Rx.ne2 rfl rfl ⟨by omega, by omega⟩ ⟨by omega, by omega⟩ (fun b17 => ?_) (fun b17 => ?_)
        · refine Rx.walk 1 (pc' := 113) (L' := [some (.ref 95), some (.int (iz row)), some (.int (iz 1)), some (.int (iz (row / 10))), some (.int (iz (orB 0 (row % 10)))), some (.int (iz (-1)))]) (st' := [.int (iz 0)]) (h' := cxW (u2 z 95 1 1) (uf f 96 (iu who_1 0 (row % 10))) C T rc tl) rfl ?_
          refine Rx.ret rfl ?_
          refine ⟨_, _, rfl, rfl, Or.inr ⟨rfl, ?_⟩⟩
          rintro ⟨-, h2, h3, h4, h5⟩
          have e := bc1 (show 0 ≤ (row % 10) by omega) (show (row % 10) < 4 by omega)
          omega
        · refine Rx.walk 2 (pc' := 113) (L' := [some (.ref 95), some (.int (iz row)), some (.int (iz 1)), some (.int (iz (row / 10))), some (.int (iz (orB 0 (row % 10)))), some (.int (iz (-1)))]) (st' := [.int (iz 1)]) (h' := cxW (u2 z 95 1 1) (uf f 96 (iu who_1 0 (row % 10))) C T rc tl) rfl ?_
          refine Rx.ret rfl ?_
          refine ⟨_, _, rfl, rfl, Or.inl ⟨rfl, ⟨by omega, by omega, by show row < 10; omega, ?_, ?_⟩, ?_⟩⟩
          · simp only [ordL, List.mem_singleton, forall_eq]; omega
          · simp [ordL]
          · show [_] = [_]; simp [iu]
    · refine Rx.walk 1 (pc' := 64) (L' := [some (.ref 95), some (.int (iz row)), some (.int (iz 1)), some (.int (iz (row / 10))), some (.int (iz 0)), some (.int (iz 0))]) (st' := [.int (iz 0)]) (h' := cxW (u2 z 95 1 1) (uf f 96 (iu who_1 0 (row % 10))) C T rc tl) rfl ?_
      refine Rx.ret rfl ?_
      refine ⟨_, _, rfl, rfl, Or.inr ⟨rfl, ?_⟩⟩
      rintro ⟨-, h2, h3, h4, h5⟩
      have h3 : row < 10 := h3
      simp only [ordL, List.mem_singleton, forall_eq] at h4
      omega
set_option maxRecDepth 100000 in
set_option maxHeartbeats 4000000 in
theorem x_reads1n (d : Nat) (z : Nat → Nat → Int) (f : Nat → Int → Int) (C : Nat → CuR) (T : Nat → TsR) (rc : Nat → Nat) (tl : AmH)  (nr : Int) (osz : Int) (who : Int → Int) (hr : bI ((-nr))) (h0 : 1 ≤ nr) : Rx (d + 1) m_X3_reads 0 (am_ent [.ref 95, .int (iz (-nr)), .int (iz 1)] 6) [] (cxW (u2 z 95 1 osz) (uf f 96 who) C T rc tl) (fun rv h => ∃ r : Int, ∃ who' : Int → Int, rv = some (.int (iz r)) ∧ h = cxW (u2 z 95 1 1) (uf f 96 who') C T rc tl ∧ ((r = 1 ∧ ordOK 1 (-nr) ∧ lsI 1 who' = ordL 1 (-nr)) ∨ (r = 0 ∧ ¬ ordOK 1 (-nr)))) := by
  obtain ⟨hr0, hr1⟩ := id hr
  refine Rx.walk 0 (pc' := 0) (L' := [some (.ref 95), some (.int (iz (-nr))), some (.int (iz 1)), none, none, none]) (st' := []) (h' := cxW (u2 z 95 1 osz) (uf f 96 who) C T rc tl) rfl ?_
  refine Rx.walk 2 (pc' := 2) (L' := [some (.ref 95), some (.int (iz (-nr))), some (.int (iz 1)), none, none, none]) (st' := [.int (iz 1), .ref 95]) (h' := cxW (u2 z 95 1 osz) (uf f 96 who) C T rc tl) rfl ?_
  refine Rx.callx (m' := m_X3_starts) (as := [.ref 95, .int (iz 1)]) (rest := []) rfl (x_starts _ (u2 z 95 1 osz) (uf f 96 who) C T rc tl  1 osz who (by first | assumption | omega)) (fun v3 h4 q5 => ?_)
  obtain ⟨who_1, rfl, rfl, f2⟩ := q5
  refine Rx.walk 0 (pc' := 5) (L' := [some (.ref 95), some (.int (iz (-nr))), some (.int (iz 1)), none, none, none]) (st' := []) (h' := cxW (u2 z 95 1 1) (uf f 96 who_1) C T rc tl) rfl ?_
  refine Rx.walk 7 (pc' := 15) (L' := [some (.ref 95), some (.int (iz (-nr))), some (.int (iz 1)), some (.int (iz (-nr))), some (.int (iz 0)), none]) (st' := [.int (iz 1), .int (iz 1)]) (h' := cxW (u2 z 95 1 1) (uf f 96 who_1) C T rc tl) rfl ?_
  refine Rx.isub rfl ?_
  refine Rx.walk 0 (pc' := 16) (L' := [some (.ref 95), some (.int (iz (-nr))), some (.int (iz 1)), some (.int (iz (-nr))), some (.int (iz 0)), none]) (st' := [.int (iz 0)]) (h' := cxW (u2 z 95 1 1) (uf f 96 who_1) C T rc tl) rfl ?_
  refine Rx.walk 2 (pc' := 20) (L' := [some (.ref 95), some (.int (iz (-nr))), some (.int (iz 1)), some (.int (iz (-nr))), some (.int (iz 0)), some (.int (iz 0))]) (st' := [.int (iz 0)]) (h' := cxW (u2 z 95 1 1) (uf f 96 who_1) C T rc tl) rfl ?_
  refine Rx.lt1 rfl rfl ⟨by omega, by omega⟩ (fun b6 => by omega) (fun b6 => ?_)
  refine Rx.walk 5 (pc' := 32) (L' := [some (.ref 95), some (.int (iz (-nr))), some (.int (iz 1)), some (.int (iz (-nr))), some (.int (iz 0)), some (.int (iz 0))]) (st' := [.int (iz 10), .int (iz (-nr)), .int (iz 0), .ref 96]) (h' := cxW (u2 z 95 1 1) (uf f 96 who_1) C T rc tl) rfl ?_
  refine Rx.iremN rfl ⟨by omega, by omega⟩ ⟨by omega, by omega⟩ (by omega) (by omega) ?_
  refine Rx.ias (g := who_1) (h' := cxW (u2 z 95 1 1) (uf f 96 (iu who_1 0 (-(nr % 10)))) C T rc tl) rfl rfl (by omega) (by omega) (by omega) rfl ?_
  refine Rx.walk 2 (pc' := 37) (L' := [some (.ref 95), some (.int (iz (-nr))), some (.int (iz 1)), some (.int (iz (-nr))), some (.int (iz 0)), some (.int (iz 0))]) (st' := [.int (iz 10), .int (iz (-nr))]) (h' := cxW (u2 z 95 1 1) (uf f 96 (iu who_1 0 (-(nr % 10)))) C T rc tl) rfl ?_
  refine Rx.idivN rfl ⟨by omega, by omega⟩ ⟨by omega, by omega⟩ (by omega) (by omega) ?_
  refine Rx.walk 4 (pc' := 45) (L' := [some (.ref 95), some (.int (iz (-nr))), some (.int (iz 1)), some (.int (iz (-(nr / 10)))), some (.int (iz 0)), some (.int (iz 0))]) (st' := [.int (iz 0), .ref 96]) (h' := cxW (u2 z 95 1 1) (uf f 96 (iu who_1 0 (-(nr % 10)))) C T rc tl) rfl ?_
  refine Rx.ial (g := (iu who_1 0 (-(nr % 10)))) rfl rfl (by omega) (by omega) (by omega) ?_
  rw [show ((iu who_1 0 (-(nr % 10))) 0) = (-(nr % 10)) by simp [iu]]
  refine Rx.lt1 rfl rfl ⟨by omega, by omega⟩ (fun b7 => ?_) (fun b7 => ?_)
  · refine Rx.walk 1 (pc' := 64) (L' := [some (.ref 95), some (.int (iz (-nr))), some (.int (iz 1)), some (.int (iz (-(nr / 10)))), some (.int (iz 0)), some (.int (iz 0))]) (st' := [.int (iz 0)]) (h' := cxW (u2 z 95 1 1) (uf f 96 (iu who_1 0 (-(nr % 10)))) C T rc tl) rfl ?_
    refine Rx.ret rfl ?_
    exact ⟨_, _, rfl, rfl, Or.inr ⟨rfl, fun q => by have := q.2.1; omega⟩⟩
  · refine Rx.walk 3 (pc' := 55) (L' := [some (.ref 95), some (.int (iz (-nr))), some (.int (iz 1)), some (.int (iz (-(nr / 10)))), some (.int (iz 0)), some (.int (iz 0))]) (st' := [.int (iz 0), .ref 96]) (h' := cxW (u2 z 95 1 1) (uf f 96 (iu who_1 0 (-(nr % 10)))) C T rc tl) rfl ?_
    refine Rx.ial (g := (iu who_1 0 (-(nr % 10)))) rfl rfl (by omega) (by omega) (by omega) ?_
    rw [show ((iu who_1 0 (-(nr % 10))) 0) = (-(nr % 10)) by simp [iu]]
    refine Rx.walk 2 (pc' := 60) (L' := [some (.ref 95), some (.int (iz (-nr))), some (.int (iz 1)), some (.int (iz (-(nr / 10)))), some (.int (iz 0)), some (.int (iz 0))]) (st' := [.int (iz 1), .int (iz (-(nr % 10)))]) (h' := cxW (u2 z 95 1 1) (uf f 96 (iu who_1 0 (-(nr % 10)))) C T rc tl) rfl ?_
    refine Rx.lt2 rfl rfl ⟨by omega, by omega⟩ ⟨by omega, by omega⟩ (fun b8 => ?_) (fun b8 => ?_)
    · refine Rx.walk 5 (pc' := 74) (L' := [some (.ref 95), some (.int (iz (-nr))), some (.int (iz 1)), some (.int (iz (-(nr / 10)))), some (.int (iz 0)), some (.int (iz 0))]) (st' := [.int (iz 0), .ref 96, .int (iz 1), .int (iz 0)]) (h' := cxW (u2 z 95 1 1) (uf f 96 (iu who_1 0 (-(nr % 10)))) C T rc tl) rfl ?_
      refine Rx.ial (g := (iu who_1 0 (-(nr % 10)))) rfl rfl (by omega) (by omega) (by omega) ?_
      rw [show ((iu who_1 0 (-(nr % 10))) 0) = (-(nr % 10)) by simp [iu]]
      refine Rx.ishl (c := (p2 (-(nr % 10)))) rfl (p2_shl (by omega) (by omega)) ?_
      refine Rx.ior (c := (orB 0 (-(nr % 10)))) rfl (orB_or (by omega) (by omega) (by omega) (by omega)) ?_
      have ob8 := orB_b (s := 0) (e := (-(nr % 10))) (by omega) (by omega) (by omega) (by omega)
      refine Rx.walk 1 (pc' := 79) (L' := [some (.ref 95), some (.int (iz (-nr))), some (.int (iz 1)), some (.int (iz (-(nr / 10)))), some (.int (iz (orB 0 (-(nr % 10))))), some (.int (iz 0))]) (st' := []) (h' := cxW (u2 z 95 1 1) (uf f 96 (iu who_1 0 (-(nr % 10)))) C T rc tl) rfl ?_
      refine Rx.iinc (b := -1) rfl rfl rfl ?_
      refine Rx.walk 0 (pc' := 82) (L' := [some (.ref 95), some (.int (iz (-nr))), some (.int (iz 1)), some (.int (iz (-(nr / 10)))), some (.int (iz (orB 0 (-(nr % 10))))), some (.int (iz (-1)))]) (st' := []) (h' := cxW (u2 z 95 1 1) (uf f 96 (iu who_1 0 (-(nr % 10)))) C T rc tl) rfl ?_
      refine Rx.walk 2 (pc' := 20) (L' := [some (.ref 95), some (.int (iz (-nr))), some (.int (iz 1)), some (.int (iz (-(nr / 10)))), some (.int (iz (orB 0 (-(nr % 10))))), some (.int (iz (-1)))]) (st' := [.int (iz (-1))]) (h' := cxW (u2 z 95 1 1) (uf f 96 (iu who_1 0 (-(nr % 10)))) C T rc tl) rfl ?_
      refine Rx.lt1 rfl rfl ⟨by omega, by omega⟩ (fun b9 => ?_) (fun b9 => by omega)
      refine Rx.walk 2 (pc' := 89) (L' := [some (.ref 95), some (.int (iz (-nr))), some (.int (iz 1)), some (.int (iz (-(nr / 10)))), some (.int (iz (orB 0 (-(nr % 10))))), some (.int (iz (-1)))]) (st' := [.int (iz 1)]) (h' := cxW (u2 z 95 1 1) (uf f 96 (iu who_1 0 (-(nr % 10)))) C T rc tl) rfl ?_
      refine Rx.le1 rfl rfl ⟨by omega, by omega⟩ (fun b10 => by omega) (fun b10 => ?_)
      refine Rx.walk 1 (pc' := 93) (L' := [some (.ref 95), some (.int (iz (-nr))), some (.int (iz 1)), some (.int (iz (-(nr / 10)))), some (.int (iz (orB 0 (-(nr % 10))))), some (.int (iz (-1)))]) (st' := [.int (iz (-(nr / 10)))]) (h' := cxW (u2 z 95 1 1) (uf f 96 (iu who_1 0 (-(nr % 10)))) C T rc tl) rfl ?_
      refine Rx.ne1 rfl rfl ⟨by omega, by omega⟩ (fun b11 => ?_) (fun b11 => ?_)
      · refine Rx.walk 1 (pc' := 113) (L' := [some (.ref 95), some (.int (iz (-nr))), some (.int (iz 1)), some (.int (iz (-(nr / 10)))), some (.int (iz (orB 0 (-(nr % 10))))), some (.int (iz (-1)))]) (st' := [.int (iz 0)]) (h' := cxW (u2 z 95 1 1) (uf f 96 (iu who_1 0 (-(nr % 10)))) C T rc tl) rfl ?_
        refine Rx.ret rfl ?_
        exact ⟨_, _, rfl, rfl, Or.inr ⟨rfl, fun q => by have := q.2.1; omega⟩⟩
      · refine Rx.walk 1 (pc' := 98) (L' := [some (.ref 95), some (.int (iz (-nr))), some (.int (iz 1)), some (.int (iz (-(nr / 10)))), some (.int (iz (orB 0 (-(nr % 10))))), some (.int (iz (-1)))]) (st' := [.int (iz (orB 0 (-(nr % 10))))]) (h' := cxW (u2 z 95 1 1) (uf f 96 (iu who_1 0 (-(nr % 10)))) C T rc tl) rfl ?_
        refine Rx.callx (m' := m_J6_bitCount_0f7a4) (as := [.int (iz (orB 0 (-(nr % 10))))]) (rest := []) rfl (n_bitCount _ (cxW (u2 z 95 1 1) (uf f 96 (iu who_1 0 (-(nr % 10)))) C T rc tl)  (orB 0 (-(nr % 10))) (by first | assumption | omega) (by first | assumption | omega)) (fun v14 h15 q16 => ?_)
        obtain ⟨r_12, rfl, rfl, f13⟩ := q16
        refine Rx.walk 0 (pc' := 101) (L' := [some (.ref 95), some (.int (iz (-nr))), some (.int (iz 1)), some (.int (iz (-(nr / 10)))), some (.int (iz (orB 0 (-(nr % 10))))), some (.int (iz (-1)))]) (st' := [.int (iz r_12)]) (h' := cxW (u2 z 95 1 1) (uf f 96 (iu who_1 0 (-(nr % 10)))) C T rc tl) rfl ?_
        have bb := bc_b (x := (orB 0 (-(nr % 10))))
        refine Rx.walk 2 (pc' := 105) (L' := [some (.ref 95), some (.int (iz (-nr))), some (.int (iz 1)), some (.int (iz (-(nr / 10)))), some (.int (iz (orB 0 (-(nr % 10))))), some (.int (iz (-1)))]) (st' := [.int (iz 1), .int (iz r_12)]) (h' := cxW (u2 z 95 1 1) (uf f 96 (iu who_1 0 (-(nr % 10)))) C T rc tl) rfl ?_
        refine Rx.ne2 rfl rfl ⟨by omega, by omega⟩ ⟨by omega, by omega⟩ (fun b17 => ?_) (fun b17 => ?_)
        · refine Rx.walk 1 (pc' := 113) (L' := [some (.ref 95), some (.int (iz (-nr))), some (.int (iz 1)), some (.int (iz (-(nr / 10)))), some (.int (iz (orB 0 (-(nr % 10))))), some (.int (iz (-1)))]) (st' := [.int (iz 0)]) (h' := cxW (u2 z 95 1 1) (uf f 96 (iu who_1 0 (-(nr % 10)))) C T rc tl) rfl ?_
          refine Rx.ret rfl ?_
          exact ⟨_, _, rfl, rfl, Or.inr ⟨rfl, fun q => by have := q.2.1; omega⟩⟩
        · refine Rx.walk 2 (pc' := 113) (L' := [some (.ref 95), some (.int (iz (-nr))), some (.int (iz 1)), some (.int (iz (-(nr / 10)))), some (.int (iz (orB 0 (-(nr % 10))))), some (.int (iz (-1)))]) (st' := [.int (iz 1)]) (h' := cxW (u2 z 95 1 1) (uf f 96 (iu who_1 0 (-(nr % 10)))) C T rc tl) rfl ?_
          refine Rx.ret rfl ?_
          exfalso
          omega
    · refine Rx.walk 1 (pc' := 64) (L' := [some (.ref 95), some (.int (iz (-nr))), some (.int (iz 1)), some (.int (iz (-(nr / 10)))), some (.int (iz 0)), some (.int (iz 0))]) (st' := [.int (iz 0)]) (h' := cxW (u2 z 95 1 1) (uf f 96 (iu who_1 0 (-(nr % 10)))) C T rc tl) rfl ?_
      refine Rx.ret rfl ?_
      exact ⟨_, _, rfl, rfl, Or.inr ⟨rfl, fun q => by have := q.2.1; omega⟩⟩
set_option maxRecDepth 100000 in
set_option maxHeartbeats 4000000 in
theorem x_reads2 (d : Nat) (z : Nat → Nat → Int) (f : Nat → Int → Int) (C : Nat → CuR) (T : Nat → TsR) (rc : Nat → Nat) (tl : AmH)  (row : Int) (osz : Int) (who : Int → Int) (hr : bI (row)) (h0 : 0 ≤ row) : Rx (d + 1) m_X3_reads 0 (am_ent [.ref 95, .int (iz row), .int (iz 2)] 6) [] (cxW (u2 z 95 1 osz) (uf f 96 who) C T rc tl) (fun rv h => ∃ r : Int, ∃ who' : Int → Int, rv = some (.int (iz r)) ∧ h = cxW (u2 z 95 1 2) (uf f 96 who') C T rc tl ∧ ((r = 1 ∧ ordOK 2 row ∧ lsI 2 who' = ordL 2 row) ∨ (r = 0 ∧ ¬ ordOK 2 row))) := by
  obtain ⟨hr0, hr1⟩ := id hr
  refine Rx.walk 0 (pc' := 0) (L' := [some (.ref 95), some (.int (iz row)), some (.int (iz 2)), none, none, none]) (st' := []) (h' := cxW (u2 z 95 1 osz) (uf f 96 who) C T rc tl) rfl ?_
  refine Rx.walk 2 (pc' := 2) (L' := [some (.ref 95), some (.int (iz row)), some (.int (iz 2)), none, none, none]) (st' := [.int (iz 2), .ref 95]) (h' := cxW (u2 z 95 1 osz) (uf f 96 who) C T rc tl) rfl ?_
  refine Rx.callx (m' := m_X3_starts) (as := [.ref 95, .int (iz 2)]) (rest := []) rfl (x_starts _ (u2 z 95 1 osz) (uf f 96 who) C T rc tl  2 osz who (by first | assumption | omega)) (fun v3 h4 q5 => ?_)
  obtain ⟨who_1, rfl, rfl, f2⟩ := q5
  refine Rx.walk 0 (pc' := 5) (L' := [some (.ref 95), some (.int (iz row)), some (.int (iz 2)), none, none, none]) (st' := []) (h' := cxW (u2 z 95 1 2) (uf f 96 who_1) C T rc tl) rfl ?_
  refine Rx.walk 7 (pc' := 15) (L' := [some (.ref 95), some (.int (iz row)), some (.int (iz 2)), some (.int (iz row)), some (.int (iz 0)), none]) (st' := [.int (iz 1), .int (iz 2)]) (h' := cxW (u2 z 95 1 2) (uf f 96 who_1) C T rc tl) rfl ?_
  refine Rx.isub rfl ?_
  refine Rx.walk 0 (pc' := 16) (L' := [some (.ref 95), some (.int (iz row)), some (.int (iz 2)), some (.int (iz row)), some (.int (iz 0)), none]) (st' := [.int (iz 1)]) (h' := cxW (u2 z 95 1 2) (uf f 96 who_1) C T rc tl) rfl ?_
  refine Rx.walk 2 (pc' := 20) (L' := [some (.ref 95), some (.int (iz row)), some (.int (iz 2)), some (.int (iz row)), some (.int (iz 0)), some (.int (iz 1))]) (st' := [.int (iz 1)]) (h' := cxW (u2 z 95 1 2) (uf f 96 who_1) C T rc tl) rfl ?_
  refine Rx.lt1 rfl rfl ⟨by omega, by omega⟩ (fun b6 => by omega) (fun b6 => ?_)
  refine Rx.walk 5 (pc' := 32) (L' := [some (.ref 95), some (.int (iz row)), some (.int (iz 2)), some (.int (iz row)), some (.int (iz 0)), some (.int (iz 1))]) (st' := [.int (iz 10), .int (iz row), .int (iz 1), .ref 96]) (h' := cxW (u2 z 95 1 2) (uf f 96 who_1) C T rc tl) rfl ?_
  refine Rx.irem rfl ⟨by omega, by omega⟩ ⟨by omega, by omega⟩ (by omega) (by omega) ?_
  refine Rx.ias (g := who_1) (h' := cxW (u2 z 95 1 2) (uf f 96 (iu who_1 1 (row % 10))) C T rc tl) rfl rfl (by omega) (by omega) (by omega) rfl ?_
  refine Rx.walk 2 (pc' := 37) (L' := [some (.ref 95), some (.int (iz row)), some (.int (iz 2)), some (.int (iz row)), some (.int (iz 0)), some (.int (iz 1))]) (st' := [.int (iz 10), .int (iz row)]) (h' := cxW (u2 z 95 1 2) (uf f 96 (iu who_1 1 (row % 10))) C T rc tl) rfl ?_
  refine Rx.idiv rfl ⟨by omega, by omega⟩ ⟨by omega, by omega⟩ (by omega) (by omega) ?_
  refine Rx.walk 4 (pc' := 45) (L' := [some (.ref 95), some (.int (iz row)), some (.int (iz 2)), some (.int (iz (row / 10))), some (.int (iz 0)), some (.int (iz 1))]) (st' := [.int (iz 1), .ref 96]) (h' := cxW (u2 z 95 1 2) (uf f 96 (iu who_1 1 (row % 10))) C T rc tl) rfl ?_
  refine Rx.ial (g := (iu who_1 1 (row % 10))) rfl rfl (by omega) (by omega) (by omega) ?_
  rw [show ((iu who_1 1 (row % 10)) 1) = (row % 10) by simp [iu]]
  refine Rx.lt1 rfl rfl ⟨by omega, by omega⟩ (fun b7 => ?_) (fun b7 => ?_)
  · refine Rx.walk 1 (pc' := 64) (L' := [some (.ref 95), some (.int (iz row)), some (.int (iz 2)), some (.int (iz (row / 10))), some (.int (iz 0)), some (.int (iz 1))]) (st' := [.int (iz 0)]) (h' := cxW (u2 z 95 1 2) (uf f 96 (iu who_1 1 (row % 10))) C T rc tl) rfl ?_
    refine Rx.ret rfl ?_
    refine ⟨_, _, rfl, rfl, Or.inr ⟨rfl, ?_⟩⟩
    rintro ⟨-, h2, h3, h4, h5⟩
    have h3 : row < 100 := h3
    simp only [ordL, List.mem_cons, List.not_mem_nil, or_false, forall_eq_or_imp, forall_eq] at h4
    omega
  · refine Rx.walk 3 (pc' := 55) (L' := [some (.ref 95), some (.int (iz row)), some (.int (iz 2)), some (.int (iz (row / 10))), some (.int (iz 0)), some (.int (iz 1))]) (st' := [.int (iz 1), .ref 96]) (h' := cxW (u2 z 95 1 2) (uf f 96 (iu who_1 1 (row % 10))) C T rc tl) rfl ?_
    refine Rx.ial (g := (iu who_1 1 (row % 10))) rfl rfl (by omega) (by omega) (by omega) ?_
    rw [show ((iu who_1 1 (row % 10)) 1) = (row % 10) by simp [iu]]
    refine Rx.walk 2 (pc' := 60) (L' := [some (.ref 95), some (.int (iz row)), some (.int (iz 2)), some (.int (iz (row / 10))), some (.int (iz 0)), some (.int (iz 1))]) (st' := [.int (iz 2), .int (iz (row % 10))]) (h' := cxW (u2 z 95 1 2) (uf f 96 (iu who_1 1 (row % 10))) C T rc tl) rfl ?_
    refine Rx.lt2 rfl rfl ⟨by omega, by omega⟩ ⟨by omega, by omega⟩ (fun b8 => ?_) (fun b8 => ?_)
    · refine Rx.walk 5 (pc' := 74) (L' := [some (.ref 95), some (.int (iz row)), some (.int (iz 2)), some (.int (iz (row / 10))), some (.int (iz 0)), some (.int (iz 1))]) (st' := [.int (iz 1), .ref 96, .int (iz 1), .int (iz 0)]) (h' := cxW (u2 z 95 1 2) (uf f 96 (iu who_1 1 (row % 10))) C T rc tl) rfl ?_
      refine Rx.ial (g := (iu who_1 1 (row % 10))) rfl rfl (by omega) (by omega) (by omega) ?_
      rw [show ((iu who_1 1 (row % 10)) 1) = (row % 10) by simp [iu]]
      refine Rx.ishl (c := (p2 (row % 10))) rfl (p2_shl (by omega) (by omega)) ?_
      refine Rx.ior (c := (orB 0 (row % 10))) rfl (orB_or (by omega) (by omega) (by omega) (by omega)) ?_
      have ob8 := orB_b (s := 0) (e := (row % 10)) (by omega) (by omega) (by omega) (by omega)
      refine Rx.walk 1 (pc' := 79) (L' := [some (.ref 95), some (.int (iz row)), some (.int (iz 2)), some (.int (iz (row / 10))), some (.int (iz (orB 0 (row % 10)))), some (.int (iz 1))]) (st' := []) (h' := cxW (u2 z 95 1 2) (uf f 96 (iu who_1 1 (row % 10))) C T rc tl) rfl ?_
      refine Rx.iinc (b := -1) rfl rfl rfl ?_
      refine Rx.walk 0 (pc' := 82) (L' := [some (.ref 95), some (.int (iz row)), some (.int (iz 2)), some (.int (iz (row / 10))), some (.int (iz (orB 0 (row % 10)))), some (.int (iz 0))]) (st' := []) (h' := cxW (u2 z 95 1 2) (uf f 96 (iu who_1 1 (row % 10))) C T rc tl) rfl ?_
      refine Rx.walk 2 (pc' := 20) (L' := [some (.ref 95), some (.int (iz row)), some (.int (iz 2)), some (.int (iz (row / 10))), some (.int (iz (orB 0 (row % 10)))), some (.int (iz 0))]) (st' := [.int (iz 0)]) (h' := cxW (u2 z 95 1 2) (uf f 96 (iu who_1 1 (row % 10))) C T rc tl) rfl ?_
      refine Rx.lt1 rfl rfl ⟨by omega, by omega⟩ (fun b9 => by omega) (fun b9 => ?_)
      refine Rx.walk 5 (pc' := 32) (L' := [some (.ref 95), some (.int (iz row)), some (.int (iz 2)), some (.int (iz (row / 10))), some (.int (iz (orB 0 (row % 10)))), some (.int (iz 0))]) (st' := [.int (iz 10), .int (iz (row / 10)), .int (iz 0), .ref 96]) (h' := cxW (u2 z 95 1 2) (uf f 96 (iu who_1 1 (row % 10))) C T rc tl) rfl ?_
      refine Rx.irem rfl ⟨by omega, by omega⟩ ⟨by omega, by omega⟩ (by omega) (by omega) ?_
      refine Rx.ias (g := (iu who_1 1 (row % 10))) (h' := cxW (u2 z 95 1 2) (uf f 96 (iu (iu who_1 1 (row % 10)) 0 ((row / 10) % 10))) C T rc tl) rfl rfl (by omega) (by omega) (by omega) rfl ?_
      refine Rx.walk 2 (pc' := 37) (L' := [some (.ref 95), some (.int (iz row)), some (.int (iz 2)), some (.int (iz (row / 10))), some (.int (iz (orB 0 (row % 10)))), some (.int (iz 0))]) (st' := [.int (iz 10), .int (iz (row / 10))]) (h' := cxW (u2 z 95 1 2) (uf f 96 (iu (iu who_1 1 (row % 10)) 0 ((row / 10) % 10))) C T rc tl) rfl ?_
      refine Rx.idiv rfl ⟨by omega, by omega⟩ ⟨by omega, by omega⟩ (by omega) (by omega) ?_
      refine Rx.walk 4 (pc' := 45) (L' := [some (.ref 95), some (.int (iz row)), some (.int (iz 2)), some (.int (iz ((row / 10) / 10))), some (.int (iz (orB 0 (row % 10)))), some (.int (iz 0))]) (st' := [.int (iz 0), .ref 96]) (h' := cxW (u2 z 95 1 2) (uf f 96 (iu (iu who_1 1 (row % 10)) 0 ((row / 10) % 10))) C T rc tl) rfl ?_
      refine Rx.ial (g := (iu (iu who_1 1 (row % 10)) 0 ((row / 10) % 10))) rfl rfl (by omega) (by omega) (by omega) ?_
      rw [show ((iu (iu who_1 1 (row % 10)) 0 ((row / 10) % 10)) 0) = ((row / 10) % 10) by simp [iu]]
      refine Rx.lt1 rfl rfl ⟨by omega, by omega⟩ (fun b10 => ?_) (fun b10 => ?_)
      · refine Rx.walk 1 (pc' := 64) (L' := [some (.ref 95), some (.int (iz row)), some (.int (iz 2)), some (.int (iz ((row / 10) / 10))), some (.int (iz (orB 0 (row % 10)))), some (.int (iz 0))]) (st' := [.int (iz 0)]) (h' := cxW (u2 z 95 1 2) (uf f 96 (iu (iu who_1 1 (row % 10)) 0 ((row / 10) % 10))) C T rc tl) rfl ?_
        refine Rx.ret rfl ?_
        refine ⟨_, _, rfl, rfl, Or.inr ⟨rfl, ?_⟩⟩
        rintro ⟨-, h2, h3, h4, h5⟩
        have h3 : row < 100 := h3
        simp only [ordL, List.mem_cons, List.not_mem_nil, or_false, forall_eq_or_imp, forall_eq] at h4
        omega
      · refine Rx.walk 3 (pc' := 55) (L' := [some (.ref 95), some (.int (iz row)), some (.int (iz 2)), some (.int (iz ((row / 10) / 10))), some (.int (iz (orB 0 (row % 10)))), some (.int (iz 0))]) (st' := [.int (iz 0), .ref 96]) (h' := cxW (u2 z 95 1 2) (uf f 96 (iu (iu who_1 1 (row % 10)) 0 ((row / 10) % 10))) C T rc tl) rfl ?_
        refine Rx.ial (g := (iu (iu who_1 1 (row % 10)) 0 ((row / 10) % 10))) rfl rfl (by omega) (by omega) (by omega) ?_
        rw [show ((iu (iu who_1 1 (row % 10)) 0 ((row / 10) % 10)) 0) = ((row / 10) % 10) by simp [iu]]
        refine Rx.walk 2 (pc' := 60) (L' := [some (.ref 95), some (.int (iz row)), some (.int (iz 2)), some (.int (iz ((row / 10) / 10))), some (.int (iz (orB 0 (row % 10)))), some (.int (iz 0))]) (st' := [.int (iz 2), .int (iz ((row / 10) % 10))]) (h' := cxW (u2 z 95 1 2) (uf f 96 (iu (iu who_1 1 (row % 10)) 0 ((row / 10) % 10))) C T rc tl) rfl ?_
        refine Rx.lt2 rfl rfl ⟨by omega, by omega⟩ ⟨by omega, by omega⟩ (fun b11 => ?_) (fun b11 => ?_)
        · refine Rx.walk 5 (pc' := 74) (L' := [some (.ref 95), some (.int (iz row)), some (.int (iz 2)), some (.int (iz ((row / 10) / 10))), some (.int (iz (orB 0 (row % 10)))), some (.int (iz 0))]) (st' := [.int (iz 0), .ref 96, .int (iz 1), .int (iz (orB 0 (row % 10)))]) (h' := cxW (u2 z 95 1 2) (uf f 96 (iu (iu who_1 1 (row % 10)) 0 ((row / 10) % 10))) C T rc tl) rfl ?_
          refine Rx.ial (g := (iu (iu who_1 1 (row % 10)) 0 ((row / 10) % 10))) rfl rfl (by omega) (by omega) (by omega) ?_
          rw [show ((iu (iu who_1 1 (row % 10)) 0 ((row / 10) % 10)) 0) = ((row / 10) % 10) by simp [iu]]
          refine Rx.ishl (c := (p2 ((row / 10) % 10))) rfl (p2_shl (by omega) (by omega)) ?_
          refine Rx.ior (c := (orB (orB 0 (row % 10)) ((row / 10) % 10))) rfl (orB_or (by omega) (by omega) (by omega) (by omega)) ?_
          have ob11 := orB_b (s := (orB 0 (row % 10))) (e := ((row / 10) % 10)) (by omega) (by omega) (by omega) (by omega)
          refine Rx.walk 1 (pc' := 79) (L' := [some (.ref 95), some (.int (iz row)), some (.int (iz 2)), some (.int (iz ((row / 10) / 10))), some (.int (iz (orB (orB 0 (row % 10)) ((row / 10) % 10)))), some (.int (iz 0))]) (st' := []) (h' := cxW (u2 z 95 1 2) (uf f 96 (iu (iu who_1 1 (row % 10)) 0 ((row / 10) % 10))) C T rc tl) rfl ?_
          refine Rx.iinc (b := -1) rfl rfl rfl ?_
          refine Rx.walk 0 (pc' := 82) (L' := [some (.ref 95), some (.int (iz row)), some (.int (iz 2)), some (.int (iz ((row / 10) / 10))), some (.int (iz (orB (orB 0 (row % 10)) ((row / 10) % 10)))), some (.int (iz (-1)))]) (st' := []) (h' := cxW (u2 z 95 1 2) (uf f 96 (iu (iu who_1 1 (row % 10)) 0 ((row / 10) % 10))) C T rc tl) rfl ?_
          refine Rx.walk 2 (pc' := 20) (L' := [some (.ref 95), some (.int (iz row)), some (.int (iz 2)), some (.int (iz ((row / 10) / 10))), some (.int (iz (orB (orB 0 (row % 10)) ((row / 10) % 10)))), some (.int (iz (-1)))]) (st' := [.int (iz (-1))]) (h' := cxW (u2 z 95 1 2) (uf f 96 (iu (iu who_1 1 (row % 10)) 0 ((row / 10) % 10))) C T rc tl) rfl ?_
          refine Rx.lt1 rfl rfl ⟨by omega, by omega⟩ (fun b12 => ?_) (fun b12 => by omega)
          refine Rx.walk 2 (pc' := 89) (L' := [some (.ref 95), some (.int (iz row)), some (.int (iz 2)), some (.int (iz ((row / 10) / 10))), some (.int (iz (orB (orB 0 (row % 10)) ((row / 10) % 10)))), some (.int (iz (-1)))]) (st' := [.int (iz 2)]) (h' := cxW (u2 z 95 1 2) (uf f 96 (iu (iu who_1 1 (row % 10)) 0 ((row / 10) % 10))) C T rc tl) rfl ?_
          refine Rx.le1 rfl rfl ⟨by omega, by omega⟩ (fun b13 => by omega) (fun b13 => ?_)
          refine Rx.walk 1 (pc' := 93) (L' := [some (.ref 95), some (.int (iz row)), some (.int (iz 2)), some (.int (iz ((row / 10) / 10))), some (.int (iz (orB (orB 0 (row % 10)) ((row / 10) % 10)))), some (.int (iz (-1)))]) (st' := [.int (iz ((row / 10) / 10))]) (h' := cxW (u2 z 95 1 2) (uf f 96 (iu (iu who_1 1 (row % 10)) 0 ((row / 10) % 10))) C T rc tl) rfl ?_
          refine Rx.ne1 rfl rfl ⟨by omega, by omega⟩ (fun b14 => ?_) (fun b14 => ?_)
          · refine Rx.walk 1 (pc' := 113) (L' := [some (.ref 95), some (.int (iz row)), some (.int (iz 2)), some (.int (iz ((row / 10) / 10))), some (.int (iz (orB (orB 0 (row % 10)) ((row / 10) % 10)))), some (.int (iz (-1)))]) (st' := [.int (iz 0)]) (h' := cxW (u2 z 95 1 2) (uf f 96 (iu (iu who_1 1 (row % 10)) 0 ((row / 10) % 10))) C T rc tl) rfl ?_
            refine Rx.ret rfl ?_
            refine ⟨_, _, rfl, rfl, Or.inr ⟨rfl, ?_⟩⟩
            rintro ⟨-, h2, h3, h4, h5⟩
            have h3 : row < 100 := h3
            simp only [ordL, List.mem_cons, List.not_mem_nil, or_false, forall_eq_or_imp, forall_eq] at h4
            omega
          · refine Rx.walk 1 (pc' := 98) (L' := [some (.ref 95), some (.int (iz row)), some (.int (iz 2)), some (.int (iz ((row / 10) / 10))), some (.int (iz (orB (orB 0 (row % 10)) ((row / 10) % 10)))), some (.int (iz (-1)))]) (st' := [.int (iz (orB (orB 0 (row % 10)) ((row / 10) % 10)))]) (h' := cxW (u2 z 95 1 2) (uf f 96 (iu (iu who_1 1 (row % 10)) 0 ((row / 10) % 10))) C T rc tl) rfl ?_
            refine Rx.callx (m' := m_J6_bitCount_0f7a4) (as := [.int (iz (orB (orB 0 (row % 10)) ((row / 10) % 10)))]) (rest := []) rfl (n_bitCount _ (cxW (u2 z 95 1 2) (uf f 96 (iu (iu who_1 1 (row % 10)) 0 ((row / 10) % 10))) C T rc tl)  (orB (orB 0 (row % 10)) ((row / 10) % 10)) (by first | assumption | omega) (by first | assumption | omega)) (fun v17 h18 q19 => ?_)
            obtain ⟨r_15, rfl, rfl, f16⟩ := q19
            refine Rx.walk 0 (pc' := 101) (L' := [some (.ref 95), some (.int (iz row)), some (.int (iz 2)), some (.int (iz ((row / 10) / 10))), some (.int (iz (orB (orB 0 (row % 10)) ((row / 10) % 10)))), some (.int (iz (-1)))]) (st' := [.int (iz r_15)]) (h' := cxW (u2 z 95 1 2) (uf f 96 (iu (iu who_1 1 (row % 10)) 0 ((row / 10) % 10))) C T rc tl) rfl ?_
            have bb := bc_b (x := (orB (orB 0 (row % 10)) ((row / 10) % 10)))
            refine Rx.walk 2 (pc' := 105) (L' := [some (.ref 95), some (.int (iz row)), some (.int (iz 2)), some (.int (iz ((row / 10) / 10))), some (.int (iz (orB (orB 0 (row % 10)) ((row / 10) % 10)))), some (.int (iz (-1)))]) (st' := [.int (iz 2), .int (iz r_15)]) (h' := cxW (u2 z 95 1 2) (uf f 96 (iu (iu who_1 1 (row % 10)) 0 ((row / 10) % 10))) C T rc tl) rfl ?_
            refine Rx.ne2 rfl rfl ⟨by omega, by omega⟩ ⟨by omega, by omega⟩ (fun b20 => ?_) (fun b20 => ?_)
            · refine Rx.walk 1 (pc' := 113) (L' := [some (.ref 95), some (.int (iz row)), some (.int (iz 2)), some (.int (iz ((row / 10) / 10))), some (.int (iz (orB (orB 0 (row % 10)) ((row / 10) % 10)))), some (.int (iz (-1)))]) (st' := [.int (iz 0)]) (h' := cxW (u2 z 95 1 2) (uf f 96 (iu (iu who_1 1 (row % 10)) 0 ((row / 10) % 10))) C T rc tl) rfl ?_
              refine Rx.ret rfl ?_
              refine ⟨_, _, rfl, rfl, Or.inr ⟨rfl, ?_⟩⟩
              rintro ⟨-, h2, h3, h4, h5⟩
              have e := (not_congr (bc2 (show 0 ≤ (row % 10) by omega) (show (row % 10) < 4 by omega) (show 0 ≤ ((row / 10) % 10) by omega) (show ((row / 10) % 10) < 4 by omega))).mp (show ¬ bc (orB (orB 0 (row % 10)) ((row / 10) % 10)) = 2 by omega)
              simp only [ordL, List.pairwise_cons, List.mem_cons, List.not_mem_nil, or_false, forall_eq_or_imp, forall_eq, false_imp_iff, implies_true, and_true, List.Pairwise.nil] at h5
              omega
            · refine Rx.walk 2 (pc' := 113) (L' := [some (.ref 95), some (.int (iz row)), some (.int (iz 2)), some (.int (iz ((row / 10) / 10))), some (.int (iz (orB (orB 0 (row % 10)) ((row / 10) % 10)))), some (.int (iz (-1)))]) (st' := [.int (iz 1)]) (h' := cxW (u2 z 95 1 2) (uf f 96 (iu (iu who_1 1 (row % 10)) 0 ((row / 10) % 10))) C T rc tl) rfl ?_
              refine Rx.ret rfl ?_
              have e := (bc2 (show 0 ≤ (row % 10) by omega) (show (row % 10) < 4 by omega) (show 0 ≤ ((row / 10) % 10) by omega) (show ((row / 10) % 10) < 4 by omega)).mp (show bc (orB (orB 0 (row % 10)) ((row / 10) % 10)) = 2 by omega)
              refine ⟨_, _, rfl, rfl, Or.inl ⟨rfl, ⟨by omega, by omega, by show row < 100; omega, ?_, ?_⟩, ?_⟩⟩
              · simp only [ordL, List.mem_cons, List.not_mem_nil, or_false, forall_eq_or_imp, forall_eq]; omega
              · simp only [ordL, List.pairwise_cons, List.mem_cons, List.not_mem_nil, or_false, forall_eq_or_imp, forall_eq, false_imp_iff, implies_true, and_true, List.Pairwise.nil]; omega
              · show [_, _] = [_, _]; simp [iu]
        · refine Rx.walk 1 (pc' := 64) (L' := [some (.ref 95), some (.int (iz row)), some (.int (iz 2)), some (.int (iz ((row / 10) / 10))), some (.int (iz (orB 0 (row % 10)))), some (.int (iz 0))]) (st' := [.int (iz 0)]) (h' := cxW (u2 z 95 1 2) (uf f 96 (iu (iu who_1 1 (row % 10)) 0 ((row / 10) % 10))) C T rc tl) rfl ?_
          refine Rx.ret rfl ?_
          refine ⟨_, _, rfl, rfl, Or.inr ⟨rfl, ?_⟩⟩
          rintro ⟨-, h2, h3, h4, h5⟩
          have h3 : row < 100 := h3
          simp only [ordL, List.mem_cons, List.not_mem_nil, or_false, forall_eq_or_imp, forall_eq] at h4
          omega
    · refine Rx.walk 1 (pc' := 64) (L' := [some (.ref 95), some (.int (iz row)), some (.int (iz 2)), some (.int (iz (row / 10))), some (.int (iz 0)), some (.int (iz 1))]) (st' := [.int (iz 0)]) (h' := cxW (u2 z 95 1 2) (uf f 96 (iu who_1 1 (row % 10))) C T rc tl) rfl ?_
      refine Rx.ret rfl ?_
      refine ⟨_, _, rfl, rfl, Or.inr ⟨rfl, ?_⟩⟩
      rintro ⟨-, h2, h3, h4, h5⟩
      have h3 : row < 100 := h3
      simp only [ordL, List.mem_cons, List.not_mem_nil, or_false, forall_eq_or_imp, forall_eq] at h4
      omega
set_option maxRecDepth 100000 in
set_option maxHeartbeats 4000000 in
theorem x_reads2n (d : Nat) (z : Nat → Nat → Int) (f : Nat → Int → Int) (C : Nat → CuR) (T : Nat → TsR) (rc : Nat → Nat) (tl : AmH)  (nr : Int) (osz : Int) (who : Int → Int) (hr : bI ((-nr))) (h0 : 1 ≤ nr) : Rx (d + 1) m_X3_reads 0 (am_ent [.ref 95, .int (iz (-nr)), .int (iz 2)] 6) [] (cxW (u2 z 95 1 osz) (uf f 96 who) C T rc tl) (fun rv h => ∃ r : Int, ∃ who' : Int → Int, rv = some (.int (iz r)) ∧ h = cxW (u2 z 95 1 2) (uf f 96 who') C T rc tl ∧ ((r = 1 ∧ ordOK 2 (-nr) ∧ lsI 2 who' = ordL 2 (-nr)) ∨ (r = 0 ∧ ¬ ordOK 2 (-nr)))) := by
  obtain ⟨hr0, hr1⟩ := id hr
  refine Rx.walk 0 (pc' := 0) (L' := [some (.ref 95), some (.int (iz (-nr))), some (.int (iz 2)), none, none, none]) (st' := []) (h' := cxW (u2 z 95 1 osz) (uf f 96 who) C T rc tl) rfl ?_
  refine Rx.walk 2 (pc' := 2) (L' := [some (.ref 95), some (.int (iz (-nr))), some (.int (iz 2)), none, none, none]) (st' := [.int (iz 2), .ref 95]) (h' := cxW (u2 z 95 1 osz) (uf f 96 who) C T rc tl) rfl ?_
  refine Rx.callx (m' := m_X3_starts) (as := [.ref 95, .int (iz 2)]) (rest := []) rfl (x_starts _ (u2 z 95 1 osz) (uf f 96 who) C T rc tl  2 osz who (by first | assumption | omega)) (fun v3 h4 q5 => ?_)
  obtain ⟨who_1, rfl, rfl, f2⟩ := q5
  refine Rx.walk 0 (pc' := 5) (L' := [some (.ref 95), some (.int (iz (-nr))), some (.int (iz 2)), none, none, none]) (st' := []) (h' := cxW (u2 z 95 1 2) (uf f 96 who_1) C T rc tl) rfl ?_
  refine Rx.walk 7 (pc' := 15) (L' := [some (.ref 95), some (.int (iz (-nr))), some (.int (iz 2)), some (.int (iz (-nr))), some (.int (iz 0)), none]) (st' := [.int (iz 1), .int (iz 2)]) (h' := cxW (u2 z 95 1 2) (uf f 96 who_1) C T rc tl) rfl ?_
  refine Rx.isub rfl ?_
  refine Rx.walk 0 (pc' := 16) (L' := [some (.ref 95), some (.int (iz (-nr))), some (.int (iz 2)), some (.int (iz (-nr))), some (.int (iz 0)), none]) (st' := [.int (iz 1)]) (h' := cxW (u2 z 95 1 2) (uf f 96 who_1) C T rc tl) rfl ?_
  refine Rx.walk 2 (pc' := 20) (L' := [some (.ref 95), some (.int (iz (-nr))), some (.int (iz 2)), some (.int (iz (-nr))), some (.int (iz 0)), some (.int (iz 1))]) (st' := [.int (iz 1)]) (h' := cxW (u2 z 95 1 2) (uf f 96 who_1) C T rc tl) rfl ?_
  refine Rx.lt1 rfl rfl ⟨by omega, by omega⟩ (fun b6 => by omega) (fun b6 => ?_)
  refine Rx.walk 5 (pc' := 32) (L' := [some (.ref 95), some (.int (iz (-nr))), some (.int (iz 2)), some (.int (iz (-nr))), some (.int (iz 0)), some (.int (iz 1))]) (st' := [.int (iz 10), .int (iz (-nr)), .int (iz 1), .ref 96]) (h' := cxW (u2 z 95 1 2) (uf f 96 who_1) C T rc tl) rfl ?_
  refine Rx.iremN rfl ⟨by omega, by omega⟩ ⟨by omega, by omega⟩ (by omega) (by omega) ?_
  refine Rx.ias (g := who_1) (h' := cxW (u2 z 95 1 2) (uf f 96 (iu who_1 1 (-(nr % 10)))) C T rc tl) rfl rfl (by omega) (by omega) (by omega) rfl ?_
  refine Rx.walk 2 (pc' := 37) (L' := [some (.ref 95), some (.int (iz (-nr))), some (.int (iz 2)), some (.int (iz (-nr))), some (.int (iz 0)), some (.int (iz 1))]) (st' := [.int (iz 10), .int (iz (-nr))]) (h' := cxW (u2 z 95 1 2) (uf f 96 (iu who_1 1 (-(nr % 10)))) C T rc tl) rfl ?_
  refine Rx.idivN rfl ⟨by omega, by omega⟩ ⟨by omega, by omega⟩ (by omega) (by omega) ?_
  refine Rx.walk 4 (pc' := 45) (L' := [some (.ref 95), some (.int (iz (-nr))), some (.int (iz 2)), some (.int (iz (-(nr / 10)))), some (.int (iz 0)), some (.int (iz 1))]) (st' := [.int (iz 1), .ref 96]) (h' := cxW (u2 z 95 1 2) (uf f 96 (iu who_1 1 (-(nr % 10)))) C T rc tl) rfl ?_
  refine Rx.ial (g := (iu who_1 1 (-(nr % 10)))) rfl rfl (by omega) (by omega) (by omega) ?_
  rw [show ((iu who_1 1 (-(nr % 10))) 1) = (-(nr % 10)) by simp [iu]]
  refine Rx.lt1 rfl rfl ⟨by omega, by omega⟩ (fun b7 => ?_) (fun b7 => ?_)
  · refine Rx.walk 1 (pc' := 64) (L' := [some (.ref 95), some (.int (iz (-nr))), some (.int (iz 2)), some (.int (iz (-(nr / 10)))), some (.int (iz 0)), some (.int (iz 1))]) (st' := [.int (iz 0)]) (h' := cxW (u2 z 95 1 2) (uf f 96 (iu who_1 1 (-(nr % 10)))) C T rc tl) rfl ?_
    refine Rx.ret rfl ?_
    exact ⟨_, _, rfl, rfl, Or.inr ⟨rfl, fun q => by have := q.2.1; omega⟩⟩
  · refine Rx.walk 3 (pc' := 55) (L' := [some (.ref 95), some (.int (iz (-nr))), some (.int (iz 2)), some (.int (iz (-(nr / 10)))), some (.int (iz 0)), some (.int (iz 1))]) (st' := [.int (iz 1), .ref 96]) (h' := cxW (u2 z 95 1 2) (uf f 96 (iu who_1 1 (-(nr % 10)))) C T rc tl) rfl ?_
    refine Rx.ial (g := (iu who_1 1 (-(nr % 10)))) rfl rfl (by omega) (by omega) (by omega) ?_
    rw [show ((iu who_1 1 (-(nr % 10))) 1) = (-(nr % 10)) by simp [iu]]
    refine Rx.walk 2 (pc' := 60) (L' := [some (.ref 95), some (.int (iz (-nr))), some (.int (iz 2)), some (.int (iz (-(nr / 10)))), some (.int (iz 0)), some (.int (iz 1))]) (st' := [.int (iz 2), .int (iz (-(nr % 10)))]) (h' := cxW (u2 z 95 1 2) (uf f 96 (iu who_1 1 (-(nr % 10)))) C T rc tl) rfl ?_
    refine Rx.lt2 rfl rfl ⟨by omega, by omega⟩ ⟨by omega, by omega⟩ (fun b8 => ?_) (fun b8 => ?_)
    · refine Rx.walk 5 (pc' := 74) (L' := [some (.ref 95), some (.int (iz (-nr))), some (.int (iz 2)), some (.int (iz (-(nr / 10)))), some (.int (iz 0)), some (.int (iz 1))]) (st' := [.int (iz 1), .ref 96, .int (iz 1), .int (iz 0)]) (h' := cxW (u2 z 95 1 2) (uf f 96 (iu who_1 1 (-(nr % 10)))) C T rc tl) rfl ?_
      refine Rx.ial (g := (iu who_1 1 (-(nr % 10)))) rfl rfl (by omega) (by omega) (by omega) ?_
      rw [show ((iu who_1 1 (-(nr % 10))) 1) = (-(nr % 10)) by simp [iu]]
      refine Rx.ishl (c := (p2 (-(nr % 10)))) rfl (p2_shl (by omega) (by omega)) ?_
      refine Rx.ior (c := (orB 0 (-(nr % 10)))) rfl (orB_or (by omega) (by omega) (by omega) (by omega)) ?_
      have ob8 := orB_b (s := 0) (e := (-(nr % 10))) (by omega) (by omega) (by omega) (by omega)
      refine Rx.walk 1 (pc' := 79) (L' := [some (.ref 95), some (.int (iz (-nr))), some (.int (iz 2)), some (.int (iz (-(nr / 10)))), some (.int (iz (orB 0 (-(nr % 10))))), some (.int (iz 1))]) (st' := []) (h' := cxW (u2 z 95 1 2) (uf f 96 (iu who_1 1 (-(nr % 10)))) C T rc tl) rfl ?_
      refine Rx.iinc (b := -1) rfl rfl rfl ?_
      refine Rx.walk 0 (pc' := 82) (L' := [some (.ref 95), some (.int (iz (-nr))), some (.int (iz 2)), some (.int (iz (-(nr / 10)))), some (.int (iz (orB 0 (-(nr % 10))))), some (.int (iz 0))]) (st' := []) (h' := cxW (u2 z 95 1 2) (uf f 96 (iu who_1 1 (-(nr % 10)))) C T rc tl) rfl ?_
      refine Rx.walk 2 (pc' := 20) (L' := [some (.ref 95), some (.int (iz (-nr))), some (.int (iz 2)), some (.int (iz (-(nr / 10)))), some (.int (iz (orB 0 (-(nr % 10))))), some (.int (iz 0))]) (st' := [.int (iz 0)]) (h' := cxW (u2 z 95 1 2) (uf f 96 (iu who_1 1 (-(nr % 10)))) C T rc tl) rfl ?_
      refine Rx.lt1 rfl rfl ⟨by omega, by omega⟩ (fun b9 => by omega) (fun b9 => ?_)
      refine Rx.walk 5 (pc' := 32) (L' := [some (.ref 95), some (.int (iz (-nr))), some (.int (iz 2)), some (.int (iz (-(nr / 10)))), some (.int (iz (orB 0 (-(nr % 10))))), some (.int (iz 0))]) (st' := [.int (iz 10), .int (iz (-(nr / 10))), .int (iz 0), .ref 96]) (h' := cxW (u2 z 95 1 2) (uf f 96 (iu who_1 1 (-(nr % 10)))) C T rc tl) rfl ?_
      refine Rx.iremN rfl ⟨by omega, by omega⟩ ⟨by omega, by omega⟩ (by omega) (by omega) ?_
      refine Rx.ias (g := (iu who_1 1 (-(nr % 10)))) (h' := cxW (u2 z 95 1 2) (uf f 96 (iu (iu who_1 1 (-(nr % 10))) 0 (-((nr / 10) % 10)))) C T rc tl) rfl rfl (by omega) (by omega) (by omega) rfl ?_
      refine Rx.walk 2 (pc' := 37) (L' := [some (.ref 95), some (.int (iz (-nr))), some (.int (iz 2)), some (.int (iz (-(nr / 10)))), some (.int (iz (orB 0 (-(nr % 10))))), some (.int (iz 0))]) (st' := [.int (iz 10), .int (iz (-(nr / 10)))]) (h' := cxW (u2 z 95 1 2) (uf f 96 (iu (iu who_1 1 (-(nr % 10))) 0 (-((nr / 10) % 10)))) C T rc tl) rfl ?_
      refine Rx.idivN rfl ⟨by omega, by omega⟩ ⟨by omega, by omega⟩ (by omega) (by omega) ?_
      refine Rx.walk 4 (pc' := 45) (L' := [some (.ref 95), some (.int (iz (-nr))), some (.int (iz 2)), some (.int (iz (-((nr / 10) / 10)))), some (.int (iz (orB 0 (-(nr % 10))))), some (.int (iz 0))]) (st' := [.int (iz 0), .ref 96]) (h' := cxW (u2 z 95 1 2) (uf f 96 (iu (iu who_1 1 (-(nr % 10))) 0 (-((nr / 10) % 10)))) C T rc tl) rfl ?_
      refine Rx.ial (g := (iu (iu who_1 1 (-(nr % 10))) 0 (-((nr / 10) % 10)))) rfl rfl (by omega) (by omega) (by omega) ?_
      rw [show ((iu (iu who_1 1 (-(nr % 10))) 0 (-((nr / 10) % 10))) 0) = (-((nr / 10) % 10)) by simp [iu]]
      refine Rx.lt1 rfl rfl ⟨by omega, by omega⟩ (fun b10 => ?_) (fun b10 => ?_)
      · refine Rx.walk 1 (pc' := 64) (L' := [some (.ref 95), some (.int (iz (-nr))), some (.int (iz 2)), some (.int (iz (-((nr / 10) / 10)))), some (.int (iz (orB 0 (-(nr % 10))))), some (.int (iz 0))]) (st' := [.int (iz 0)]) (h' := cxW (u2 z 95 1 2) (uf f 96 (iu (iu who_1 1 (-(nr % 10))) 0 (-((nr / 10) % 10)))) C T rc tl) rfl ?_
        refine Rx.ret rfl ?_
        exact ⟨_, _, rfl, rfl, Or.inr ⟨rfl, fun q => by have := q.2.1; omega⟩⟩
      · refine Rx.walk 3 (pc' := 55) (L' := [some (.ref 95), some (.int (iz (-nr))), some (.int (iz 2)), some (.int (iz (-((nr / 10) / 10)))), some (.int (iz (orB 0 (-(nr % 10))))), some (.int (iz 0))]) (st' := [.int (iz 0), .ref 96]) (h' := cxW (u2 z 95 1 2) (uf f 96 (iu (iu who_1 1 (-(nr % 10))) 0 (-((nr / 10) % 10)))) C T rc tl) rfl ?_
        refine Rx.ial (g := (iu (iu who_1 1 (-(nr % 10))) 0 (-((nr / 10) % 10)))) rfl rfl (by omega) (by omega) (by omega) ?_
        rw [show ((iu (iu who_1 1 (-(nr % 10))) 0 (-((nr / 10) % 10))) 0) = (-((nr / 10) % 10)) by simp [iu]]
        refine Rx.walk 2 (pc' := 60) (L' := [some (.ref 95), some (.int (iz (-nr))), some (.int (iz 2)), some (.int (iz (-((nr / 10) / 10)))), some (.int (iz (orB 0 (-(nr % 10))))), some (.int (iz 0))]) (st' := [.int (iz 2), .int (iz (-((nr / 10) % 10)))]) (h' := cxW (u2 z 95 1 2) (uf f 96 (iu (iu who_1 1 (-(nr % 10))) 0 (-((nr / 10) % 10)))) C T rc tl) rfl ?_
        refine Rx.lt2 rfl rfl ⟨by omega, by omega⟩ ⟨by omega, by omega⟩ (fun b11 => ?_) (fun b11 => ?_)
        · refine Rx.walk 5 (pc' := 74) (L' := [some (.ref 95), some (.int (iz (-nr))), some (.int (iz 2)), some (.int (iz (-((nr / 10) / 10)))), some (.int (iz (orB 0 (-(nr % 10))))), some (.int (iz 0))]) (st' := [.int (iz 0), .ref 96, .int (iz 1), .int (iz (orB 0 (-(nr % 10))))]) (h' := cxW (u2 z 95 1 2) (uf f 96 (iu (iu who_1 1 (-(nr % 10))) 0 (-((nr / 10) % 10)))) C T rc tl) rfl ?_
          refine Rx.ial (g := (iu (iu who_1 1 (-(nr % 10))) 0 (-((nr / 10) % 10)))) rfl rfl (by omega) (by omega) (by omega) ?_
          rw [show ((iu (iu who_1 1 (-(nr % 10))) 0 (-((nr / 10) % 10))) 0) = (-((nr / 10) % 10)) by simp [iu]]
          refine Rx.ishl (c := (p2 (-((nr / 10) % 10)))) rfl (p2_shl (by omega) (by omega)) ?_
          refine Rx.ior (c := (orB (orB 0 (-(nr % 10))) (-((nr / 10) % 10)))) rfl (orB_or (by omega) (by omega) (by omega) (by omega)) ?_
          have ob11 := orB_b (s := (orB 0 (-(nr % 10)))) (e := (-((nr / 10) % 10))) (by omega) (by omega) (by omega) (by omega)
          refine Rx.walk 1 (pc' := 79) (L' := [some (.ref 95), some (.int (iz (-nr))), some (.int (iz 2)), some (.int (iz (-((nr / 10) / 10)))), some (.int (iz (orB (orB 0 (-(nr % 10))) (-((nr / 10) % 10))))), some (.int (iz 0))]) (st' := []) (h' := cxW (u2 z 95 1 2) (uf f 96 (iu (iu who_1 1 (-(nr % 10))) 0 (-((nr / 10) % 10)))) C T rc tl) rfl ?_
          refine Rx.iinc (b := -1) rfl rfl rfl ?_
          refine Rx.walk 0 (pc' := 82) (L' := [some (.ref 95), some (.int (iz (-nr))), some (.int (iz 2)), some (.int (iz (-((nr / 10) / 10)))), some (.int (iz (orB (orB 0 (-(nr % 10))) (-((nr / 10) % 10))))), some (.int (iz (-1)))]) (st' := []) (h' := cxW (u2 z 95 1 2) (uf f 96 (iu (iu who_1 1 (-(nr % 10))) 0 (-((nr / 10) % 10)))) C T rc tl) rfl ?_
          refine Rx.walk 2 (pc' := 20) (L' := [some (.ref 95), some (.int (iz (-nr))), some (.int (iz 2)), some (.int (iz (-((nr / 10) / 10)))), some (.int (iz (orB (orB 0 (-(nr % 10))) (-((nr / 10) % 10))))), some (.int (iz (-1)))]) (st' := [.int (iz (-1))]) (h' := cxW (u2 z 95 1 2) (uf f 96 (iu (iu who_1 1 (-(nr % 10))) 0 (-((nr / 10) % 10)))) C T rc tl) rfl ?_
          refine Rx.lt1 rfl rfl ⟨by omega, by omega⟩ (fun b12 => ?_) (fun b12 => by omega)
          refine Rx.walk 2 (pc' := 89) (L' := [some (.ref 95), some (.int (iz (-nr))), some (.int (iz 2)), some (.int (iz (-((nr / 10) / 10)))), some (.int (iz (orB (orB 0 (-(nr % 10))) (-((nr / 10) % 10))))), some (.int (iz (-1)))]) (st' := [.int (iz 2)]) (h' := cxW (u2 z 95 1 2) (uf f 96 (iu (iu who_1 1 (-(nr % 10))) 0 (-((nr / 10) % 10)))) C T rc tl) rfl ?_
          refine Rx.le1 rfl rfl ⟨by omega, by omega⟩ (fun b13 => by omega) (fun b13 => ?_)
          refine Rx.walk 1 (pc' := 93) (L' := [some (.ref 95), some (.int (iz (-nr))), some (.int (iz 2)), some (.int (iz (-((nr / 10) / 10)))), some (.int (iz (orB (orB 0 (-(nr % 10))) (-((nr / 10) % 10))))), some (.int (iz (-1)))]) (st' := [.int (iz (-((nr / 10) / 10)))]) (h' := cxW (u2 z 95 1 2) (uf f 96 (iu (iu who_1 1 (-(nr % 10))) 0 (-((nr / 10) % 10)))) C T rc tl) rfl ?_
          refine Rx.ne1 rfl rfl ⟨by omega, by omega⟩ (fun b14 => ?_) (fun b14 => ?_)
          · refine Rx.walk 1 (pc' := 113) (L' := [some (.ref 95), some (.int (iz (-nr))), some (.int (iz 2)), some (.int (iz (-((nr / 10) / 10)))), some (.int (iz (orB (orB 0 (-(nr % 10))) (-((nr / 10) % 10))))), some (.int (iz (-1)))]) (st' := [.int (iz 0)]) (h' := cxW (u2 z 95 1 2) (uf f 96 (iu (iu who_1 1 (-(nr % 10))) 0 (-((nr / 10) % 10)))) C T rc tl) rfl ?_
            refine Rx.ret rfl ?_
            exact ⟨_, _, rfl, rfl, Or.inr ⟨rfl, fun q => by have := q.2.1; omega⟩⟩
          · refine Rx.walk 1 (pc' := 98) (L' := [some (.ref 95), some (.int (iz (-nr))), some (.int (iz 2)), some (.int (iz (-((nr / 10) / 10)))), some (.int (iz (orB (orB 0 (-(nr % 10))) (-((nr / 10) % 10))))), some (.int (iz (-1)))]) (st' := [.int (iz (orB (orB 0 (-(nr % 10))) (-((nr / 10) % 10))))]) (h' := cxW (u2 z 95 1 2) (uf f 96 (iu (iu who_1 1 (-(nr % 10))) 0 (-((nr / 10) % 10)))) C T rc tl) rfl ?_
            refine Rx.callx (m' := m_J6_bitCount_0f7a4) (as := [.int (iz (orB (orB 0 (-(nr % 10))) (-((nr / 10) % 10))))]) (rest := []) rfl (n_bitCount _ (cxW (u2 z 95 1 2) (uf f 96 (iu (iu who_1 1 (-(nr % 10))) 0 (-((nr / 10) % 10)))) C T rc tl)  (orB (orB 0 (-(nr % 10))) (-((nr / 10) % 10))) (by first | assumption | omega) (by first | assumption | omega)) (fun v17 h18 q19 => ?_)
            obtain ⟨r_15, rfl, rfl, f16⟩ := q19
            refine Rx.walk 0 (pc' := 101) (L' := [some (.ref 95), some (.int (iz (-nr))), some (.int (iz 2)), some (.int (iz (-((nr / 10) / 10)))), some (.int (iz (orB (orB 0 (-(nr % 10))) (-((nr / 10) % 10))))), some (.int (iz (-1)))]) (st' := [.int (iz r_15)]) (h' := cxW (u2 z 95 1 2) (uf f 96 (iu (iu who_1 1 (-(nr % 10))) 0 (-((nr / 10) % 10)))) C T rc tl) rfl ?_
            have bb := bc_b (x := (orB (orB 0 (-(nr % 10))) (-((nr / 10) % 10))))
            refine Rx.walk 2 (pc' := 105) (L' := [some (.ref 95), some (.int (iz (-nr))), some (.int (iz 2)), some (.int (iz (-((nr / 10) / 10)))), some (.int (iz (orB (orB 0 (-(nr % 10))) (-((nr / 10) % 10))))), some (.int (iz (-1)))]) (st' := [.int (iz 2), .int (iz r_15)]) (h' := cxW (u2 z 95 1 2) (uf f 96 (iu (iu who_1 1 (-(nr % 10))) 0 (-((nr / 10) % 10)))) C T rc tl) rfl ?_
            refine Rx.ne2 rfl rfl ⟨by omega, by omega⟩ ⟨by omega, by omega⟩ (fun b20 => ?_) (fun b20 => ?_)
            · refine Rx.walk 1 (pc' := 113) (L' := [some (.ref 95), some (.int (iz (-nr))), some (.int (iz 2)), some (.int (iz (-((nr / 10) / 10)))), some (.int (iz (orB (orB 0 (-(nr % 10))) (-((nr / 10) % 10))))), some (.int (iz (-1)))]) (st' := [.int (iz 0)]) (h' := cxW (u2 z 95 1 2) (uf f 96 (iu (iu who_1 1 (-(nr % 10))) 0 (-((nr / 10) % 10)))) C T rc tl) rfl ?_
              refine Rx.ret rfl ?_
              exact ⟨_, _, rfl, rfl, Or.inr ⟨rfl, fun q => by have := q.2.1; omega⟩⟩
            · refine Rx.walk 2 (pc' := 113) (L' := [some (.ref 95), some (.int (iz (-nr))), some (.int (iz 2)), some (.int (iz (-((nr / 10) / 10)))), some (.int (iz (orB (orB 0 (-(nr % 10))) (-((nr / 10) % 10))))), some (.int (iz (-1)))]) (st' := [.int (iz 1)]) (h' := cxW (u2 z 95 1 2) (uf f 96 (iu (iu who_1 1 (-(nr % 10))) 0 (-((nr / 10) % 10)))) C T rc tl) rfl ?_
              refine Rx.ret rfl ?_
              exfalso
              omega
        · refine Rx.walk 1 (pc' := 64) (L' := [some (.ref 95), some (.int (iz (-nr))), some (.int (iz 2)), some (.int (iz (-((nr / 10) / 10)))), some (.int (iz (orB 0 (-(nr % 10))))), some (.int (iz 0))]) (st' := [.int (iz 0)]) (h' := cxW (u2 z 95 1 2) (uf f 96 (iu (iu who_1 1 (-(nr % 10))) 0 (-((nr / 10) % 10)))) C T rc tl) rfl ?_
          refine Rx.ret rfl ?_
          exact ⟨_, _, rfl, rfl, Or.inr ⟨rfl, fun q => by have := q.2.1; omega⟩⟩
    · refine Rx.walk 1 (pc' := 64) (L' := [some (.ref 95), some (.int (iz (-nr))), some (.int (iz 2)), some (.int (iz (-(nr / 10)))), some (.int (iz 0)), some (.int (iz 1))]) (st' := [.int (iz 0)]) (h' := cxW (u2 z 95 1 2) (uf f 96 (iu who_1 1 (-(nr % 10)))) C T rc tl) rfl ?_
      refine Rx.ret rfl ?_
      exact ⟨_, _, rfl, rfl, Or.inr ⟨rfl, fun q => by have := q.2.1; omega⟩⟩
set_option maxRecDepth 100000 in
set_option maxHeartbeats 4000000 in
theorem x_reads3 (d : Nat) (z : Nat → Nat → Int) (f : Nat → Int → Int) (C : Nat → CuR) (T : Nat → TsR) (rc : Nat → Nat) (tl : AmH)  (row : Int) (osz : Int) (who : Int → Int) (hr : bI (row)) (h0 : 0 ≤ row) : Rx (d + 1) m_X3_reads 0 (am_ent [.ref 95, .int (iz row), .int (iz 3)] 6) [] (cxW (u2 z 95 1 osz) (uf f 96 who) C T rc tl) (fun rv h => ∃ r : Int, ∃ who' : Int → Int, rv = some (.int (iz r)) ∧ h = cxW (u2 z 95 1 3) (uf f 96 who') C T rc tl ∧ ((r = 1 ∧ ordOK 3 row ∧ lsI 3 who' = ordL 3 row) ∨ (r = 0 ∧ ¬ ordOK 3 row))) := by
  obtain ⟨hr0, hr1⟩ := id hr
  refine Rx.walk 0 (pc' := 0) (L' := [some (.ref 95), some (.int (iz row)), some (.int (iz 3)), none, none, none]) (st' := []) (h' := cxW (u2 z 95 1 osz) (uf f 96 who) C T rc tl) rfl ?_
  refine Rx.walk 2 (pc' := 2) (L' := [some (.ref 95), some (.int (iz row)), some (.int (iz 3)), none, none, none]) (st' := [.int (iz 3), .ref 95]) (h' := cxW (u2 z 95 1 osz) (uf f 96 who) C T rc tl) rfl ?_
  refine Rx.callx (m' := m_X3_starts) (as := [.ref 95, .int (iz 3)]) (rest := []) rfl (x_starts _ (u2 z 95 1 osz) (uf f 96 who) C T rc tl  3 osz who (by first | assumption | omega)) (fun v3 h4 q5 => ?_)
  obtain ⟨who_1, rfl, rfl, f2⟩ := q5
  refine Rx.walk 0 (pc' := 5) (L' := [some (.ref 95), some (.int (iz row)), some (.int (iz 3)), none, none, none]) (st' := []) (h' := cxW (u2 z 95 1 3) (uf f 96 who_1) C T rc tl) rfl ?_
  refine Rx.walk 7 (pc' := 15) (L' := [some (.ref 95), some (.int (iz row)), some (.int (iz 3)), some (.int (iz row)), some (.int (iz 0)), none]) (st' := [.int (iz 1), .int (iz 3)]) (h' := cxW (u2 z 95 1 3) (uf f 96 who_1) C T rc tl) rfl ?_
  refine Rx.isub rfl ?_
  refine Rx.walk 0 (pc' := 16) (L' := [some (.ref 95), some (.int (iz row)), some (.int (iz 3)), some (.int (iz row)), some (.int (iz 0)), none]) (st' := [.int (iz 2)]) (h' := cxW (u2 z 95 1 3) (uf f 96 who_1) C T rc tl) rfl ?_
  refine Rx.walk 2 (pc' := 20) (L' := [some (.ref 95), some (.int (iz row)), some (.int (iz 3)), some (.int (iz row)), some (.int (iz 0)), some (.int (iz 2))]) (st' := [.int (iz 2)]) (h' := cxW (u2 z 95 1 3) (uf f 96 who_1) C T rc tl) rfl ?_
  refine Rx.lt1 rfl rfl ⟨by omega, by omega⟩ (fun b6 => by omega) (fun b6 => ?_)
  refine Rx.walk 5 (pc' := 32) (L' := [some (.ref 95), some (.int (iz row)), some (.int (iz 3)), some (.int (iz row)), some (.int (iz 0)), some (.int (iz 2))]) (st' := [.int (iz 10), .int (iz row), .int (iz 2), .ref 96]) (h' := cxW (u2 z 95 1 3) (uf f 96 who_1) C T rc tl) rfl ?_
  refine Rx.irem rfl ⟨by omega, by omega⟩ ⟨by omega, by omega⟩ (by omega) (by omega) ?_
  refine Rx.ias (g := who_1) (h' := cxW (u2 z 95 1 3) (uf f 96 (iu who_1 2 (row % 10))) C T rc tl) rfl rfl (by omega) (by omega) (by omega) rfl ?_
  refine Rx.walk 2 (pc' := 37) (L' := [some (.ref 95), some (.int (iz row)), some (.int (iz 3)), some (.int (iz row)), some (.int (iz 0)), some (.int (iz 2))]) (st' := [.int (iz 10), .int (iz row)]) (h' := cxW (u2 z 95 1 3) (uf f 96 (iu who_1 2 (row % 10))) C T rc tl) rfl ?_
  refine Rx.idiv rfl ⟨by omega, by omega⟩ ⟨by omega, by omega⟩ (by omega) (by omega) ?_
  refine Rx.walk 4 (pc' := 45) (L' := [some (.ref 95), some (.int (iz row)), some (.int (iz 3)), some (.int (iz (row / 10))), some (.int (iz 0)), some (.int (iz 2))]) (st' := [.int (iz 2), .ref 96]) (h' := cxW (u2 z 95 1 3) (uf f 96 (iu who_1 2 (row % 10))) C T rc tl) rfl ?_
  refine Rx.ial (g := (iu who_1 2 (row % 10))) rfl rfl (by omega) (by omega) (by omega) ?_
  rw [show ((iu who_1 2 (row % 10)) 2) = (row % 10) by simp [iu]]
  refine Rx.lt1 rfl rfl ⟨by omega, by omega⟩ (fun b7 => ?_) (fun b7 => ?_)
  · refine Rx.walk 1 (pc' := 64) (L' := [some (.ref 95), some (.int (iz row)), some (.int (iz 3)), some (.int (iz (row / 10))), some (.int (iz 0)), some (.int (iz 2))]) (st' := [.int (iz 0)]) (h' := cxW (u2 z 95 1 3) (uf f 96 (iu who_1 2 (row % 10))) C T rc tl) rfl ?_
    refine Rx.ret rfl ?_
    refine ⟨_, _, rfl, rfl, Or.inr ⟨rfl, ?_⟩⟩
    rintro ⟨-, h2, h3, h4, h5⟩
    have h3 : row < 1000 := h3
    simp only [ordL, List.mem_cons, List.not_mem_nil, or_false, forall_eq_or_imp, forall_eq] at h4
    omega
  · refine Rx.walk 3 (pc' := 55) (L' := [some (.ref 95), some (.int (iz row)), some (.int (iz 3)), some (.int (iz (row / 10))), some (.int (iz 0)), some (.int (iz 2))]) (st' := [.int (iz 2), .ref 96]) (h' := cxW (u2 z 95 1 3) (uf f 96 (iu who_1 2 (row % 10))) C T rc tl) rfl ?_
    refine Rx.ial (g := (iu who_1 2 (row % 10))) rfl rfl (by omega) (by omega) (by omega) ?_
    rw [show ((iu who_1 2 (row % 10)) 2) = (row % 10) by simp [iu]]
    refine Rx.walk 2 (pc' := 60) (L' := [some (.ref 95), some (.int (iz row)), some (.int (iz 3)), some (.int (iz (row / 10))), some (.int (iz 0)), some (.int (iz 2))]) (st' := [.int (iz 3), .int (iz (row % 10))]) (h' := cxW (u2 z 95 1 3) (uf f 96 (iu who_1 2 (row % 10))) C T rc tl) rfl ?_
    refine Rx.lt2 rfl rfl ⟨by omega, by omega⟩ ⟨by omega, by omega⟩ (fun b8 => ?_) (fun b8 => ?_)
    · refine Rx.walk 5 (pc' := 74) (L' := [some (.ref 95), some (.int (iz row)), some (.int (iz 3)), some (.int (iz (row / 10))), some (.int (iz 0)), some (.int (iz 2))]) (st' := [.int (iz 2), .ref 96, .int (iz 1), .int (iz 0)]) (h' := cxW (u2 z 95 1 3) (uf f 96 (iu who_1 2 (row % 10))) C T rc tl) rfl ?_
      refine Rx.ial (g := (iu who_1 2 (row % 10))) rfl rfl (by omega) (by omega) (by omega) ?_
      rw [show ((iu who_1 2 (row % 10)) 2) = (row % 10) by simp [iu]]
      refine Rx.ishl (c := (p2 (row % 10))) rfl (p2_shl (by omega) (by omega)) ?_
      refine Rx.ior (c := (orB 0 (row % 10))) rfl (orB_or (by omega) (by omega) (by omega) (by omega)) ?_
      have ob8 := orB_b (s := 0) (e := (row % 10)) (by omega) (by omega) (by omega) (by omega)
      refine Rx.walk 1 (pc' := 79) (L' := [some (.ref 95), some (.int (iz row)), some (.int (iz 3)), some (.int (iz (row / 10))), some (.int (iz (orB 0 (row % 10)))), some (.int (iz 2))]) (st' := []) (h' := cxW (u2 z 95 1 3) (uf f 96 (iu who_1 2 (row % 10))) C T rc tl) rfl ?_
      refine Rx.iinc (b := -1) rfl rfl rfl ?_
      refine Rx.walk 0 (pc' := 82) (L' := [some (.ref 95), some (.int (iz row)), some (.int (iz 3)), some (.int (iz (row / 10))), some (.int (iz (orB 0 (row % 10)))), some (.int (iz 1))]) (st' := []) (h' := cxW (u2 z 95 1 3) (uf f 96 (iu who_1 2 (row % 10))) C T rc tl) rfl ?_
      refine Rx.walk 2 (pc' := 20) (L' := [some (.ref 95), some (.int (iz row)), some (.int (iz 3)), some (.int (iz (row / 10))), some (.int (iz (orB 0 (row % 10)))), some (.int (iz 1))]) (st' := [.int (iz 1)]) (h' := cxW (u2 z 95 1 3) (uf f 96 (iu who_1 2 (row % 10))) C T rc tl) rfl ?_
      refine Rx.lt1 rfl rfl ⟨by omega, by omega⟩ (fun b9 => by omega) (fun b9 => ?_)
      refine Rx.walk 5 (pc' := 32) (L' := [some (.ref 95), some (.int (iz row)), some (.int (iz 3)), some (.int (iz (row / 10))), some (.int (iz (orB 0 (row % 10)))), some (.int (iz 1))]) (st' := [.int (iz 10), .int (iz (row / 10)), .int (iz 1), .ref 96]) (h' := cxW (u2 z 95 1 3) (uf f 96 (iu who_1 2 (row % 10))) C T rc tl) rfl ?_
      refine Rx.irem rfl ⟨by omega, by omega⟩ ⟨by omega, by omega⟩ (by omega) (by omega) ?_
      refine Rx.ias (g := (iu who_1 2 (row % 10))) (h' := cxW (u2 z 95 1 3) (uf f 96 (iu (iu who_1 2 (row % 10)) 1 ((row / 10) % 10))) C T rc tl) rfl rfl (by omega) (by omega) (by omega) rfl ?_
      refine Rx.walk 2 (pc' := 37) (L' := [some (.ref 95), some (.int (iz row)), some (.int (iz 3)), some (.int (iz (row / 10))), some (.int (iz (orB 0 (row % 10)))), some (.int (iz 1))]) (st' := [.int (iz 10), .int (iz (row / 10))]) (h' := cxW (u2 z 95 1 3) (uf f 96 (iu (iu who_1 2 (row % 10)) 1 ((row / 10) % 10))) C T rc tl) rfl ?_
      refine Rx.idiv rfl ⟨by omega, by omega⟩ ⟨by omega, by omega⟩ (by omega) (by omega) ?_
      refine Rx.walk 4 (pc' := 45) (L' := [some (.ref 95), some (.int (iz row)), some (.int (iz 3)), some (.int (iz ((row / 10) / 10))), some (.int (iz (orB 0 (row % 10)))), some (.int (iz 1))]) (st' := [.int (iz 1), .ref 96]) (h' := cxW (u2 z 95 1 3) (uf f 96 (iu (iu who_1 2 (row % 10)) 1 ((row / 10) % 10))) C T rc tl) rfl ?_
      refine Rx.ial (g := (iu (iu who_1 2 (row % 10)) 1 ((row / 10) % 10))) rfl rfl (by omega) (by omega) (by omega) ?_
      rw [show ((iu (iu who_1 2 (row % 10)) 1 ((row / 10) % 10)) 1) = ((row / 10) % 10) by simp [iu]]
      refine Rx.lt1 rfl rfl ⟨by omega, by omega⟩ (fun b10 => ?_) (fun b10 => ?_)
      · refine Rx.walk 1 (pc' := 64) (L' := [some (.ref 95), some (.int (iz row)), some (.int (iz 3)), some (.int (iz ((row / 10) / 10))), some (.int (iz (orB 0 (row % 10)))), some (.int (iz 1))]) (st' := [.int (iz 0)]) (h' := cxW (u2 z 95 1 3) (uf f 96 (iu (iu who_1 2 (row % 10)) 1 ((row / 10) % 10))) C T rc tl) rfl ?_
        refine Rx.ret rfl ?_
        refine ⟨_, _, rfl, rfl, Or.inr ⟨rfl, ?_⟩⟩
        rintro ⟨-, h2, h3, h4, h5⟩
        have h3 : row < 1000 := h3
        simp only [ordL, List.mem_cons, List.not_mem_nil, or_false, forall_eq_or_imp, forall_eq] at h4
        omega
      · refine Rx.walk 3 (pc' := 55) (L' := [some (.ref 95), some (.int (iz row)), some (.int (iz 3)), some (.int (iz ((row / 10) / 10))), some (.int (iz (orB 0 (row % 10)))), some (.int (iz 1))]) (st' := [.int (iz 1), .ref 96]) (h' := cxW (u2 z 95 1 3) (uf f 96 (iu (iu who_1 2 (row % 10)) 1 ((row / 10) % 10))) C T rc tl) rfl ?_
        refine Rx.ial (g := (iu (iu who_1 2 (row % 10)) 1 ((row / 10) % 10))) rfl rfl (by omega) (by omega) (by omega) ?_
        rw [show ((iu (iu who_1 2 (row % 10)) 1 ((row / 10) % 10)) 1) = ((row / 10) % 10) by simp [iu]]
        refine Rx.walk 2 (pc' := 60) (L' := [some (.ref 95), some (.int (iz row)), some (.int (iz 3)), some (.int (iz ((row / 10) / 10))), some (.int (iz (orB 0 (row % 10)))), some (.int (iz 1))]) (st' := [.int (iz 3), .int (iz ((row / 10) % 10))]) (h' := cxW (u2 z 95 1 3) (uf f 96 (iu (iu who_1 2 (row % 10)) 1 ((row / 10) % 10))) C T rc tl) rfl ?_
        refine Rx.lt2 rfl rfl ⟨by omega, by omega⟩ ⟨by omega, by omega⟩ (fun b11 => ?_) (fun b11 => ?_)
        · refine Rx.walk 5 (pc' := 74) (L' := [some (.ref 95), some (.int (iz row)), some (.int (iz 3)), some (.int (iz ((row / 10) / 10))), some (.int (iz (orB 0 (row % 10)))), some (.int (iz 1))]) (st' := [.int (iz 1), .ref 96, .int (iz 1), .int (iz (orB 0 (row % 10)))]) (h' := cxW (u2 z 95 1 3) (uf f 96 (iu (iu who_1 2 (row % 10)) 1 ((row / 10) % 10))) C T rc tl) rfl ?_
          refine Rx.ial (g := (iu (iu who_1 2 (row % 10)) 1 ((row / 10) % 10))) rfl rfl (by omega) (by omega) (by omega) ?_
          rw [show ((iu (iu who_1 2 (row % 10)) 1 ((row / 10) % 10)) 1) = ((row / 10) % 10) by simp [iu]]
          refine Rx.ishl (c := (p2 ((row / 10) % 10))) rfl (p2_shl (by omega) (by omega)) ?_
          refine Rx.ior (c := (orB (orB 0 (row % 10)) ((row / 10) % 10))) rfl (orB_or (by omega) (by omega) (by omega) (by omega)) ?_
          have ob11 := orB_b (s := (orB 0 (row % 10))) (e := ((row / 10) % 10)) (by omega) (by omega) (by omega) (by omega)
          refine Rx.walk 1 (pc' := 79) (L' := [some (.ref 95), some (.int (iz row)), some (.int (iz 3)), some (.int (iz ((row / 10) / 10))), some (.int (iz (orB (orB 0 (row % 10)) ((row / 10) % 10)))), some (.int (iz 1))]) (st' := []) (h' := cxW (u2 z 95 1 3) (uf f 96 (iu (iu who_1 2 (row % 10)) 1 ((row / 10) % 10))) C T rc tl) rfl ?_
          refine Rx.iinc (b := -1) rfl rfl rfl ?_
          refine Rx.walk 0 (pc' := 82) (L' := [some (.ref 95), some (.int (iz row)), some (.int (iz 3)), some (.int (iz ((row / 10) / 10))), some (.int (iz (orB (orB 0 (row % 10)) ((row / 10) % 10)))), some (.int (iz 0))]) (st' := []) (h' := cxW (u2 z 95 1 3) (uf f 96 (iu (iu who_1 2 (row % 10)) 1 ((row / 10) % 10))) C T rc tl) rfl ?_
          refine Rx.walk 2 (pc' := 20) (L' := [some (.ref 95), some (.int (iz row)), some (.int (iz 3)), some (.int (iz ((row / 10) / 10))), some (.int (iz (orB (orB 0 (row % 10)) ((row / 10) % 10)))), some (.int (iz 0))]) (st' := [.int (iz 0)]) (h' := cxW (u2 z 95 1 3) (uf f 96 (iu (iu who_1 2 (row % 10)) 1 ((row / 10) % 10))) C T rc tl) rfl ?_
          refine Rx.lt1 rfl rfl ⟨by omega, by omega⟩ (fun b12 => by omega) (fun b12 => ?_)
          refine Rx.walk 5 (pc' := 32) (L' := [some (.ref 95), some (.int (iz row)), some (.int (iz 3)), some (.int (iz ((row / 10) / 10))), some (.int (iz (orB (orB 0 (row % 10)) ((row / 10) % 10)))), some (.int (iz 0))]) (st' := [.int (iz 10), .int (iz ((row / 10) / 10)), .int (iz 0), .ref 96]) (h' := cxW (u2 z 95 1 3) (uf f 96 (iu (iu who_1 2 (row % 10)) 1 ((row / 10) % 10))) C T rc tl) rfl ?_
          refine Rx.irem rfl ⟨by omega, by omega⟩ ⟨by omega, by omega⟩ (by omega) (by omega) ?_
          refine Rx.ias (g := (iu (iu who_1 2 (row % 10)) 1 ((row / 10) % 10))) (h' := cxW (u2 z 95 1 3) (uf f 96 (iu (iu (iu who_1 2 (row % 10)) 1 ((row / 10) % 10)) 0 (((row / 10) / 10) % 10))) C T rc tl) rfl rfl (by omega) (by omega) (by omega) rfl ?_
          refine Rx.walk 2 (pc' := 37) (L' := [some (.ref 95), some (.int (iz row)), some (.int (iz 3)), some (.int (iz ((row / 10) / 10))), some (.int (iz (orB (orB 0 (row % 10)) ((row / 10) % 10)))), some (.int (iz 0))]) (st' := [.int (iz 10), .int (iz ((row / 10) / 10))]) (h' := cxW (u2 z 95 1 3) (uf f 96 (iu (iu (iu who_1 2 (row % 10)) 1 ((row / 10) % 10)) 0 (((row / 10) / 10) % 10))) C T rc tl) rfl ?_
          refine Rx.idiv rfl ⟨by omega, by omega⟩ ⟨by omega, by omega⟩ (by omega) (by omega) ?_
          refine Rx.walk 4 (pc' := 45) (L' := [some (.ref 95), some (.int (iz row)), some (.int (iz 3)), some (.int (iz (((row / 10) / 10) / 10))), some (.int (iz (orB (orB 0 (row % 10)) ((row / 10) % 10)))), some (.int (iz 0))]) (st' := [.int (iz 0), .ref 96]) (h' := cxW (u2 z 95 1 3) (uf f 96 (iu (iu (iu who_1 2 (row % 10)) 1 ((row / 10) % 10)) 0 (((row / 10) / 10) % 10))) C T rc tl) rfl ?_
          refine Rx.ial (g := (iu (iu (iu who_1 2 (row % 10)) 1 ((row / 10) % 10)) 0 (((row / 10) / 10) % 10))) rfl rfl (by omega) (by omega) (by omega) ?_
          rw [show ((iu (iu (iu who_1 2 (row % 10)) 1 ((row / 10) % 10)) 0 (((row / 10) / 10) % 10)) 0) = (((row / 10) / 10) % 10) by simp [iu]]
          refine Rx.lt1 rfl rfl ⟨by omega, by omega⟩ (fun b13 => ?_) (fun b13 => ?_)
          · refine Rx.walk 1 (pc' := 64) (L' := [some (.ref 95), some (.int (iz row)), some (.int (iz 3)), some (.int (iz (((row / 10) / 10) / 10))), some (.int (iz (orB (orB 0 (row % 10)) ((row / 10) % 10)))), some (.int (iz 0))]) (st' := [.int (iz 0)]) (h' := cxW (u2 z 95 1 3) (uf f 96 (iu (iu (iu who_1 2 (row % 10)) 1 ((row / 10) % 10)) 0 (((row / 10) / 10) % 10))) C T rc tl) rfl ?_
            refine Rx.ret rfl ?_
            refine ⟨_, _, rfl, rfl, Or.inr ⟨rfl, ?_⟩⟩
            rintro ⟨-, h2, h3, h4, h5⟩
            have h3 : row < 1000 := h3
            simp only [ordL, List.mem_cons, List.not_mem_nil, or_false, forall_eq_or_imp, forall_eq] at h4
            omega
          · refine Rx.walk 3 (pc' := 55) (L' := [some (.ref 95), some (.int (iz row)), some (.int (iz 3)), some (.int (iz (((row / 10) / 10) / 10))), some (.int (iz (orB (orB 0 (row % 10)) ((row / 10) % 10)))), some (.int (iz 0))]) (st' := [.int (iz 0), .ref 96]) (h' := cxW (u2 z 95 1 3) (uf f 96 (iu (iu (iu who_1 2 (row % 10)) 1 ((row / 10) % 10)) 0 (((row / 10) / 10) % 10))) C T rc tl) rfl ?_
            refine Rx.ial (g := (iu (iu (iu who_1 2 (row % 10)) 1 ((row / 10) % 10)) 0 (((row / 10) / 10) % 10))) rfl rfl (by omega) (by omega) (by omega) ?_
            rw [show ((iu (iu (iu who_1 2 (row % 10)) 1 ((row / 10) % 10)) 0 (((row / 10) / 10) % 10)) 0) = (((row / 10) / 10) % 10) by simp [iu]]
            refine Rx.walk 2 (pc' := 60) (L' := [some (.ref 95), some (.int (iz row)), some (.int (iz 3)), some (.int (iz (((row / 10) / 10) / 10))), some (.int (iz (orB (orB 0 (row % 10)) ((row / 10) % 10)))), some (.int (iz 0))]) (st' := [.int (iz 3), .int (iz (((row / 10) / 10) % 10))]) (h' := cxW (u2 z 95 1 3) (uf f 96 (iu (iu (iu who_1 2 (row % 10)) 1 ((row / 10) % 10)) 0 (((row / 10) / 10) % 10))) C T rc tl) rfl ?_
            refine Rx.lt2 rfl rfl ⟨by omega, by omega⟩ ⟨by omega, by omega⟩ (fun b14 => ?_) (fun b14 => ?_)
            · refine Rx.walk 5 (pc' := 74) (L' := [some (.ref 95), some (.int (iz row)), some (.int (iz 3)), some (.int (iz (((row / 10) / 10) / 10))), some (.int (iz (orB (orB 0 (row % 10)) ((row / 10) % 10)))), some (.int (iz 0))]) (st' := [.int (iz 0), .ref 96, .int (iz 1), .int (iz (orB (orB 0 (row % 10)) ((row / 10) % 10)))]) (h' := cxW (u2 z 95 1 3) (uf f 96 (iu (iu (iu who_1 2 (row % 10)) 1 ((row / 10) % 10)) 0 (((row / 10) / 10) % 10))) C T rc tl) rfl ?_
              refine Rx.ial (g := (iu (iu (iu who_1 2 (row % 10)) 1 ((row / 10) % 10)) 0 (((row / 10) / 10) % 10))) rfl rfl (by omega) (by omega) (by omega) ?_
              rw [show ((iu (iu (iu who_1 2 (row % 10)) 1 ((row / 10) % 10)) 0 (((row / 10) / 10) % 10)) 0) = (((row / 10) / 10) % 10) by simp [iu]]
              refine Rx.ishl (c := (p2 (((row / 10) / 10) % 10))) rfl (p2_shl (by omega) (by omega)) ?_
              refine Rx.ior (c := (orB (orB (orB 0 (row % 10)) ((row / 10) % 10)) (((row / 10) / 10) % 10))) rfl (orB_or (by omega) (by omega) (by omega) (by omega)) ?_
              have ob14 := orB_b (s := (orB (orB 0 (row % 10)) ((row / 10) % 10))) (e := (((row / 10) / 10) % 10)) (by omega) (by omega) (by omega) (by omega)
              refine Rx.walk 1 (pc' := 79) (L' := [some (.ref 95), some (.int (iz row)), some (.int (iz 3)), some (.int (iz (((row / 10) / 10) / 10))), some (.int (iz (orB (orB (orB 0 (row % 10)) ((row / 10) % 10)) (((row / 10) / 10) % 10)))), some (.int (iz 0))]) (st' := []) (h' := cxW (u2 z 95 1 3) (uf f 96 (iu (iu (iu who_1 2 (row % 10)) 1 ((row / 10) % 10)) 0 (((row / 10) / 10) % 10))) C T rc tl) rfl ?_
              refine Rx.iinc (b := -1) rfl rfl rfl ?_
              refine Rx.walk 0 (pc' := 82) (L' := [some (.ref 95), some (.int (iz row)), some (.int (iz 3)), some (.int (iz (((row / 10) / 10) / 10))), some (.int (iz (orB (orB (orB 0 (row % 10)) ((row / 10) % 10)) (((row / 10) / 10) % 10)))), some (.int (iz (-1)))]) (st' := []) (h' := cxW (u2 z 95 1 3) (uf f 96 (iu (iu (iu who_1 2 (row % 10)) 1 ((row / 10) % 10)) 0 (((row / 10) / 10) % 10))) C T rc tl) rfl ?_
              refine Rx.walk 2 (pc' := 20) (L' := [some (.ref 95), some (.int (iz row)), some (.int (iz 3)), some (.int (iz (((row / 10) / 10) / 10))), some (.int (iz (orB (orB (orB 0 (row % 10)) ((row / 10) % 10)) (((row / 10) / 10) % 10)))), some (.int (iz (-1)))]) (st' := [.int (iz (-1))]) (h' := cxW (u2 z 95 1 3) (uf f 96 (iu (iu (iu who_1 2 (row % 10)) 1 ((row / 10) % 10)) 0 (((row / 10) / 10) % 10))) C T rc tl) rfl ?_
              refine Rx.lt1 rfl rfl ⟨by omega, by omega⟩ (fun b15 => ?_) (fun b15 => by omega)
              refine Rx.walk 2 (pc' := 89) (L' := [some (.ref 95), some (.int (iz row)), some (.int (iz 3)), some (.int (iz (((row / 10) / 10) / 10))), some (.int (iz (orB (orB (orB 0 (row % 10)) ((row / 10) % 10)) (((row / 10) / 10) % 10)))), some (.int (iz (-1)))]) (st' := [.int (iz 3)]) (h' := cxW (u2 z 95 1 3) (uf f 96 (iu (iu (iu who_1 2 (row % 10)) 1 ((row / 10) % 10)) 0 (((row / 10) / 10) % 10))) C T rc tl) rfl ?_
              refine Rx.le1 rfl rfl ⟨by omega, by omega⟩ (fun b16 => by omega) (fun b16 => ?_)
              refine Rx.walk 1 (pc' := 93) (L' := [some (.ref 95), some (.int (iz row)), some (.int (iz 3)), some (.int (iz (((row / 10) / 10) / 10))), some (.int (iz (orB (orB (orB 0 (row % 10)) ((row / 10) % 10)) (((row / 10) / 10) % 10)))), some (.int (iz (-1)))]) (st' := [.int (iz (((row / 10) / 10) / 10))]) (h' := cxW (u2 z 95 1 3) (uf f 96 (iu (iu (iu who_1 2 (row % 10)) 1 ((row / 10) % 10)) 0 (((row / 10) / 10) % 10))) C T rc tl) rfl ?_
              refine Rx.ne1 rfl rfl ⟨by omega, by omega⟩ (fun b17 => ?_) (fun b17 => ?_)
              · refine Rx.walk 1 (pc' := 113) (L' := [some (.ref 95), some (.int (iz row)), some (.int (iz 3)), some (.int (iz (((row / 10) / 10) / 10))), some (.int (iz (orB (orB (orB 0 (row % 10)) ((row / 10) % 10)) (((row / 10) / 10) % 10)))), some (.int (iz (-1)))]) (st' := [.int (iz 0)]) (h' := cxW (u2 z 95 1 3) (uf f 96 (iu (iu (iu who_1 2 (row % 10)) 1 ((row / 10) % 10)) 0 (((row / 10) / 10) % 10))) C T rc tl) rfl ?_
                refine Rx.ret rfl ?_
                refine ⟨_, _, rfl, rfl, Or.inr ⟨rfl, ?_⟩⟩
                rintro ⟨-, h2, h3, h4, h5⟩
                have h3 : row < 1000 := h3
                simp only [ordL, List.mem_cons, List.not_mem_nil, or_false, forall_eq_or_imp, forall_eq] at h4
                omega
              · refine Rx.walk 1 (pc' := 98) (L' := [some (.ref 95), some (.int (iz row)), some (.int (iz 3)), some (.int (iz (((row / 10) / 10) / 10))), some (.int (iz (orB (orB (orB 0 (row % 10)) ((row / 10) % 10)) (((row / 10) / 10) % 10)))), some (.int (iz (-1)))]) (st' := [.int (iz (orB (orB (orB 0 (row % 10)) ((row / 10) % 10)) (((row / 10) / 10) % 10)))]) (h' := cxW (u2 z 95 1 3) (uf f 96 (iu (iu (iu who_1 2 (row % 10)) 1 ((row / 10) % 10)) 0 (((row / 10) / 10) % 10))) C T rc tl) rfl ?_
                refine Rx.callx (m' := m_J6_bitCount_0f7a4) (as := [.int (iz (orB (orB (orB 0 (row % 10)) ((row / 10) % 10)) (((row / 10) / 10) % 10)))]) (rest := []) rfl (n_bitCount _ (cxW (u2 z 95 1 3) (uf f 96 (iu (iu (iu who_1 2 (row % 10)) 1 ((row / 10) % 10)) 0 (((row / 10) / 10) % 10))) C T rc tl)  (orB (orB (orB 0 (row % 10)) ((row / 10) % 10)) (((row / 10) / 10) % 10)) (by first | assumption | omega) (by first | assumption | omega)) (fun v20 h21 q22 => ?_)
                obtain ⟨r_18, rfl, rfl, f19⟩ := q22
                refine Rx.walk 0 (pc' := 101) (L' := [some (.ref 95), some (.int (iz row)), some (.int (iz 3)), some (.int (iz (((row / 10) / 10) / 10))), some (.int (iz (orB (orB (orB 0 (row % 10)) ((row / 10) % 10)) (((row / 10) / 10) % 10)))), some (.int (iz (-1)))]) (st' := [.int (iz r_18)]) (h' := cxW (u2 z 95 1 3) (uf f 96 (iu (iu (iu who_1 2 (row % 10)) 1 ((row / 10) % 10)) 0 (((row / 10) / 10) % 10))) C T rc tl) rfl ?_
                have bb := bc_b (x := (orB (orB (orB 0 (row % 10)) ((row / 10) % 10)) (((row / 10) / 10) % 10)))
                refine Rx.walk 2 (pc' := 105) (L' := [some (.ref 95), some (.int (iz row)), some (.int (iz 3)), some (.int (iz (((row / 10) / 10) / 10))), some (.int (iz (orB (orB (orB 0 (row % 10)) ((row / 10) % 10)) (((row / 10) / 10) % 10)))), some (.int (iz (-1)))]) (st' := [.int (iz 3), .int (iz r_18)]) (h' := cxW (u2 z 95 1 3) (uf f 96 (iu (iu (iu who_1 2 (row % 10)) 1 ((row / 10) % 10)) 0 (((row / 10) / 10) % 10))) C T rc tl) rfl ?_
                refine Rx.ne2 rfl rfl ⟨by omega, by omega⟩ ⟨by omega, by omega⟩ (fun b23 => ?_) (fun b23 => ?_)
                · refine Rx.walk 1 (pc' := 113) (L' := [some (.ref 95), some (.int (iz row)), some (.int (iz 3)), some (.int (iz (((row / 10) / 10) / 10))), some (.int (iz (orB (orB (orB 0 (row % 10)) ((row / 10) % 10)) (((row / 10) / 10) % 10)))), some (.int (iz (-1)))]) (st' := [.int (iz 0)]) (h' := cxW (u2 z 95 1 3) (uf f 96 (iu (iu (iu who_1 2 (row % 10)) 1 ((row / 10) % 10)) 0 (((row / 10) / 10) % 10))) C T rc tl) rfl ?_
                  refine Rx.ret rfl ?_
                  refine ⟨_, _, rfl, rfl, Or.inr ⟨rfl, ?_⟩⟩
                  rintro ⟨-, h2, h3, h4, h5⟩
                  have e := (not_congr (bc3 (show 0 ≤ (row % 10) by omega) (show (row % 10) < 4 by omega) (show 0 ≤ ((row / 10) % 10) by omega) (show ((row / 10) % 10) < 4 by omega) (show 0 ≤ (((row / 10) / 10) % 10) by omega) (show (((row / 10) / 10) % 10) < 4 by omega))).mp (show ¬ bc (orB (orB (orB 0 (row % 10)) ((row / 10) % 10)) (((row / 10) / 10) % 10)) = 3 by omega)
                  simp only [ordL, List.pairwise_cons, List.mem_cons, List.not_mem_nil, or_false, forall_eq_or_imp, forall_eq, false_imp_iff, implies_true, and_true, List.Pairwise.nil] at h5
                  omega
                · refine Rx.walk 2 (pc' := 113) (L' := [some (.ref 95), some (.int (iz row)), some (.int (iz 3)), some (.int (iz (((row / 10) / 10) / 10))), some (.int (iz (orB (orB (orB 0 (row % 10)) ((row / 10) % 10)) (((row / 10) / 10) % 10)))), some (.int (iz (-1)))]) (st' := [.int (iz 1)]) (h' := cxW (u2 z 95 1 3) (uf f 96 (iu (iu (iu who_1 2 (row % 10)) 1 ((row / 10) % 10)) 0 (((row / 10) / 10) % 10))) C T rc tl) rfl ?_
                  refine Rx.ret rfl ?_
                  have e := (bc3 (show 0 ≤ (row % 10) by omega) (show (row % 10) < 4 by omega) (show 0 ≤ ((row / 10) % 10) by omega) (show ((row / 10) % 10) < 4 by omega) (show 0 ≤ (((row / 10) / 10) % 10) by omega) (show (((row / 10) / 10) % 10) < 4 by omega)).mp (show bc (orB (orB (orB 0 (row % 10)) ((row / 10) % 10)) (((row / 10) / 10) % 10)) = 3 by omega)
                  refine ⟨_, _, rfl, rfl, Or.inl ⟨rfl, ⟨by omega, by omega, by show row < 1000; omega, ?_, ?_⟩, ?_⟩⟩
                  · simp only [ordL, List.mem_cons, List.not_mem_nil, or_false, forall_eq_or_imp, forall_eq]; omega
                  · simp only [ordL, List.pairwise_cons, List.mem_cons, List.not_mem_nil, or_false, forall_eq_or_imp, forall_eq, false_imp_iff, implies_true, and_true, List.Pairwise.nil]; omega
                  · show [_, _, _] = [_, _, _]; simp [iu]
            · refine Rx.walk 1 (pc' := 64) (L' := [some (.ref 95), some (.int (iz row)), some (.int (iz 3)), some (.int (iz (((row / 10) / 10) / 10))), some (.int (iz (orB (orB 0 (row % 10)) ((row / 10) % 10)))), some (.int (iz 0))]) (st' := [.int (iz 0)]) (h' := cxW (u2 z 95 1 3) (uf f 96 (iu (iu (iu who_1 2 (row % 10)) 1 ((row / 10) % 10)) 0 (((row / 10) / 10) % 10))) C T rc tl) rfl ?_
              refine Rx.ret rfl ?_
              refine ⟨_, _, rfl, rfl, Or.inr ⟨rfl, ?_⟩⟩
              rintro ⟨-, h2, h3, h4, h5⟩
              have h3 : row < 1000 := h3
              simp only [ordL, List.mem_cons, List.not_mem_nil, or_false, forall_eq_or_imp, forall_eq] at h4
              omega
        · refine Rx.walk 1 (pc' := 64) (L' := [some (.ref 95), some (.int (iz row)), some (.int (iz 3)), some (.int (iz ((row / 10) / 10))), some (.int (iz (orB 0 (row % 10)))), some (.int (iz 1))]) (st' := [.int (iz 0)]) (h' := cxW (u2 z 95 1 3) (uf f 96 (iu (iu who_1 2 (row % 10)) 1 ((row / 10) % 10))) C T rc tl) rfl ?_
          refine Rx.ret rfl ?_
          refine ⟨_, _, rfl, rfl, Or.inr ⟨rfl, ?_⟩⟩
          rintro ⟨-, h2, h3, h4, h5⟩
          have h3 : row < 1000 := h3
          simp only [ordL, List.mem_cons, List.not_mem_nil, or_false, forall_eq_or_imp, forall_eq] at h4
          omega
    · refine Rx.walk 1 (pc' := 64) (L' := [some (.ref 95), some (.int (iz row)), some (.int (iz 3)), some (.int (iz (row / 10))), some (.int (iz 0)), some (.int (iz 2))]) (st' := [.int (iz 0)]) (h' := cxW (u2 z 95 1 3) (uf f 96 (iu who_1 2 (row % 10))) C T rc tl) rfl ?_
      refine Rx.ret rfl ?_
      refine ⟨_, _, rfl, rfl, Or.inr ⟨rfl, ?_⟩⟩
      rintro ⟨-, h2, h3, h4, h5⟩
      have h3 : row < 1000 := h3
      simp only [ordL, List.mem_cons, List.not_mem_nil, or_false, forall_eq_or_imp, forall_eq] at h4
      omega
set_option maxRecDepth 100000 in
set_option maxHeartbeats 4000000 in
theorem x_reads3n (d : Nat) (z : Nat → Nat → Int) (f : Nat → Int → Int) (C : Nat → CuR) (T : Nat → TsR) (rc : Nat → Nat) (tl : AmH)  (nr : Int) (osz : Int) (who : Int → Int) (hr : bI ((-nr))) (h0 : 1 ≤ nr) : Rx (d + 1) m_X3_reads 0 (am_ent [.ref 95, .int (iz (-nr)), .int (iz 3)] 6) [] (cxW (u2 z 95 1 osz) (uf f 96 who) C T rc tl) (fun rv h => ∃ r : Int, ∃ who' : Int → Int, rv = some (.int (iz r)) ∧ h = cxW (u2 z 95 1 3) (uf f 96 who') C T rc tl ∧ ((r = 1 ∧ ordOK 3 (-nr) ∧ lsI 3 who' = ordL 3 (-nr)) ∨ (r = 0 ∧ ¬ ordOK 3 (-nr)))) := by
  obtain ⟨hr0, hr1⟩ := id hr
  refine Rx.walk 0 (pc' := 0) (L' := [some (.ref 95), some (.int (iz (-nr))), some (.int (iz 3)), none, none, none]) (st' := []) (h' := cxW (u2 z 95 1 osz) (uf f 96 who) C T rc tl) rfl ?_
  refine Rx.walk 2 (pc' := 2) (L' := [some (.ref 95), some (.int (iz (-nr))), some (.int (iz 3)), none, none, none]) (st' := [.int (iz 3), .ref 95]) (h' := cxW (u2 z 95 1 osz) (uf f 96 who) C T rc tl) rfl ?_
  refine Rx.callx (m' := m_X3_starts) (as := [.ref 95, .int (iz 3)]) (rest := []) rfl (x_starts _ (u2 z 95 1 osz) (uf f 96 who) C T rc tl  3 osz who (by first | assumption | omega)) (fun v3 h4 q5 => ?_)
  obtain ⟨who_1, rfl, rfl, f2⟩ := q5
  refine Rx.walk 0 (pc' := 5) (L' := [some (.ref 95), some (.int (iz (-nr))), some (.int (iz 3)), none, none, none]) (st' := []) (h' := cxW (u2 z 95 1 3) (uf f 96 who_1) C T rc tl) rfl ?_
  refine Rx.walk 7 (pc' := 15) (L' := [some (.ref 95), some (.int (iz (-nr))), some (.int (iz 3)), some (.int (iz (-nr))), some (.int (iz 0)), none]) (st' := [.int (iz 1), .int (iz 3)]) (h' := cxW (u2 z 95 1 3) (uf f 96 who_1) C T rc tl) rfl ?_
  refine Rx.isub rfl ?_
  refine Rx.walk 0 (pc' := 16) (L' := [some (.ref 95), some (.int (iz (-nr))), some (.int (iz 3)), some (.int (iz (-nr))), some (.int (iz 0)), none]) (st' := [.int (iz 2)]) (h' := cxW (u2 z 95 1 3) (uf f 96 who_1) C T rc tl) rfl ?_
  refine Rx.walk 2 (pc' := 20) (L' := [some (.ref 95), some (.int (iz (-nr))), some (.int (iz 3)), some (.int (iz (-nr))), some (.int (iz 0)), some (.int (iz 2))]) (st' := [.int (iz 2)]) (h' := cxW (u2 z 95 1 3) (uf f 96 who_1) C T rc tl) rfl ?_
  refine Rx.lt1 rfl rfl ⟨by omega, by omega⟩ (fun b6 => by omega) (fun b6 => ?_)
  refine Rx.walk 5 (pc' := 32) (L' := [some (.ref 95), some (.int (iz (-nr))), some (.int (iz 3)), some (.int (iz (-nr))), some (.int (iz 0)), some (.int (iz 2))]) (st' := [.int (iz 10), .int (iz (-nr)), .int (iz 2), .ref 96]) (h' := cxW (u2 z 95 1 3) (uf f 96 who_1) C T rc tl) rfl ?_
  refine Rx.iremN rfl ⟨by omega, by omega⟩ ⟨by omega, by omega⟩ (by omega) (by omega) ?_
  refine Rx.ias (g := who_1) (h' := cxW (u2 z 95 1 3) (uf f 96 (iu who_1 2 (-(nr % 10)))) C T rc tl) rfl rfl (by omega) (by omega) (by omega) rfl ?_
  refine Rx.walk 2 (pc' := 37) (L' := [some (.ref 95), some (.int (iz (-nr))), some (.int (iz 3)), some (.int (iz (-nr))), some (.int (iz 0)), some (.int (iz 2))]) (st' := [.int (iz 10), .int (iz (-nr))]) (h' := cxW (u2 z 95 1 3) (uf f 96 (iu who_1 2 (-(nr % 10)))) C T rc tl) rfl ?_
  refine Rx.idivN rfl ⟨by omega, by omega⟩ ⟨by omega, by omega⟩ (by omega) (by omega) ?_
  refine Rx.walk 4 (pc' := 45) (L' := [some (.ref 95), some (.int (iz (-nr))), some (.int (iz 3)), some (.int (iz (-(nr / 10)))), some (.int (iz 0)), some (.int (iz 2))]) (st' := [.int (iz 2), .ref 96]) (h' := cxW (u2 z 95 1 3) (uf f 96 (iu who_1 2 (-(nr % 10)))) C T rc tl) rfl ?_
  refine Rx.ial (g := (iu who_1 2 (-(nr % 10)))) rfl rfl (by omega) (by omega) (by omega) ?_
  rw [show ((iu who_1 2 (-(nr % 10))) 2) = (-(nr % 10)) by simp [iu]]
  refine Rx.lt1 rfl rfl ⟨by omega, by omega⟩ (fun b7 => ?_) (fun b7 => ?_)
  · refine Rx.walk 1 (pc' := 64) (L' := [some (.ref 95), some (.int (iz (-nr))), some (.int (iz 3)), some (.int (iz (-(nr / 10)))), some (.int (iz 0)), some (.int (iz 2))]) (st' := [.int (iz 0)]) (h' := cxW (u2 z 95 1 3) (uf f 96 (iu who_1 2 (-(nr % 10)))) C T rc tl) rfl ?_
    refine Rx.ret rfl ?_
    exact ⟨_, _, rfl, rfl, Or.inr ⟨rfl, fun q => by have := q.2.1; omega⟩⟩
  · refine Rx.walk 3 (pc' := 55) (L' := [some (.ref 95), some (.int (iz (-nr))), some (.int (iz 3)), some (.int (iz (-(nr / 10)))), some (.int (iz 0)), some (.int (iz 2))]) (st' := [.int (iz 2), .ref 96]) (h' := cxW (u2 z 95 1 3) (uf f 96 (iu who_1 2 (-(nr % 10)))) C T rc tl) rfl ?_
    refine Rx.ial (g := (iu who_1 2 (-(nr % 10)))) rfl rfl (by omega) (by omega) (by omega) ?_
    rw [show ((iu who_1 2 (-(nr % 10))) 2) = (-(nr % 10)) by simp [iu]]
    refine Rx.walk 2 (pc' := 60) (L' := [some (.ref 95), some (.int (iz (-nr))), some (.int (iz 3)), some (.int (iz (-(nr / 10)))), some (.int (iz 0)), some (.int (iz 2))]) (st' := [.int (iz 3), .int (iz (-(nr % 10)))]) (h' := cxW (u2 z 95 1 3) (uf f 96 (iu who_1 2 (-(nr % 10)))) C T rc tl) rfl ?_
    refine Rx.lt2 rfl rfl ⟨by omega, by omega⟩ ⟨by omega, by omega⟩ (fun b8 => ?_) (fun b8 => ?_)
    · refine Rx.walk 5 (pc' := 74) (L' := [some (.ref 95), some (.int (iz (-nr))), some (.int (iz 3)), some (.int (iz (-(nr / 10)))), some (.int (iz 0)), some (.int (iz 2))]) (st' := [.int (iz 2), .ref 96, .int (iz 1), .int (iz 0)]) (h' := cxW (u2 z 95 1 3) (uf f 96 (iu who_1 2 (-(nr % 10)))) C T rc tl) rfl ?_
      refine Rx.ial (g := (iu who_1 2 (-(nr % 10)))) rfl rfl (by omega) (by omega) (by omega) ?_
      rw [show ((iu who_1 2 (-(nr % 10))) 2) = (-(nr % 10)) by simp [iu]]
      refine Rx.ishl (c := (p2 (-(nr % 10)))) rfl (p2_shl (by omega) (by omega)) ?_
      refine Rx.ior (c := (orB 0 (-(nr % 10)))) rfl (orB_or (by omega) (by omega) (by omega) (by omega)) ?_
      have ob8 := orB_b (s := 0) (e := (-(nr % 10))) (by omega) (by omega) (by omega) (by omega)
      refine Rx.walk 1 (pc' := 79) (L' := [some (.ref 95), some (.int (iz (-nr))), some (.int (iz 3)), some (.int (iz (-(nr / 10)))), some (.int (iz (orB 0 (-(nr % 10))))), some (.int (iz 2))]) (st' := []) (h' := cxW (u2 z 95 1 3) (uf f 96 (iu who_1 2 (-(nr % 10)))) C T rc tl) rfl ?_
      refine Rx.iinc (b := -1) rfl rfl rfl ?_
      refine Rx.walk 0 (pc' := 82) (L' := [some (.ref 95), some (.int (iz (-nr))), some (.int (iz 3)), some (.int (iz (-(nr / 10)))), some (.int (iz (orB 0 (-(nr % 10))))), some (.int (iz 1))]) (st' := []) (h' := cxW (u2 z 95 1 3) (uf f 96 (iu who_1 2 (-(nr % 10)))) C T rc tl) rfl ?_
      refine Rx.walk 2 (pc' := 20) (L' := [some (.ref 95), some (.int (iz (-nr))), some (.int (iz 3)), some (.int (iz (-(nr / 10)))), some (.int (iz (orB 0 (-(nr % 10))))), some (.int (iz 1))]) (st' := [.int (iz 1)]) (h' := cxW (u2 z 95 1 3) (uf f 96 (iu who_1 2 (-(nr % 10)))) C T rc tl) rfl ?_
      refine Rx.lt1 rfl rfl ⟨by omega, by omega⟩ (fun b9 => by omega) (fun b9 => ?_)
      refine Rx.walk 5 (pc' := 32) (L' := [some (.ref 95), some (.int (iz (-nr))), some (.int (iz 3)), some (.int (iz (-(nr / 10)))), some (.int (iz (orB 0 (-(nr % 10))))), some (.int (iz 1))]) (st' := [.int (iz 10), .int (iz (-(nr / 10))), .int (iz 1), .ref 96]) (h' := cxW (u2 z 95 1 3) (uf f 96 (iu who_1 2 (-(nr % 10)))) C T rc tl) rfl ?_
      refine Rx.iremN rfl ⟨by omega, by omega⟩ ⟨by omega, by omega⟩ (by omega) (by omega) ?_
      refine Rx.ias (g := (iu who_1 2 (-(nr % 10)))) (h' := cxW (u2 z 95 1 3) (uf f 96 (iu (iu who_1 2 (-(nr % 10))) 1 (-((nr / 10) % 10)))) C T rc tl) rfl rfl (by omega) (by omega) (by omega) rfl ?_
      refine Rx.walk 2 (pc' := 37) (L' := [some (.ref 95), some (.int (iz (-nr))), some (.int (iz 3)), some (.int (iz (-(nr / 10)))), some (.int (iz (orB 0 (-(nr % 10))))), some (.int (iz 1))]) (st' := [.int (iz 10), .int (iz (-(nr / 10)))]) (h' := cxW (u2 z 95 1 3) (uf f 96 (iu (iu who_1 2 (-(nr % 10))) 1 (-((nr / 10) % 10)))) C T rc tl) rfl ?_
      refine Rx.idivN rfl ⟨by omega, by omega⟩ ⟨by omega, by omega⟩ (by omega) (by omega) ?_
      refine Rx.walk 4 (pc' := 45) (L' := [some (.ref 95), some (.int (iz (-nr))), some (.int (iz 3)), some (.int (iz (-((nr / 10) / 10)))), some (.int (iz (orB 0 (-(nr % 10))))), some (.int (iz 1))]) (st' := [.int (iz 1), .ref 96]) (h' := cxW (u2 z 95 1 3) (uf f 96 (iu (iu who_1 2 (-(nr % 10))) 1 (-((nr / 10) % 10)))) C T rc tl) rfl ?_
      refine Rx.ial (g := (iu (iu who_1 2 (-(nr % 10))) 1 (-((nr / 10) % 10)))) rfl rfl (by omega) (by omega) (by omega) ?_
      rw [show ((iu (iu who_1 2 (-(nr % 10))) 1 (-((nr / 10) % 10))) 1) = (-((nr / 10) % 10)) by simp [iu]]
      refine Rx.lt1 rfl rfl ⟨by omega, by omega⟩ (fun b10 => ?_) (fun b10 => ?_)
      · refine Rx.walk 1 (pc' := 64) (L' := [some (.ref 95), some (.int (iz (-nr))), some (.int (iz 3)), some (.int (iz (-((nr / 10) / 10)))), some (.int (iz (orB 0 (-(nr % 10))))), some (.int (iz 1))]) (st' := [.int (iz 0)]) (h' := cxW (u2 z 95 1 3) (uf f 96 (iu (iu who_1 2 (-(nr % 10))) 1 (-((nr / 10) % 10)))) C T rc tl) rfl ?_
        refine Rx.ret rfl ?_
        exact ⟨_, _, rfl, rfl, Or.inr ⟨rfl, fun q => by have := q.2.1; omega⟩⟩
      · refine Rx.walk 3 (pc' := 55) (L' := [some (.ref 95), some (.int (iz (-nr))), some (.int (iz 3)), some (.int (iz (-((nr / 10) / 10)))), some (.int (iz (orB 0 (-(nr % 10))))), some (.int (iz 1))]) (st' := [.int (iz 1), .ref 96]) (h' := cxW (u2 z 95 1 3) (uf f 96 (iu (iu who_1 2 (-(nr % 10))) 1 (-((nr / 10) % 10)))) C T rc tl) rfl ?_
        refine Rx.ial (g := (iu (iu who_1 2 (-(nr % 10))) 1 (-((nr / 10) % 10)))) rfl rfl (by omega) (by omega) (by omega) ?_
        rw [show ((iu (iu who_1 2 (-(nr % 10))) 1 (-((nr / 10) % 10))) 1) = (-((nr / 10) % 10)) by simp [iu]]
        refine Rx.walk 2 (pc' := 60) (L' := [some (.ref 95), some (.int (iz (-nr))), some (.int (iz 3)), some (.int (iz (-((nr / 10) / 10)))), some (.int (iz (orB 0 (-(nr % 10))))), some (.int (iz 1))]) (st' := [.int (iz 3), .int (iz (-((nr / 10) % 10)))]) (h' := cxW (u2 z 95 1 3) (uf f 96 (iu (iu who_1 2 (-(nr % 10))) 1 (-((nr / 10) % 10)))) C T rc tl) rfl ?_
        refine Rx.lt2 rfl rfl ⟨by omega, by omega⟩ ⟨by omega, by omega⟩ (fun b11 => ?_) (fun b11 => ?_)
        · refine Rx.walk 5 (pc' := 74) (L' := [some (.ref 95), some (.int (iz (-nr))), some (.int (iz 3)), some (.int (iz (-((nr / 10) / 10)))), some (.int (iz (orB 0 (-(nr % 10))))), some (.int (iz 1))]) (st' := [.int (iz 1), .ref 96, .int (iz 1), .int (iz (orB 0 (-(nr % 10))))]) (h' := cxW (u2 z 95 1 3) (uf f 96 (iu (iu who_1 2 (-(nr % 10))) 1 (-((nr / 10) % 10)))) C T rc tl) rfl ?_
          refine Rx.ial (g := (iu (iu who_1 2 (-(nr % 10))) 1 (-((nr / 10) % 10)))) rfl rfl (by omega) (by omega) (by omega) ?_
          rw [show ((iu (iu who_1 2 (-(nr % 10))) 1 (-((nr / 10) % 10))) 1) = (-((nr / 10) % 10)) by simp [iu]]
          refine Rx.ishl (c := (p2 (-((nr / 10) % 10)))) rfl (p2_shl (by omega) (by omega)) ?_
          refine Rx.ior (c := (orB (orB 0 (-(nr % 10))) (-((nr / 10) % 10)))) rfl (orB_or (by omega) (by omega) (by omega) (by omega)) ?_
          have ob11 := orB_b (s := (orB 0 (-(nr % 10)))) (e := (-((nr / 10) % 10))) (by omega) (by omega) (by omega) (by omega)
          refine Rx.walk 1 (pc' := 79) (L' := [some (.ref 95), some (.int (iz (-nr))), some (.int (iz 3)), some (.int (iz (-((nr / 10) / 10)))), some (.int (iz (orB (orB 0 (-(nr % 10))) (-((nr / 10) % 10))))), some (.int (iz 1))]) (st' := []) (h' := cxW (u2 z 95 1 3) (uf f 96 (iu (iu who_1 2 (-(nr % 10))) 1 (-((nr / 10) % 10)))) C T rc tl) rfl ?_
          refine Rx.iinc (b := -1) rfl rfl rfl ?_
          refine Rx.walk 0 (pc' := 82) (L' := [some (.ref 95), some (.int (iz (-nr))), some (.int (iz 3)), some (.int (iz (-((nr / 10) / 10)))), some (.int (iz (orB (orB 0 (-(nr % 10))) (-((nr / 10) % 10))))), some (.int (iz 0))]) (st' := []) (h' := cxW (u2 z 95 1 3) (uf f 96 (iu (iu who_1 2 (-(nr % 10))) 1 (-((nr / 10) % 10)))) C T rc tl) rfl ?_
          refine Rx.walk 2 (pc' := 20) (L' := [some (.ref 95), some (.int (iz (-nr))), some (.int (iz 3)), some (.int (iz (-((nr / 10) / 10)))), some (.int (iz (orB (orB 0 (-(nr % 10))) (-((nr / 10) % 10))))), some (.int (iz 0))]) (st' := [.int (iz 0)]) (h' := cxW (u2 z 95 1 3) (uf f 96 (iu (iu who_1 2 (-(nr % 10))) 1 (-((nr / 10) % 10)))) C T rc tl) rfl ?_
          refine Rx.lt1 rfl rfl ⟨by omega, by omega⟩ (fun b12 => by omega) (fun b12 => ?_)
          refine Rx.walk 5 (pc' := 32) (L' := [some (.ref 95), some (.int (iz (-nr))), some (.int (iz 3)), some (.int (iz (-((nr / 10) / 10)))), some (.int (iz (orB (orB 0 (-(nr % 10))) (-((nr / 10) % 10))))), some (.int (iz 0))]) (st' := [.int (iz 10), .int (iz (-((nr / 10) / 10))), .int (iz 0), .ref 96]) (h' := cxW (u2 z 95 1 3) (uf f 96 (iu (iu who_1 2 (-(nr % 10))) 1 (-((nr / 10) % 10)))) C T rc tl) rfl ?_
          refine Rx.iremN rfl ⟨by omega, by omega⟩ ⟨by omega, by omega⟩ (by omega) (by omega) ?_
          refine Rx.ias (g := (iu (iu who_1 2 (-(nr % 10))) 1 (-((nr / 10) % 10)))) (h' := cxW (u2 z 95 1 3) (uf f 96 (iu (iu (iu who_1 2 (-(nr % 10))) 1 (-((nr / 10) % 10))) 0 (-(((nr / 10) / 10) % 10)))) C T rc tl) rfl rfl (by omega) (by omega) (by omega) rfl ?_
          refine Rx.walk 2 (pc' := 37) (L' := [some (.ref 95), some (.int (iz (-nr))), some (.int (iz 3)), some (.int (iz (-((nr / 10) / 10)))), some (.int (iz (orB (orB 0 (-(nr % 10))) (-((nr / 10) % 10))))), some (.int (iz 0))]) (st' := [.int (iz 10), .int (iz (-((nr / 10) / 10)))]) (h' := cxW (u2 z 95 1 3) (uf f 96 (iu (iu (iu who_1 2 (-(nr % 10))) 1 (-((nr / 10) % 10))) 0 (-(((nr / 10) / 10) % 10)))) C T rc tl) rfl ?_
          refine Rx.idivN rfl ⟨by omega, by omega⟩ ⟨by omega, by omega⟩ (by omega) (by omega) ?_
          refine Rx.walk 4 (pc' := 45) (L' := [some (.ref 95), some (.int (iz (-nr))), some (.int (iz 3)), some (.int (iz (-(((nr / 10) / 10) / 10)))), some (.int (iz (orB (orB 0 (-(nr % 10))) (-((nr / 10) % 10))))), some (.int (iz 0))]) (st' := [.int (iz 0), .ref 96]) (h' := cxW (u2 z 95 1 3) (uf f 96 (iu (iu (iu who_1 2 (-(nr % 10))) 1 (-((nr / 10) % 10))) 0 (-(((nr / 10) / 10) % 10)))) C T rc tl) rfl ?_
          refine Rx.ial (g := (iu (iu (iu who_1 2 (-(nr % 10))) 1 (-((nr / 10) % 10))) 0 (-(((nr / 10) / 10) % 10)))) rfl rfl (by omega) (by omega) (by omega) ?_
          rw [show ((iu (iu (iu who_1 2 (-(nr % 10))) 1 (-((nr / 10) % 10))) 0 (-(((nr / 10) / 10) % 10))) 0) = (-(((nr / 10) / 10) % 10)) by simp [iu]]
          refine Rx.lt1 rfl rfl ⟨by omega, by omega⟩ (fun b13 => ?_) (fun b13 => ?_)
          · refine Rx.walk 1 (pc' := 64) (L' := [some (.ref 95), some (.int (iz (-nr))), some (.int (iz 3)), some (.int (iz (-(((nr / 10) / 10) / 10)))), some (.int (iz (orB (orB 0 (-(nr % 10))) (-((nr / 10) % 10))))), some (.int (iz 0))]) (st' := [.int (iz 0)]) (h' := cxW (u2 z 95 1 3) (uf f 96 (iu (iu (iu who_1 2 (-(nr % 10))) 1 (-((nr / 10) % 10))) 0 (-(((nr / 10) / 10) % 10)))) C T rc tl) rfl ?_
            refine Rx.ret rfl ?_
            exact ⟨_, _, rfl, rfl, Or.inr ⟨rfl, fun q => by have := q.2.1; omega⟩⟩
          · refine Rx.walk 3 (pc' := 55) (L' := [some (.ref 95), some (.int (iz (-nr))), some (.int (iz 3)), some (.int (iz (-(((nr / 10) / 10) / 10)))), some (.int (iz (orB (orB 0 (-(nr % 10))) (-((nr / 10) % 10))))), some (.int (iz 0))]) (st' := [.int (iz 0), .ref 96]) (h' := cxW (u2 z 95 1 3) (uf f 96 (iu (iu (iu who_1 2 (-(nr % 10))) 1 (-((nr / 10) % 10))) 0 (-(((nr / 10) / 10) % 10)))) C T rc tl) rfl ?_
            refine Rx.ial (g := (iu (iu (iu who_1 2 (-(nr % 10))) 1 (-((nr / 10) % 10))) 0 (-(((nr / 10) / 10) % 10)))) rfl rfl (by omega) (by omega) (by omega) ?_
            rw [show ((iu (iu (iu who_1 2 (-(nr % 10))) 1 (-((nr / 10) % 10))) 0 (-(((nr / 10) / 10) % 10))) 0) = (-(((nr / 10) / 10) % 10)) by simp [iu]]
            refine Rx.walk 2 (pc' := 60) (L' := [some (.ref 95), some (.int (iz (-nr))), some (.int (iz 3)), some (.int (iz (-(((nr / 10) / 10) / 10)))), some (.int (iz (orB (orB 0 (-(nr % 10))) (-((nr / 10) % 10))))), some (.int (iz 0))]) (st' := [.int (iz 3), .int (iz (-(((nr / 10) / 10) % 10)))]) (h' := cxW (u2 z 95 1 3) (uf f 96 (iu (iu (iu who_1 2 (-(nr % 10))) 1 (-((nr / 10) % 10))) 0 (-(((nr / 10) / 10) % 10)))) C T rc tl) rfl ?_
            refine Rx.lt2 rfl rfl ⟨by omega, by omega⟩ ⟨by omega, by omega⟩ (fun b14 => ?_) (fun b14 => ?_)
            · refine Rx.walk 5 (pc' := 74) (L' := [some (.ref 95), some (.int (iz (-nr))), some (.int (iz 3)), some (.int (iz (-(((nr / 10) / 10) / 10)))), some (.int (iz (orB (orB 0 (-(nr % 10))) (-((nr / 10) % 10))))), some (.int (iz 0))]) (st' := [.int (iz 0), .ref 96, .int (iz 1), .int (iz (orB (orB 0 (-(nr % 10))) (-((nr / 10) % 10))))]) (h' := cxW (u2 z 95 1 3) (uf f 96 (iu (iu (iu who_1 2 (-(nr % 10))) 1 (-((nr / 10) % 10))) 0 (-(((nr / 10) / 10) % 10)))) C T rc tl) rfl ?_
              refine Rx.ial (g := (iu (iu (iu who_1 2 (-(nr % 10))) 1 (-((nr / 10) % 10))) 0 (-(((nr / 10) / 10) % 10)))) rfl rfl (by omega) (by omega) (by omega) ?_
              rw [show ((iu (iu (iu who_1 2 (-(nr % 10))) 1 (-((nr / 10) % 10))) 0 (-(((nr / 10) / 10) % 10))) 0) = (-(((nr / 10) / 10) % 10)) by simp [iu]]
              refine Rx.ishl (c := (p2 (-(((nr / 10) / 10) % 10)))) rfl (p2_shl (by omega) (by omega)) ?_
              refine Rx.ior (c := (orB (orB (orB 0 (-(nr % 10))) (-((nr / 10) % 10))) (-(((nr / 10) / 10) % 10)))) rfl (orB_or (by omega) (by omega) (by omega) (by omega)) ?_
              have ob14 := orB_b (s := (orB (orB 0 (-(nr % 10))) (-((nr / 10) % 10)))) (e := (-(((nr / 10) / 10) % 10))) (by omega) (by omega) (by omega) (by omega)
              refine Rx.walk 1 (pc' := 79) (L' := [some (.ref 95), some (.int (iz (-nr))), some (.int (iz 3)), some (.int (iz (-(((nr / 10) / 10) / 10)))), some (.int (iz (orB (orB (orB 0 (-(nr % 10))) (-((nr / 10) % 10))) (-(((nr / 10) / 10) % 10))))), some (.int (iz 0))]) (st' := []) (h' := cxW (u2 z 95 1 3) (uf f 96 (iu (iu (iu who_1 2 (-(nr % 10))) 1 (-((nr / 10) % 10))) 0 (-(((nr / 10) / 10) % 10)))) C T rc tl) rfl ?_
              refine Rx.iinc (b := -1) rfl rfl rfl ?_
              refine Rx.walk 0 (pc' := 82) (L' := [some (.ref 95), some (.int (iz (-nr))), some (.int (iz 3)), some (.int (iz (-(((nr / 10) / 10) / 10)))), some (.int (iz (orB (orB (orB 0 (-(nr % 10))) (-((nr / 10) % 10))) (-(((nr / 10) / 10) % 10))))), some (.int (iz (-1)))]) (st' := []) (h' := cxW (u2 z 95 1 3) (uf f 96 (iu (iu (iu who_1 2 (-(nr % 10))) 1 (-((nr / 10) % 10))) 0 (-(((nr / 10) / 10) % 10)))) C T rc tl) rfl ?_
              refine Rx.walk 2 (pc' := 20) (L' := [some (.ref 95), some (.int (iz (-nr))), some (.int (iz 3)), some (.int (iz (-(((nr / 10) / 10) / 10)))), some (.int (iz (orB (orB (orB 0 (-(nr % 10))) (-((nr / 10) % 10))) (-(((nr / 10) / 10) % 10))))), some (.int (iz (-1)))]) (st' := [.int (iz (-1))]) (h' := cxW (u2 z 95 1 3) (uf f 96 (iu (iu (iu who_1 2 (-(nr % 10))) 1 (-((nr / 10) % 10))) 0 (-(((nr / 10) / 10) % 10)))) C T rc tl) rfl ?_
              refine Rx.lt1 rfl rfl ⟨by omega, by omega⟩ (fun b15 => ?_) (fun b15 => by omega)
              refine Rx.walk 2 (pc' := 89) (L' := [some (.ref 95), some (.int (iz (-nr))), some (.int (iz 3)), some (.int (iz (-(((nr / 10) / 10) / 10)))), some (.int (iz (orB (orB (orB 0 (-(nr % 10))) (-((nr / 10) % 10))) (-(((nr / 10) / 10) % 10))))), some (.int (iz (-1)))]) (st' := [.int (iz 3)]) (h' := cxW (u2 z 95 1 3) (uf f 96 (iu (iu (iu who_1 2 (-(nr % 10))) 1 (-((nr / 10) % 10))) 0 (-(((nr / 10) / 10) % 10)))) C T rc tl) rfl ?_
              refine Rx.le1 rfl rfl ⟨by omega, by omega⟩ (fun b16 => by omega) (fun b16 => ?_)
              refine Rx.walk 1 (pc' := 93) (L' := [some (.ref 95), some (.int (iz (-nr))), some (.int (iz 3)), some (.int (iz (-(((nr / 10) / 10) / 10)))), some (.int (iz (orB (orB (orB 0 (-(nr % 10))) (-((nr / 10) % 10))) (-(((nr / 10) / 10) % 10))))), some (.int (iz (-1)))]) (st' := [.int (iz (-(((nr / 10) / 10) / 10)))]) (h' := cxW (u2 z 95 1 3) (uf f 96 (iu (iu (iu who_1 2 (-(nr % 10))) 1 (-((nr / 10) % 10))) 0 (-(((nr / 10) / 10) % 10)))) C T rc tl) rfl ?_
              refine Rx.ne1 rfl rfl ⟨by omega, by omega⟩ (fun b17 => ?_) (fun b17 => ?_)
              · refine Rx.walk 1 (pc' := 113) (L' := [some (.ref 95), some (.int (iz (-nr))), some (.int (iz 3)), some (.int (iz (-(((nr / 10) / 10) / 10)))), some (.int (iz (orB (orB (orB 0 (-(nr % 10))) (-((nr / 10) % 10))) (-(((nr / 10) / 10) % 10))))), some (.int (iz (-1)))]) (st' := [.int (iz 0)]) (h' := cxW (u2 z 95 1 3) (uf f 96 (iu (iu (iu who_1 2 (-(nr % 10))) 1 (-((nr / 10) % 10))) 0 (-(((nr / 10) / 10) % 10)))) C T rc tl) rfl ?_
                refine Rx.ret rfl ?_
                exact ⟨_, _, rfl, rfl, Or.inr ⟨rfl, fun q => by have := q.2.1; omega⟩⟩
              · refine Rx.walk 1 (pc' := 98) (L' := [some (.ref 95), some (.int (iz (-nr))), some (.int (iz 3)), some (.int (iz (-(((nr / 10) / 10) / 10)))), some (.int (iz (orB (orB (orB 0 (-(nr % 10))) (-((nr / 10) % 10))) (-(((nr / 10) / 10) % 10))))), some (.int (iz (-1)))]) (st' := [.int (iz (orB (orB (orB 0 (-(nr % 10))) (-((nr / 10) % 10))) (-(((nr / 10) / 10) % 10))))]) (h' := cxW (u2 z 95 1 3) (uf f 96 (iu (iu (iu who_1 2 (-(nr % 10))) 1 (-((nr / 10) % 10))) 0 (-(((nr / 10) / 10) % 10)))) C T rc tl) rfl ?_
                refine Rx.callx (m' := m_J6_bitCount_0f7a4) (as := [.int (iz (orB (orB (orB 0 (-(nr % 10))) (-((nr / 10) % 10))) (-(((nr / 10) / 10) % 10))))]) (rest := []) rfl (n_bitCount _ (cxW (u2 z 95 1 3) (uf f 96 (iu (iu (iu who_1 2 (-(nr % 10))) 1 (-((nr / 10) % 10))) 0 (-(((nr / 10) / 10) % 10)))) C T rc tl)  (orB (orB (orB 0 (-(nr % 10))) (-((nr / 10) % 10))) (-(((nr / 10) / 10) % 10))) (by first | assumption | omega) (by first | assumption | omega)) (fun v20 h21 q22 => ?_)
                obtain ⟨r_18, rfl, rfl, f19⟩ := q22
                refine Rx.walk 0 (pc' := 101) (L' := [some (.ref 95), some (.int (iz (-nr))), some (.int (iz 3)), some (.int (iz (-(((nr / 10) / 10) / 10)))), some (.int (iz (orB (orB (orB 0 (-(nr % 10))) (-((nr / 10) % 10))) (-(((nr / 10) / 10) % 10))))), some (.int (iz (-1)))]) (st' := [.int (iz r_18)]) (h' := cxW (u2 z 95 1 3) (uf f 96 (iu (iu (iu who_1 2 (-(nr % 10))) 1 (-((nr / 10) % 10))) 0 (-(((nr / 10) / 10) % 10)))) C T rc tl) rfl ?_
                have bb := bc_b (x := (orB (orB (orB 0 (-(nr % 10))) (-((nr / 10) % 10))) (-(((nr / 10) / 10) % 10))))
                refine Rx.walk 2 (pc' := 105) (L' := [some (.ref 95), some (.int (iz (-nr))), some (.int (iz 3)), some (.int (iz (-(((nr / 10) / 10) / 10)))), some (.int (iz (orB (orB (orB 0 (-(nr % 10))) (-((nr / 10) % 10))) (-(((nr / 10) / 10) % 10))))), some (.int (iz (-1)))]) (st' := [.int (iz 3), .int (iz r_18)]) (h' := cxW (u2 z 95 1 3) (uf f 96 (iu (iu (iu who_1 2 (-(nr % 10))) 1 (-((nr / 10) % 10))) 0 (-(((nr / 10) / 10) % 10)))) C T rc tl) rfl ?_
                refine Rx.ne2 rfl rfl ⟨by omega, by omega⟩ ⟨by omega, by omega⟩ (fun b23 => ?_) (fun b23 => ?_)
                · refine Rx.walk 1 (pc' := 113) (L' := [some (.ref 95), some (.int (iz (-nr))), some (.int (iz 3)), some (.int (iz (-(((nr / 10) / 10) / 10)))), some (.int (iz (orB (orB (orB 0 (-(nr % 10))) (-((nr / 10) % 10))) (-(((nr / 10) / 10) % 10))))), some (.int (iz (-1)))]) (st' := [.int (iz 0)]) (h' := cxW (u2 z 95 1 3) (uf f 96 (iu (iu (iu who_1 2 (-(nr % 10))) 1 (-((nr / 10) % 10))) 0 (-(((nr / 10) / 10) % 10)))) C T rc tl) rfl ?_
                  refine Rx.ret rfl ?_
                  exact ⟨_, _, rfl, rfl, Or.inr ⟨rfl, fun q => by have := q.2.1; omega⟩⟩
                · refine Rx.walk 2 (pc' := 113) (L' := [some (.ref 95), some (.int (iz (-nr))), some (.int (iz 3)), some (.int (iz (-(((nr / 10) / 10) / 10)))), some (.int (iz (orB (orB (orB 0 (-(nr % 10))) (-((nr / 10) % 10))) (-(((nr / 10) / 10) % 10))))), some (.int (iz (-1)))]) (st' := [.int (iz 1)]) (h' := cxW (u2 z 95 1 3) (uf f 96 (iu (iu (iu who_1 2 (-(nr % 10))) 1 (-((nr / 10) % 10))) 0 (-(((nr / 10) / 10) % 10)))) C T rc tl) rfl ?_
                  refine Rx.ret rfl ?_
                  exfalso
                  omega
            · refine Rx.walk 1 (pc' := 64) (L' := [some (.ref 95), some (.int (iz (-nr))), some (.int (iz 3)), some (.int (iz (-(((nr / 10) / 10) / 10)))), some (.int (iz (orB (orB 0 (-(nr % 10))) (-((nr / 10) % 10))))), some (.int (iz 0))]) (st' := [.int (iz 0)]) (h' := cxW (u2 z 95 1 3) (uf f 96 (iu (iu (iu who_1 2 (-(nr % 10))) 1 (-((nr / 10) % 10))) 0 (-(((nr / 10) / 10) % 10)))) C T rc tl) rfl ?_
              refine Rx.ret rfl ?_
              exact ⟨_, _, rfl, rfl, Or.inr ⟨rfl, fun q => by have := q.2.1; omega⟩⟩
        · refine Rx.walk 1 (pc' := 64) (L' := [some (.ref 95), some (.int (iz (-nr))), some (.int (iz 3)), some (.int (iz (-((nr / 10) / 10)))), some (.int (iz (orB 0 (-(nr % 10))))), some (.int (iz 1))]) (st' := [.int (iz 0)]) (h' := cxW (u2 z 95 1 3) (uf f 96 (iu (iu who_1 2 (-(nr % 10))) 1 (-((nr / 10) % 10)))) C T rc tl) rfl ?_
          refine Rx.ret rfl ?_
          exact ⟨_, _, rfl, rfl, Or.inr ⟨rfl, fun q => by have := q.2.1; omega⟩⟩
    · refine Rx.walk 1 (pc' := 64) (L' := [some (.ref 95), some (.int (iz (-nr))), some (.int (iz 3)), some (.int (iz (-(nr / 10)))), some (.int (iz 0)), some (.int (iz 2))]) (st' := [.int (iz 0)]) (h' := cxW (u2 z 95 1 3) (uf f 96 (iu who_1 2 (-(nr % 10)))) C T rc tl) rfl ?_
      refine Rx.ret rfl ?_
      exact ⟨_, _, rfl, rfl, Or.inr ⟨rfl, fun q => by have := q.2.1; omega⟩⟩
set_option maxRecDepth 100000 in
set_option maxHeartbeats 4000000 in
theorem x_reads4 (d : Nat) (z : Nat → Nat → Int) (f : Nat → Int → Int) (C : Nat → CuR) (T : Nat → TsR) (rc : Nat → Nat) (tl : AmH)  (row : Int) (osz : Int) (who : Int → Int) (hr : bI (row)) (h0 : 0 ≤ row) : Rx (d + 1) m_X3_reads 0 (am_ent [.ref 95, .int (iz row), .int (iz 4)] 6) [] (cxW (u2 z 95 1 osz) (uf f 96 who) C T rc tl) (fun rv h => ∃ r : Int, ∃ who' : Int → Int, rv = some (.int (iz r)) ∧ h = cxW (u2 z 95 1 4) (uf f 96 who') C T rc tl ∧ ((r = 1 ∧ ordOK 4 row ∧ lsI 4 who' = ordL 4 row) ∨ (r = 0 ∧ ¬ ordOK 4 row))) := by
  obtain ⟨hr0, hr1⟩ := id hr
  refine Rx.walk 0 (pc' := 0) (L' := [some (.ref 95), some (.int (iz row)), some (.int (iz 4)), none, none, none]) (st' := []) (h' := cxW (u2 z 95 1 osz) (uf f 96 who) C T rc tl) rfl ?_
  refine Rx.walk 2 (pc' := 2) (L' := [some (.ref 95), some (.int (iz row)), some (.int (iz 4)), none, none, none]) (st' := [.int (iz 4), .ref 95]) (h' := cxW (u2 z 95 1 osz) (uf f 96 who) C T rc tl) rfl ?_
  refine Rx.callx (m' := m_X3_starts) (as := [.ref 95, .int (iz 4)]) (rest := []) rfl (x_starts _ (u2 z 95 1 osz) (uf f 96 who) C T rc tl  4 osz who (by first | assumption | omega)) (fun v3 h4 q5 => ?_)
  obtain ⟨who_1, rfl, rfl, f2⟩ := q5
  refine Rx.walk 0 (pc' := 5) (L' := [some (.ref 95), some (.int (iz row)), some (.int (iz 4)), none, none, none]) (st' := []) (h' := cxW (u2 z 95 1 4) (uf f 96 who_1) C T rc tl) rfl ?_
  refine Rx.walk 7 (pc' := 15) (L' := [some (.ref 95), some (.int (iz row)), some (.int (iz 4)), some (.int (iz row)), some (.int (iz 0)), none]) (st' := [.int (iz 1), .int (iz 4)]) (h' := cxW (u2 z 95 1 4) (uf f 96 who_1) C T rc tl) rfl ?_
  refine Rx.isub rfl ?_
  refine Rx.walk 0 (pc' := 16) (L' := [some (.ref 95), some (.int (iz row)), some (.int (iz 4)), some (.int (iz row)), some (.int (iz 0)), none]) (st' := [.int (iz 3)]) (h' := cxW (u2 z 95 1 4) (uf f 96 who_1) C T rc tl) rfl ?_
  refine Rx.walk 2 (pc' := 20) (L' := [some (.ref 95), some (.int (iz row)), some (.int (iz 4)), some (.int (iz row)), some (.int (iz 0)), some (.int (iz 3))]) (st' := [.int (iz 3)]) (h' := cxW (u2 z 95 1 4) (uf f 96 who_1) C T rc tl) rfl ?_
  refine Rx.lt1 rfl rfl ⟨by omega, by omega⟩ (fun b6 => by omega) (fun b6 => ?_)
  refine Rx.walk 5 (pc' := 32) (L' := [some (.ref 95), some (.int (iz row)), some (.int (iz 4)), some (.int (iz row)), some (.int (iz 0)), some (.int (iz 3))]) (st' := [.int (iz 10), .int (iz row), .int (iz 3), .ref 96]) (h' := cxW (u2 z 95 1 4) (uf f 96 who_1) C T rc tl) rfl ?_
  refine Rx.irem rfl ⟨by omega, by omega⟩ ⟨by omega, by omega⟩ (by omega) (by omega) ?_
  refine Rx.ias (g := who_1) (h' := cxW (u2 z 95 1 4) (uf f 96 (iu who_1 3 (row % 10))) C T rc tl) rfl rfl (by omega) (by omega) (by omega) rfl ?_
  refine Rx.walk 2 (pc' := 37) (L' := [some (.ref 95), some (.int (iz row)), some (.int (iz 4)), some (.int (iz row)), some (.int (iz 0)), some (.int (iz 3))]) (st' := [.int (iz 10), .int (iz row)]) (h' := cxW (u2 z 95 1 4) (uf f 96 (iu who_1 3 (row % 10))) C T rc tl) rfl ?_
  refine Rx.idiv rfl ⟨by omega, by omega⟩ ⟨by omega, by omega⟩ (by omega) (by omega) ?_
  refine Rx.walk 4 (pc' := 45) (L' := [some (.ref 95), some (.int (iz row)), some (.int (iz 4)), some (.int (iz (row / 10))), some (.int (iz 0)), some (.int (iz 3))]) (st' := [.int (iz 3), .ref 96]) (h' := cxW (u2 z 95 1 4) (uf f 96 (iu who_1 3 (row % 10))) C T rc tl) rfl ?_
  refine Rx.ial (g := (iu who_1 3 (row % 10))) rfl rfl (by omega) (by omega) (by omega) ?_
  rw [show ((iu who_1 3 (row % 10)) 3) = (row % 10) by simp [iu]]
  refine Rx.lt1 rfl rfl ⟨by omega, by omega⟩ (fun b7 => ?_) (fun b7 => ?_)
  · refine Rx.walk 1 (pc' := 64) (L' := [some (.ref 95), some (.int (iz row)), some (.int (iz 4)), some (.int (iz (row / 10))), some (.int (iz 0)), some (.int (iz 3))]) (st' := [.int (iz 0)]) (h' := cxW (u2 z 95 1 4) (uf f 96 (iu who_1 3 (row % 10))) C T rc tl) rfl ?_
    refine Rx.ret rfl ?_
    refine ⟨_, _, rfl, rfl, Or.inr ⟨rfl, ?_⟩⟩
    rintro ⟨-, h2, h3, h4, h5⟩
    have h3 : row < 10000 := h3
    simp only [ordL, List.mem_cons, List.not_mem_nil, or_false, forall_eq_or_imp, forall_eq] at h4
    omega
  · refine Rx.walk 3 (pc' := 55) (L' := [some (.ref 95), some (.int (iz row)), some (.int (iz 4)), some (.int (iz (row / 10))), some (.int (iz 0)), some (.int (iz 3))]) (st' := [.int (iz 3), .ref 96]) (h' := cxW (u2 z 95 1 4) (uf f 96 (iu who_1 3 (row % 10))) C T rc tl) rfl ?_
    refine Rx.ial (g := (iu who_1 3 (row % 10))) rfl rfl (by omega) (by omega) (by omega) ?_
    rw [show ((iu who_1 3 (row % 10)) 3) = (row % 10) by simp [iu]]
    refine Rx.walk 2 (pc' := 60) (L' := [some (.ref 95), some (.int (iz row)), some (.int (iz 4)), some (.int (iz (row / 10))), some (.int (iz 0)), some (.int (iz 3))]) (st' := [.int (iz 4), .int (iz (row % 10))]) (h' := cxW (u2 z 95 1 4) (uf f 96 (iu who_1 3 (row % 10))) C T rc tl) rfl ?_
    refine Rx.lt2 rfl rfl ⟨by omega, by omega⟩ ⟨by omega, by omega⟩ (fun b8 => ?_) (fun b8 => ?_)
    · refine Rx.walk 5 (pc' := 74) (L' := [some (.ref 95), some (.int (iz row)), some (.int (iz 4)), some (.int (iz (row / 10))), some (.int (iz 0)), some (.int (iz 3))]) (st' := [.int (iz 3), .ref 96, .int (iz 1), .int (iz 0)]) (h' := cxW (u2 z 95 1 4) (uf f 96 (iu who_1 3 (row % 10))) C T rc tl) rfl ?_
      refine Rx.ial (g := (iu who_1 3 (row % 10))) rfl rfl (by omega) (by omega) (by omega) ?_
      rw [show ((iu who_1 3 (row % 10)) 3) = (row % 10) by simp [iu]]
      refine Rx.ishl (c := (p2 (row % 10))) rfl (p2_shl (by omega) (by omega)) ?_
      refine Rx.ior (c := (orB 0 (row % 10))) rfl (orB_or (by omega) (by omega) (by omega) (by omega)) ?_
      have ob8 := orB_b (s := 0) (e := (row % 10)) (by omega) (by omega) (by omega) (by omega)
      refine Rx.walk 1 (pc' := 79) (L' := [some (.ref 95), some (.int (iz row)), some (.int (iz 4)), some (.int (iz (row / 10))), some (.int (iz (orB 0 (row % 10)))), some (.int (iz 3))]) (st' := []) (h' := cxW (u2 z 95 1 4) (uf f 96 (iu who_1 3 (row % 10))) C T rc tl) rfl ?_
      refine Rx.iinc (b := -1) rfl rfl rfl ?_
      refine Rx.walk 0 (pc' := 82) (L' := [some (.ref 95), some (.int (iz row)), some (.int (iz 4)), some (.int (iz (row / 10))), some (.int (iz (orB 0 (row % 10)))), some (.int (iz 2))]) (st' := []) (h' := cxW (u2 z 95 1 4) (uf f 96 (iu who_1 3 (row % 10))) C T rc tl) rfl ?_
      refine Rx.walk 2 (pc' := 20) (L' := [some (.ref 95), some (.int (iz row)), some (.int (iz 4)), some (.int (iz (row / 10))), some (.int (iz (orB 0 (row % 10)))), some (.int (iz 2))]) (st' := [.int (iz 2)]) (h' := cxW (u2 z 95 1 4) (uf f 96 (iu who_1 3 (row % 10))) C T rc tl) rfl ?_
      refine Rx.lt1 rfl rfl ⟨by omega, by omega⟩ (fun b9 => by omega) (fun b9 => ?_)
      refine Rx.walk 5 (pc' := 32) (L' := [some (.ref 95), some (.int (iz row)), some (.int (iz 4)), some (.int (iz (row / 10))), some (.int (iz (orB 0 (row % 10)))), some (.int (iz 2))]) (st' := [.int (iz 10), .int (iz (row / 10)), .int (iz 2), .ref 96]) (h' := cxW (u2 z 95 1 4) (uf f 96 (iu who_1 3 (row % 10))) C T rc tl) rfl ?_
      refine Rx.irem rfl ⟨by omega, by omega⟩ ⟨by omega, by omega⟩ (by omega) (by omega) ?_
      refine Rx.ias (g := (iu who_1 3 (row % 10))) (h' := cxW (u2 z 95 1 4) (uf f 96 (iu (iu who_1 3 (row % 10)) 2 ((row / 10) % 10))) C T rc tl) rfl rfl (by omega) (by omega) (by omega) rfl ?_
      refine Rx.walk 2 (pc' := 37) (L' := [some (.ref 95), some (.int (iz row)), some (.int (iz 4)), some (.int (iz (row / 10))), some (.int (iz (orB 0 (row % 10)))), some (.int (iz 2))]) (st' := [.int (iz 10), .int (iz (row / 10))]) (h' := cxW (u2 z 95 1 4) (uf f 96 (iu (iu who_1 3 (row % 10)) 2 ((row / 10) % 10))) C T rc tl) rfl ?_
      refine Rx.idiv rfl ⟨by omega, by omega⟩ ⟨by omega, by omega⟩ (by omega) (by omega) ?_
      refine Rx.walk 4 (pc' := 45) (L' := [some (.ref 95), some (.int (iz row)), some (.int (iz 4)), some (.int (iz ((row / 10) / 10))), some (.int (iz (orB 0 (row % 10)))), some (.int (iz 2))]) (st' := [.int (iz 2), .ref 96]) (h' := cxW (u2 z 95 1 4) (uf f 96 (iu (iu who_1 3 (row % 10)) 2 ((row / 10) % 10))) C T rc tl) rfl ?_
      refine Rx.ial (g := (iu (iu who_1 3 (row % 10)) 2 ((row / 10) % 10))) rfl rfl (by omega) (by omega) (by omega) ?_
      rw [show ((iu (iu who_1 3 (row % 10)) 2 ((row / 10) % 10)) 2) = ((row / 10) % 10) by simp [iu]]
      refine Rx.lt1 rfl rfl ⟨by omega, by omega⟩ (fun b10 => ?_) (fun b10 => ?_)
      · refine Rx.walk 1 (pc' := 64) (L' := [some (.ref 95), some (.int (iz row)), some (.int (iz 4)), some (.int (iz ((row / 10) / 10))), some (.int (iz (orB 0 (row % 10)))), some (.int (iz 2))]) (st' := [.int (iz 0)]) (h' := cxW (u2 z 95 1 4) (uf f 96 (iu (iu who_1 3 (row % 10)) 2 ((row / 10) % 10))) C T rc tl) rfl ?_
        refine Rx.ret rfl ?_
        refine ⟨_, _, rfl, rfl, Or.inr ⟨rfl, ?_⟩⟩
        rintro ⟨-, h2, h3, h4, h5⟩
        have h3 : row < 10000 := h3
        simp only [ordL, List.mem_cons, List.not_mem_nil, or_false, forall_eq_or_imp, forall_eq] at h4
        omega
      · refine Rx.walk 3 (pc' := 55) (L' := [some (.ref 95), some (.int (iz row)), some (.int (iz 4)), some (.int (iz ((row / 10) / 10))), some (.int (iz (orB 0 (row % 10)))), some (.int (iz 2))]) (st' := [.int (iz 2), .ref 96]) (h' := cxW (u2 z 95 1 4) (uf f 96 (iu (iu who_1 3 (row % 10)) 2 ((row / 10) % 10))) C T rc tl) rfl ?_
        refine Rx.ial (g := (iu (iu who_1 3 (row % 10)) 2 ((row / 10) % 10))) rfl rfl (by omega) (by omega) (by omega) ?_
        rw [show ((iu (iu who_1 3 (row % 10)) 2 ((row / 10) % 10)) 2) = ((row / 10) % 10) by simp [iu]]
        refine Rx.walk 2 (pc' := 60) (L' := [some (.ref 95), some (.int (iz row)), some (.int (iz 4)), some (.int (iz ((row / 10) / 10))), some (.int (iz (orB 0 (row % 10)))), some (.int (iz 2))]) (st' := [.int (iz 4), .int (iz ((row / 10) % 10))]) (h' := cxW (u2 z 95 1 4) (uf f 96 (iu (iu who_1 3 (row % 10)) 2 ((row / 10) % 10))) C T rc tl) rfl ?_
        refine Rx.lt2 rfl rfl ⟨by omega, by omega⟩ ⟨by omega, by omega⟩ (fun b11 => ?_) (fun b11 => ?_)
        · refine Rx.walk 5 (pc' := 74) (L' := [some (.ref 95), some (.int (iz row)), some (.int (iz 4)), some (.int (iz ((row / 10) / 10))), some (.int (iz (orB 0 (row % 10)))), some (.int (iz 2))]) (st' := [.int (iz 2), .ref 96, .int (iz 1), .int (iz (orB 0 (row % 10)))]) (h' := cxW (u2 z 95 1 4) (uf f 96 (iu (iu who_1 3 (row % 10)) 2 ((row / 10) % 10))) C T rc tl) rfl ?_
          refine Rx.ial (g := (iu (iu who_1 3 (row % 10)) 2 ((row / 10) % 10))) rfl rfl (by omega) (by omega) (by omega) ?_
          rw [show ((iu (iu who_1 3 (row % 10)) 2 ((row / 10) % 10)) 2) = ((row / 10) % 10) by simp [iu]]
          refine Rx.ishl (c := (p2 ((row / 10) % 10))) rfl (p2_shl (by omega) (by omega)) ?_
          refine Rx.ior (c := (orB (orB 0 (row % 10)) ((row / 10) % 10))) rfl (orB_or (by omega) (by omega) (by omega) (by omega)) ?_
          have ob11 := orB_b (s := (orB 0 (row % 10))) (e := ((row / 10) % 10)) (by omega) (by omega) (by omega) (by omega)
          refine Rx.walk 1 (pc' := 79) (L' := [some (.ref 95), some (.int (iz row)), some (.int (iz 4)), some (.int (iz ((row / 10) / 10))), some (.int (iz (orB (orB 0 (row % 10)) ((row / 10) % 10)))), some (.int (iz 2))]) (st' := []) (h' := cxW (u2 z 95 1 4) (uf f 96 (iu (iu who_1 3 (row % 10)) 2 ((row / 10) % 10))) C T rc tl) rfl ?_
          refine Rx.iinc (b := -1) rfl rfl rfl ?_
          refine Rx.walk 0 (pc' := 82) (L' := [some (.ref 95), some (.int (iz row)), some (.int (iz 4)), some (.int (iz ((row / 10) / 10))), some (.int (iz (orB (orB 0 (row % 10)) ((row / 10) % 10)))), some (.int (iz 1))]) (st' := []) (h' := cxW (u2 z 95 1 4) (uf f 96 (iu (iu who_1 3 (row % 10)) 2 ((row / 10) % 10))) C T rc tl) rfl ?_
          refine Rx.walk 2 (pc' := 20) (L' := [some (.ref 95), some (.int (iz row)), some (.int (iz 4)), some (.int (iz ((row / 10) / 10))), some (.int (iz (orB (orB 0 (row % 10)) ((row / 10) % 10)))), some (.int (iz 1))]) (st' := [.int (iz 1)]) (h' := cxW (u2 z 95 1 4) (uf f 96 (iu (iu who_1 3 (row % 10)) 2 ((row / 10) % 10))) C T rc tl) rfl ?_
          refine Rx.lt1 rfl rfl ⟨by omega, by omega⟩ (fun b12 => by omega) (fun b12 => ?_)
          refine Rx.walk 5 (pc' := 32) (L' := [some (.ref 95), some (.int (iz row)), some (.int (iz 4)), some (.int (iz ((row / 10) / 10))), some (.int (iz (orB (orB 0 (row % 10)) ((row / 10) % 10)))), some (.int (iz 1))]) (st' := [.int (iz 10), .int (iz ((row / 10) / 10)), .int (iz 1), .ref 96]) (h' := cxW (u2 z 95 1 4) (uf f 96 (iu (iu who_1 3 (row % 10)) 2 ((row / 10) % 10))) C T rc tl) rfl ?_
          refine Rx.irem rfl ⟨by omega, by omega⟩ ⟨by omega, by omega⟩ (by omega) (by omega) ?_
          refine Rx.ias (g := (iu (iu who_1 3 (row % 10)) 2 ((row / 10) % 10))) (h' := cxW (u2 z 95 1 4) (uf f 96 (iu (iu (iu who_1 3 (row % 10)) 2 ((row / 10) % 10)) 1 (((row / 10) / 10) % 10))) C T rc tl) rfl rfl (by omega) (by omega) (by omega) rfl ?_
          refine Rx.walk 2 (pc' := 37) (L' := [some (.ref 95), some (.int (iz row)), some (.int (iz 4)), some (.int (iz ((row / 10) / 10))), some (.int (iz (orB (orB 0 (row % 10)) ((row / 10) % 10)))), some (.int (iz 1))]) (st' := [.int (iz 10), .int (iz ((row / 10) / 10))]) (h' := cxW (u2 z 95 1 4) (uf f 96 (iu (iu (iu who_1 3 (row % 10)) 2 ((row / 10) % 10)) 1 (((row / 10) / 10) % 10))) C T rc tl) rfl ?_
          refine Rx.idiv rfl ⟨by omega, by omega⟩ ⟨by omega, by omega⟩ (by omega) (by omega) ?_
          refine Rx.walk 4 (pc' := 45) (L' := [some (.ref 95), some (.int (iz row)), some (.int (iz 4)), some (.int (iz (((row / 10) / 10) / 10))), some (.int (iz (orB (orB 0 (row % 10)) ((row / 10) % 10)))), some (.int (iz 1))]) (st' := [.int (iz 1), .ref 96]) (h' := cxW (u2 z 95 1 4) (uf f 96 (iu (iu (iu who_1 3 (row % 10)) 2 ((row / 10) % 10)) 1 (((row / 10) / 10) % 10))) C T rc tl) rfl ?_
          refine Rx.ial (g := (iu (iu (iu who_1 3 (row % 10)) 2 ((row / 10) % 10)) 1 (((row / 10) / 10) % 10))) rfl rfl (by omega) (by omega) (by omega) ?_
          rw [show ((iu (iu (iu who_1 3 (row % 10)) 2 ((row / 10) % 10)) 1 (((row / 10) / 10) % 10)) 1) = (((row / 10) / 10) % 10) by simp [iu]]
          refine Rx.lt1 rfl rfl ⟨by omega, by omega⟩ (fun b13 => ?_) (fun b13 => ?_)
          · refine Rx.walk 1 (pc' := 64) (L' := [some (.ref 95), some (.int (iz row)), some (.int (iz 4)), some (.int (iz (((row / 10) / 10) / 10))), some (.int (iz (orB (orB 0 (row % 10)) ((row / 10) % 10)))), some (.int (iz 1))]) (st' := [.int (iz 0)]) (h' := cxW (u2 z 95 1 4) (uf f 96 (iu (iu (iu who_1 3 (row % 10)) 2 ((row / 10) % 10)) 1 (((row / 10) / 10) % 10))) C T rc tl) rfl ?_
            refine Rx.ret rfl ?_
            refine ⟨_, _, rfl, rfl, Or.inr ⟨rfl, ?_⟩⟩
            rintro ⟨-, h2, h3, h4, h5⟩
            have h3 : row < 10000 := h3
            simp only [ordL, List.mem_cons, List.not_mem_nil, or_false, forall_eq_or_imp, forall_eq] at h4
            omega
          · refine Rx.walk 3 (pc' := 55) (L' := [some (.ref 95), some (.int (iz row)), some (.int (iz 4)), some (.int (iz (((row / 10) / 10) / 10))), some (.int (iz (orB (orB 0 (row % 10)) ((row / 10) % 10)))), some (.int (iz 1))]) (st' := [.int (iz 1), .ref 96]) (h' := cxW (u2 z 95 1 4) (uf f 96 (iu (iu (iu who_1 3 (row % 10)) 2 ((row / 10) % 10)) 1 (((row / 10) / 10) % 10))) C T rc tl) rfl ?_
            refine Rx.ial (g := (iu (iu (iu who_1 3 (row % 10)) 2 ((row / 10) % 10)) 1 (((row / 10) / 10) % 10))) rfl rfl (by omega) (by omega) (by omega) ?_
            rw [show ((iu (iu (iu who_1 3 (row % 10)) 2 ((row / 10) % 10)) 1 (((row / 10) / 10) % 10)) 1) = (((row / 10) / 10) % 10) by simp [iu]]
            refine Rx.walk 2 (pc' := 60) (L' := [some (.ref 95), some (.int (iz row)), some (.int (iz 4)), some (.int (iz (((row / 10) / 10) / 10))), some (.int (iz (orB (orB 0 (row % 10)) ((row / 10) % 10)))), some (.int (iz 1))]) (st' := [.int (iz 4), .int (iz (((row / 10) / 10) % 10))]) (h' := cxW (u2 z 95 1 4) (uf f 96 (iu (iu (iu who_1 3 (row % 10)) 2 ((row / 10) % 10)) 1 (((row / 10) / 10) % 10))) C T rc tl) rfl ?_
            refine Rx.lt2 rfl rfl ⟨by omega, by omega⟩ ⟨by omega, by omega⟩ (fun b14 => ?_) (fun b14 => ?_)
            · refine Rx.walk 5 (pc' := 74) (L' := [some (.ref 95), some (.int (iz row)), some (.int (iz 4)), some (.int (iz (((row / 10) / 10) / 10))), some (.int (iz (orB (orB 0 (row % 10)) ((row / 10) % 10)))), some (.int (iz 1))]) (st' := [.int (iz 1), .ref 96, .int (iz 1), .int (iz (orB (orB 0 (row % 10)) ((row / 10) % 10)))]) (h' := cxW (u2 z 95 1 4) (uf f 96 (iu (iu (iu who_1 3 (row % 10)) 2 ((row / 10) % 10)) 1 (((row / 10) / 10) % 10))) C T rc tl) rfl ?_
              refine Rx.ial (g := (iu (iu (iu who_1 3 (row % 10)) 2 ((row / 10) % 10)) 1 (((row / 10) / 10) % 10))) rfl rfl (by omega) (by omega) (by omega) ?_
              rw [show ((iu (iu (iu who_1 3 (row % 10)) 2 ((row / 10) % 10)) 1 (((row / 10) / 10) % 10)) 1) = (((row / 10) / 10) % 10) by simp [iu]]
              refine Rx.ishl (c := (p2 (((row / 10) / 10) % 10))) rfl (p2_shl (by omega) (by omega)) ?_
              refine Rx.ior (c := (orB (orB (orB 0 (row % 10)) ((row / 10) % 10)) (((row / 10) / 10) % 10))) rfl (orB_or (by omega) (by omega) (by omega) (by omega)) ?_
              have ob14 := orB_b (s := (orB (orB 0 (row % 10)) ((row / 10) % 10))) (e := (((row / 10) / 10) % 10)) (by omega) (by omega) (by omega) (by omega)
              refine Rx.walk 1 (pc' := 79) (L' := [some (.ref 95), some (.int (iz row)), some (.int (iz 4)), some (.int (iz (((row / 10) / 10) / 10))), some (.int (iz (orB (orB (orB 0 (row % 10)) ((row / 10) % 10)) (((row / 10) / 10) % 10)))), some (.int (iz 1))]) (st' := []) (h' := cxW (u2 z 95 1 4) (uf f 96 (iu (iu (iu who_1 3 (row % 10)) 2 ((row / 10) % 10)) 1 (((row / 10) / 10) % 10))) C T rc tl) rfl ?_
              refine Rx.iinc (b := -1) rfl rfl rfl ?_
              refine Rx.walk 0 (pc' := 82) (L' := [some (.ref 95), some (.int (iz row)), some (.int (iz 4)), some (.int (iz (((row / 10) / 10) / 10))), some (.int (iz (orB (orB (orB 0 (row % 10)) ((row / 10) % 10)) (((row / 10) / 10) % 10)))), some (.int (iz 0))]) (st' := []) (h' := cxW (u2 z 95 1 4) (uf f 96 (iu (iu (iu who_1 3 (row % 10)) 2 ((row / 10) % 10)) 1 (((row / 10) / 10) % 10))) C T rc tl) rfl ?_
              refine Rx.walk 2 (pc' := 20) (L' := [some (.ref 95), some (.int (iz row)), some (.int (iz 4)), some (.int (iz (((row / 10) / 10) / 10))), some (.int (iz (orB (orB (orB 0 (row % 10)) ((row / 10) % 10)) (((row / 10) / 10) % 10)))), some (.int (iz 0))]) (st' := [.int (iz 0)]) (h' := cxW (u2 z 95 1 4) (uf f 96 (iu (iu (iu who_1 3 (row % 10)) 2 ((row / 10) % 10)) 1 (((row / 10) / 10) % 10))) C T rc tl) rfl ?_
              refine Rx.lt1 rfl rfl ⟨by omega, by omega⟩ (fun b15 => by omega) (fun b15 => ?_)
              refine Rx.walk 5 (pc' := 32) (L' := [some (.ref 95), some (.int (iz row)), some (.int (iz 4)), some (.int (iz (((row / 10) / 10) / 10))), some (.int (iz (orB (orB (orB 0 (row % 10)) ((row / 10) % 10)) (((row / 10) / 10) % 10)))), some (.int (iz 0))]) (st' := [.int (iz 10), .int (iz (((row / 10) / 10) / 10)), .int (iz 0), .ref 96]) (h' := cxW (u2 z 95 1 4) (uf f 96 (iu (iu (iu who_1 3 (row % 10)) 2 ((row / 10) % 10)) 1 (((row / 10) / 10) % 10))) C T rc tl) rfl ?_
              refine Rx.irem rfl ⟨by omega, by omega⟩ ⟨by omega, by omega⟩ (by omega) (by omega) ?_
              refine Rx.ias (g := (iu (iu (iu who_1 3 (row % 10)) 2 ((row / 10) % 10)) 1 (((row / 10) / 10) % 10))) (h' := cxW (u2 z 95 1 4) (uf f 96 (iu (iu (iu (iu who_1 3 (row % 10)) 2 ((row / 10) % 10)) 1 (((row / 10) / 10) % 10)) 0 ((((row / 10) / 10) / 10) % 10))) C T rc tl) rfl rfl (by omega) (by omega) (by omega) rfl ?_
              refine Rx.walk 2 (pc' := 37) (L' := [some (.ref 95), some (.int (iz row)), some (.int (iz 4)), some (.int (iz (((row / 10) / 10) / 10))), some (.int (iz (orB (orB (orB 0 (row % 10)) ((row / 10) % 10)) (((row / 10) / 10) % 10)))), some (.int (iz 0))]) (st' := [.int (iz 10), .int (iz (((row / 10) / 10) / 10))]) (h' := cxW (u2 z 95 1 4) (uf f 96 (iu (iu (iu (iu who_1 3 (row % 10)) 2 ((row / 10) % 10)) 1 (((row / 10) / 10) % 10)) 0 ((((row / 10) / 10) / 10) % 10))) C T rc tl) rfl ?_
              refine Rx.idiv rfl ⟨by omega, by omega⟩ ⟨by omega, by omega⟩ (by omega) (by omega) ?_
              refine Rx.walk 4 (pc' := 45) (L' := [some (.ref 95), some (.int (iz row)), some (.int (iz 4)), some (.int (iz ((((row / 10) / 10) / 10) / 10))), some (.int (iz (orB (orB (orB 0 (row % 10)) ((row / 10) % 10)) (((row / 10) / 10) % 10)))), some (.int (iz 0))]) (st' := [.int (iz 0), .ref 96]) (h' := cxW (u2 z 95 1 4) (uf f 96 (iu (iu (iu (iu who_1 3 (row % 10)) 2 ((row / 10) % 10)) 1 (((row / 10) / 10) % 10)) 0 ((((row / 10) / 10) / 10) % 10))) C T rc tl) rfl ?_
              refine Rx.ial (g := (iu (iu (iu (iu who_1 3 (row % 10)) 2 ((row / 10) % 10)) 1 (((row / 10) / 10) % 10)) 0 ((((row / 10) / 10) / 10) % 10))) rfl rfl (by omega) (by omega) (by omega) ?_
              rw [show ((iu (iu (iu (iu who_1 3 (row % 10)) 2 ((row / 10) % 10)) 1 (((row / 10) / 10) % 10)) 0 ((((row / 10) / 10) / 10) % 10)) 0) = ((((row / 10) / 10) / 10) % 10) by simp [iu]]
              refine Rx.lt1 rfl rfl ⟨by omega, by omega⟩ (fun b16 => ?_) (fun b16 => ?_)
              · refine Rx.walk 1 (pc' := 64) (L' := [some (.ref 95), some (.int (iz row)), some (.int (iz 4)), some (.int (iz ((((row / 10) / 10) / 10) / 10))), some (.int (iz (orB (orB (orB 0 (row % 10)) ((row / 10) % 10)) (((row / 10) / 10) % 10)))), some (.int (iz 0))]) (st' := [.int (iz 0)]) (h' := cxW (u2 z 95 1 4) (uf f 96 (iu (iu (iu (iu who_1 3 (row % 10)) 2 ((row / 10) % 10)) 1 (((row / 10) / 10) % 10)) 0 ((((row / 10) / 10) / 10) % 10))) C T rc tl) rfl ?_
                refine Rx.ret rfl ?_
                refine ⟨_, _, rfl, rfl, Or.inr ⟨rfl, ?_⟩⟩
                rintro ⟨-, h2, h3, h4, h5⟩
                have h3 : row < 10000 := h3
                simp only [ordL, List.mem_cons, List.not_mem_nil, or_false, forall_eq_or_imp, forall_eq] at h4
                omega
              · refine Rx.walk 3 (pc' := 55) (L' := [some (.ref 95), some (.int (iz row)), some (.int (iz 4)), some (.int (iz ((((row / 10) / 10) / 10) / 10))), some (.int (iz (orB (orB (orB 0 (row % 10)) ((row / 10) % 10)) (((row / 10) / 10) % 10)))), some (.int (iz 0))]) (st' := [.int (iz 0), .ref 96]) (h' := cxW (u2 z 95 1 4) (uf f 96 (iu (iu (iu (iu who_1 3 (row % 10)) 2 ((row / 10) % 10)) 1 (((row / 10) / 10) % 10)) 0 ((((row / 10) / 10) / 10) % 10))) C T rc tl) rfl ?_
                refine Rx.ial (g := (iu (iu (iu (iu who_1 3 (row % 10)) 2 ((row / 10) % 10)) 1 (((row / 10) / 10) % 10)) 0 ((((row / 10) / 10) / 10) % 10))) rfl rfl (by omega) (by omega) (by omega) ?_
                rw [show ((iu (iu (iu (iu who_1 3 (row % 10)) 2 ((row / 10) % 10)) 1 (((row / 10) / 10) % 10)) 0 ((((row / 10) / 10) / 10) % 10)) 0) = ((((row / 10) / 10) / 10) % 10) by simp [iu]]
                refine Rx.walk 2 (pc' := 60) (L' := [some (.ref 95), some (.int (iz row)), some (.int (iz 4)), some (.int (iz ((((row / 10) / 10) / 10) / 10))), some (.int (iz (orB (orB (orB 0 (row % 10)) ((row / 10) % 10)) (((row / 10) / 10) % 10)))), some (.int (iz 0))]) (st' := [.int (iz 4), .int (iz ((((row / 10) / 10) / 10) % 10))]) (h' := cxW (u2 z 95 1 4) (uf f 96 (iu (iu (iu (iu who_1 3 (row % 10)) 2 ((row / 10) % 10)) 1 (((row / 10) / 10) % 10)) 0 ((((row / 10) / 10) / 10) % 10))) C T rc tl) rfl ?_
                refine Rx.lt2 rfl rfl ⟨by omega, by omega⟩ ⟨by omega, by omega⟩ (fun b17 => ?_) (fun b17 => ?_)
                · refine Rx.walk 5 (pc' := 74) (L' := [some (.ref 95), some (.int (iz row)), some (.int (iz 4)), some (.int (iz ((((row / 10) / 10) / 10) / 10))), some (.int (iz (orB (orB (orB 0 (row % 10)) ((row / 10) % 10)) (((row / 10) / 10) % 10)))), some (.int (iz 0))]) (st' := [.int (iz 0), .ref 96, .int (iz 1), .int (iz (orB (orB (orB 0 (row % 10)) ((row / 10) % 10)) (((row / 10) / 10) % 10)))]) (h' := cxW (u2 z 95 1 4) (uf f 96 (iu (iu (iu (iu who_1 3 (row % 10)) 2 ((row / 10) % 10)) 1 (((row / 10) / 10) % 10)) 0 ((((row / 10) / 10) / 10) % 10))) C T rc tl) rfl ?_
                  refine Rx.ial (g := (iu (iu (iu (iu who_1 3 (row % 10)) 2 ((row / 10) % 10)) 1 (((row / 10) / 10) % 10)) 0 ((((row / 10) / 10) / 10) % 10))) rfl rfl (by omega) (by omega) (by omega) ?_
                  rw [show ((iu (iu (iu (iu who_1 3 (row % 10)) 2 ((row / 10) % 10)) 1 (((row / 10) / 10) % 10)) 0 ((((row / 10) / 10) / 10) % 10)) 0) = ((((row / 10) / 10) / 10) % 10) by simp [iu]]
                  refine Rx.ishl (c := (p2 ((((row / 10) / 10) / 10) % 10))) rfl (p2_shl (by omega) (by omega)) ?_
                  refine Rx.ior (c := (orB (orB (orB (orB 0 (row % 10)) ((row / 10) % 10)) (((row / 10) / 10) % 10)) ((((row / 10) / 10) / 10) % 10))) rfl (orB_or (by omega) (by omega) (by omega) (by omega)) ?_
                  have ob17 := orB_b (s := (orB (orB (orB 0 (row % 10)) ((row / 10) % 10)) (((row / 10) / 10) % 10))) (e := ((((row / 10) / 10) / 10) % 10)) (by omega) (by omega) (by omega) (by omega)
                  refine Rx.walk 1 (pc' := 79) (L' := [some (.ref 95), some (.int (iz row)), some (.int (iz 4)), some (.int (iz ((((row / 10) / 10) / 10) / 10))), some (.int (iz (orB (orB (orB (orB 0 (row % 10)) ((row / 10) % 10)) (((row / 10) / 10) % 10)) ((((row / 10) / 10) / 10) % 10)))), some (.int (iz 0))]) (st' := []) (h' := cxW (u2 z 95 1 4) (uf f 96 (iu (iu (iu (iu who_1 3 (row % 10)) 2 ((row / 10) % 10)) 1 (((row / 10) / 10) % 10)) 0 ((((row / 10) / 10) / 10) % 10))) C T rc tl) rfl ?_
                  refine Rx.iinc (b := -1) rfl rfl rfl ?_
                  refine Rx.walk 0 (pc' := 82) (L' := [some (.ref 95), some (.int (iz row)), some (.int (iz 4)), some (.int (iz ((((row / 10) / 10) / 10) / 10))), some (.int (iz (orB (orB (orB (orB 0 (row % 10)) ((row / 10) % 10)) (((row / 10) / 10) % 10)) ((((row / 10) / 10) / 10) % 10)))), some (.int (iz (-1)))]) (st' := []) (h' := cxW (u2 z 95 1 4) (uf f 96 (iu (iu (iu (iu who_1 3 (row % 10)) 2 ((row / 10) % 10)) 1 (((row / 10) / 10) % 10)) 0 ((((row / 10) / 10) / 10) % 10))) C T rc tl) rfl ?_
                  refine Rx.walk 2 (pc' := 20) (L' := [some (.ref 95), some (.int (iz row)), some (.int (iz 4)), some (.int (iz ((((row / 10) / 10) / 10) / 10))), some (.int (iz (orB (orB (orB (orB 0 (row % 10)) ((row / 10) % 10)) (((row / 10) / 10) % 10)) ((((row / 10) / 10) / 10) % 10)))), some (.int (iz (-1)))]) (st' := [.int (iz (-1))]) (h' := cxW (u2 z 95 1 4) (uf f 96 (iu (iu (iu (iu who_1 3 (row % 10)) 2 ((row / 10) % 10)) 1 (((row / 10) / 10) % 10)) 0 ((((row / 10) / 10) / 10) % 10))) C T rc tl) rfl ?_
                  refine Rx.lt1 rfl rfl ⟨by omega, by omega⟩ (fun b18 => ?_) (fun b18 => by omega)
                  refine Rx.walk 2 (pc' := 89) (L' := [some (.ref 95), some (.int (iz row)), some (.int (iz 4)), some (.int (iz ((((row / 10) / 10) / 10) / 10))), some (.int (iz (orB (orB (orB (orB 0 (row % 10)) ((row / 10) % 10)) (((row / 10) / 10) % 10)) ((((row / 10) / 10) / 10) % 10)))), some (.int (iz (-1)))]) (st' := [.int (iz 4)]) (h' := cxW (u2 z 95 1 4) (uf f 96 (iu (iu (iu (iu who_1 3 (row % 10)) 2 ((row / 10) % 10)) 1 (((row / 10) / 10) % 10)) 0 ((((row / 10) / 10) / 10) % 10))) C T rc tl) rfl ?_
                  refine Rx.le1 rfl rfl ⟨by omega, by omega⟩ (fun b19 => by omega) (fun b19 => ?_)
                  refine Rx.walk 1 (pc' := 93) (L' := [some (.ref 95), some (.int (iz row)), some (.int (iz 4)), some (.int (iz ((((row / 10) / 10) / 10) / 10))), some (.int (iz (orB (orB (orB (orB 0 (row % 10)) ((row / 10) % 10)) (((row / 10) / 10) % 10)) ((((row / 10) / 10) / 10) % 10)))), some (.int (iz (-1)))]) (st' := [.int (iz ((((row / 10) / 10) / 10) / 10))]) (h' := cxW (u2 z 95 1 4) (uf f 96 (iu (iu (iu (iu who_1 3 (row % 10)) 2 ((row / 10) % 10)) 1 (((row / 10) / 10) % 10)) 0 ((((row / 10) / 10) / 10) % 10))) C T rc tl) rfl ?_
                  refine Rx.ne1 rfl rfl ⟨by omega, by omega⟩ (fun b20 => ?_) (fun b20 => ?_)
                  · refine Rx.walk 1 (pc' := 113) (L' := [some (.ref 95), some (.int (iz row)), some (.int (iz 4)), some (.int (iz ((((row / 10) / 10) / 10) / 10))), some (.int (iz (orB (orB (orB (orB 0 (row % 10)) ((row / 10) % 10)) (((row / 10) / 10) % 10)) ((((row / 10) / 10) / 10) % 10)))), some (.int (iz (-1)))]) (st' := [.int (iz 0)]) (h' := cxW (u2 z 95 1 4) (uf f 96 (iu (iu (iu (iu who_1 3 (row % 10)) 2 ((row / 10) % 10)) 1 (((row / 10) / 10) % 10)) 0 ((((row / 10) / 10) / 10) % 10))) C T rc tl) rfl ?_
                    refine Rx.ret rfl ?_
                    refine ⟨_, _, rfl, rfl, Or.inr ⟨rfl, ?_⟩⟩
                    rintro ⟨-, h2, h3, h4, h5⟩
                    have h3 : row < 10000 := h3
                    simp only [ordL, List.mem_cons, List.not_mem_nil, or_false, forall_eq_or_imp, forall_eq] at h4
                    omega
                  · refine Rx.walk 1 (pc' := 98) (L' := [some (.ref 95), some (.int (iz row)), some (.int (iz 4)), some (.int (iz ((((row / 10) / 10) / 10) / 10))), some (.int (iz (orB (orB (orB (orB 0 (row % 10)) ((row / 10) % 10)) (((row / 10) / 10) % 10)) ((((row / 10) / 10) / 10) % 10)))), some (.int (iz (-1)))]) (st' := [.int (iz (orB (orB (orB (orB 0 (row % 10)) ((row / 10) % 10)) (((row / 10) / 10) % 10)) ((((row / 10) / 10) / 10) % 10)))]) (h' := cxW (u2 z 95 1 4) (uf f 96 (iu (iu (iu (iu who_1 3 (row % 10)) 2 ((row / 10) % 10)) 1 (((row / 10) / 10) % 10)) 0 ((((row / 10) / 10) / 10) % 10))) C T rc tl) rfl ?_
                    refine Rx.callx (m' := m_J6_bitCount_0f7a4) (as := [.int (iz (orB (orB (orB (orB 0 (row % 10)) ((row / 10) % 10)) (((row / 10) / 10) % 10)) ((((row / 10) / 10) / 10) % 10)))]) (rest := []) rfl (n_bitCount _ (cxW (u2 z 95 1 4) (uf f 96 (iu (iu (iu (iu who_1 3 (row % 10)) 2 ((row / 10) % 10)) 1 (((row / 10) / 10) % 10)) 0 ((((row / 10) / 10) / 10) % 10))) C T rc tl)  (orB (orB (orB (orB 0 (row % 10)) ((row / 10) % 10)) (((row / 10) / 10) % 10)) ((((row / 10) / 10) / 10) % 10)) (by first | assumption | omega) (by first | assumption | omega)) (fun v23 h24 q25 => ?_)
                    obtain ⟨r_21, rfl, rfl, f22⟩ := q25
                    refine Rx.walk 0 (pc' := 101) (L' := [some (.ref 95), some (.int (iz row)), some (.int (iz 4)), some (.int (iz ((((row / 10) / 10) / 10) / 10))), some (.int (iz (orB (orB (orB (orB 0 (row % 10)) ((row / 10) % 10)) (((row / 10) / 10) % 10)) ((((row / 10) / 10) / 10) % 10)))), some (.int (iz (-1)))]) (st' := [.int (iz r_21)]) (h' := cxW (u2 z 95 1 4) (uf f 96 (iu (iu (iu (iu who_1 3 (row % 10)) 2 ((row / 10) % 10)) 1 (((row / 10) / 10) % 10)) 0 ((((row / 10) / 10) / 10) % 10))) C T rc tl) rfl ?_
                    have bb := bc_b (x := (orB (orB (orB (orB 0 (row % 10)) ((row / 10) % 10)) (((row / 10) / 10) % 10)) ((((row / 10) / 10) / 10) % 10)))
                    refine Rx.walk 2 (pc' := 105) (L' := [some (.ref 95), some (.int (iz row)), some (.int (iz 4)), some (.int (iz ((((row / 10) / 10) / 10) / 10))), some (.int (iz (orB (orB (orB (orB 0 (row % 10)) ((row / 10) % 10)) (((row / 10) / 10) % 10)) ((((row / 10) / 10) / 10) % 10)))), some (.int (iz (-1)))]) (st' := [.int (iz 4), .int (iz r_21)]) (h' := cxW (u2 z 95 1 4) (uf f 96 (iu (iu (iu (iu who_1 3 (row % 10)) 2 ((row / 10) % 10)) 1 (((row / 10) / 10) % 10)) 0 ((((row / 10) / 10) / 10) % 10))) C T rc tl) rfl ?_
                    refine Rx.ne2 rfl rfl ⟨by omega, by omega⟩ ⟨by omega, by omega⟩ (fun b26 => ?_) (fun b26 => ?_)
                    · refine Rx.walk 1 (pc' := 113) (L' := [some (.ref 95), some (.int (iz row)), some (.int (iz 4)), some (.int (iz ((((row / 10) / 10) / 10) / 10))), some (.int (iz (orB (orB (orB (orB 0 (row % 10)) ((row / 10) % 10)) (((row / 10) / 10) % 10)) ((((row / 10) / 10) / 10) % 10)))), some (.int (iz (-1)))]) (st' := [.int (iz 0)]) (h' := cxW (u2 z 95 1 4) (uf f 96 (iu (iu (iu (iu who_1 3 (row % 10)) 2 ((row / 10) % 10)) 1 (((row / 10) / 10) % 10)) 0 ((((row / 10) / 10) / 10) % 10))) C T rc tl) rfl ?_
                      refine Rx.ret rfl ?_
                      refine ⟨_, _, rfl, rfl, Or.inr ⟨rfl, ?_⟩⟩
                      rintro ⟨-, h2, h3, h4, h5⟩
                      have e := (not_congr (bc4 (show 0 ≤ (row % 10) by omega) (show (row % 10) < 4 by omega) (show 0 ≤ ((row / 10) % 10) by omega) (show ((row / 10) % 10) < 4 by omega) (show 0 ≤ (((row / 10) / 10) % 10) by omega) (show (((row / 10) / 10) % 10) < 4 by omega) (show 0 ≤ ((((row / 10) / 10) / 10) % 10) by omega) (show ((((row / 10) / 10) / 10) % 10) < 4 by omega))).mp (show ¬ bc (orB (orB (orB (orB 0 (row % 10)) ((row / 10) % 10)) (((row / 10) / 10) % 10)) ((((row / 10) / 10) / 10) % 10)) = 4 by omega)
                      simp only [ordL, List.pairwise_cons, List.mem_cons, List.not_mem_nil, or_false, forall_eq_or_imp, forall_eq, false_imp_iff, implies_true, and_true, List.Pairwise.nil] at h5
                      omega
                    · refine Rx.walk 2 (pc' := 113) (L' := [some (.ref 95), some (.int (iz row)), some (.int (iz 4)), some (.int (iz ((((row / 10) / 10) / 10) / 10))), some (.int (iz (orB (orB (orB (orB 0 (row % 10)) ((row / 10) % 10)) (((row / 10) / 10) % 10)) ((((row / 10) / 10) / 10) % 10)))), some (.int (iz (-1)))]) (st' := [.int (iz 1)]) (h' := cxW (u2 z 95 1 4) (uf f 96 (iu (iu (iu (iu who_1 3 (row % 10)) 2 ((row / 10) % 10)) 1 (((row / 10) / 10) % 10)) 0 ((((row / 10) / 10) / 10) % 10))) C T rc tl) rfl ?_
                      refine Rx.ret rfl ?_
                      have e := (bc4 (show 0 ≤ (row % 10) by omega) (show (row % 10) < 4 by omega) (show 0 ≤ ((row / 10) % 10) by omega) (show ((row / 10) % 10) < 4 by omega) (show 0 ≤ (((row / 10) / 10) % 10) by omega) (show (((row / 10) / 10) % 10) < 4 by omega) (show 0 ≤ ((((row / 10) / 10) / 10) % 10) by omega) (show ((((row / 10) / 10) / 10) % 10) < 4 by omega)).mp (show bc (orB (orB (orB (orB 0 (row % 10)) ((row / 10) % 10)) (((row / 10) / 10) % 10)) ((((row / 10) / 10) / 10) % 10)) = 4 by omega)
                      refine ⟨_, _, rfl, rfl, Or.inl ⟨rfl, ⟨by omega, by omega, by show row < 10000; omega, ?_, ?_⟩, ?_⟩⟩
                      · simp only [ordL, List.mem_cons, List.not_mem_nil, or_false, forall_eq_or_imp, forall_eq]; omega
                      · simp only [ordL, List.pairwise_cons, List.mem_cons, List.not_mem_nil, or_false, forall_eq_or_imp, forall_eq, false_imp_iff, implies_true, and_true, List.Pairwise.nil]; omega
                      · show [_, _, _, _] = [_, _, _, _]; simp [iu]
                · refine Rx.walk 1 (pc' := 64) (L' := [some (.ref 95), some (.int (iz row)), some (.int (iz 4)), some (.int (iz ((((row / 10) / 10) / 10) / 10))), some (.int (iz (orB (orB (orB 0 (row % 10)) ((row / 10) % 10)) (((row / 10) / 10) % 10)))), some (.int (iz 0))]) (st' := [.int (iz 0)]) (h' := cxW (u2 z 95 1 4) (uf f 96 (iu (iu (iu (iu who_1 3 (row % 10)) 2 ((row / 10) % 10)) 1 (((row / 10) / 10) % 10)) 0 ((((row / 10) / 10) / 10) % 10))) C T rc tl) rfl ?_
                  refine Rx.ret rfl ?_
                  refine ⟨_, _, rfl, rfl, Or.inr ⟨rfl, ?_⟩⟩
                  rintro ⟨-, h2, h3, h4, h5⟩
                  have h3 : row < 10000 := h3
                  simp only [ordL, List.mem_cons, List.not_mem_nil, or_false, forall_eq_or_imp, forall_eq] at h4
                  omega
            · refine Rx.walk 1 (pc' := 64) (L' := [some (.ref 95), some (.int (iz row)), some (.int (iz 4)), some (.int (iz (((row / 10) / 10) / 10))), some (.int (iz (orB (orB 0 (row % 10)) ((row / 10) % 10)))), some (.int (iz 1))]) (st' := [.int (iz 0)]) (h' := cxW (u2 z 95 1 4) (uf f 96 (iu (iu (iu who_1 3 (row % 10)) 2 ((row / 10) % 10)) 1 (((row / 10) / 10) % 10))) C T rc tl) rfl ?_
              refine Rx.ret rfl ?_
              refine ⟨_, _, rfl, rfl, Or.inr ⟨rfl, ?_⟩⟩
              rintro ⟨-, h2, h3, h4, h5⟩
              have h3 : row < 10000 := h3
              simp only [ordL, List.mem_cons, List.not_mem_nil, or_false, forall_eq_or_imp, forall_eq] at h4
              omega
        · refine Rx.walk 1 (pc' := 64) (L' := [some (.ref 95), some (.int (iz row)), some (.int (iz 4)), some (.int (iz ((row / 10) / 10))), some (.int (iz (orB 0 (row % 10)))), some (.int (iz 2))]) (st' := [.int (iz 0)]) (h' := cxW (u2 z 95 1 4) (uf f 96 (iu (iu who_1 3 (row % 10)) 2 ((row / 10) % 10))) C T rc tl) rfl ?_
          refine Rx.ret rfl ?_
          refine ⟨_, _, rfl, rfl, Or.inr ⟨rfl, ?_⟩⟩
          rintro ⟨-, h2, h3, h4, h5⟩
          have h3 : row < 10000 := h3
          simp only [ordL, List.mem_cons, List.not_mem_nil, or_false, forall_eq_or_imp, forall_eq] at h4
          omega
    · refine Rx.walk 1 (pc' := 64) (L' := [some (.ref 95), some (.int (iz row)), some (.int (iz 4)), some (.int (iz (row / 10))), some (.int (iz 0)), some (.int (iz 3))]) (st' := [.int (iz 0)]) (h' := cxW (u2 z 95 1 4) (uf f 96 (iu who_1 3 (row % 10))) C T rc tl) rfl ?_
      refine Rx.ret rfl ?_
      refine ⟨_, _, rfl, rfl, Or.inr ⟨rfl, ?_⟩⟩
      rintro ⟨-, h2, h3, h4, h5⟩
      have h3 : row < 10000 := h3
      simp only [ordL, List.mem_cons, List.not_mem_nil, or_false, forall_eq_or_imp, forall_eq] at h4
      omega
set_option maxRecDepth 100000 in
set_option maxHeartbeats 4000000 in
theorem x_reads4n (d : Nat) (z : Nat → Nat → Int) (f : Nat → Int → Int) (C : Nat → CuR) (T : Nat → TsR) (rc : Nat → Nat) (tl : AmH)  (nr : Int) (osz : Int) (who : Int → Int) (hr : bI ((-nr))) (h0 : 1 ≤ nr) : Rx (d + 1) m_X3_reads 0 (am_ent [.ref 95, .int (iz (-nr)), .int (iz 4)] 6) [] (cxW (u2 z 95 1 osz) (uf f 96 who) C T rc tl) (fun rv h => ∃ r : Int, ∃ who' : Int → Int, rv = some (.int (iz r)) ∧ h = cxW (u2 z 95 1 4) (uf f 96 who') C T rc tl ∧ ((r = 1 ∧ ordOK 4 (-nr) ∧ lsI 4 who' = ordL 4 (-nr)) ∨ (r = 0 ∧ ¬ ordOK 4 (-nr)))) := by
  obtain ⟨hr0, hr1⟩ := id hr
  refine Rx.walk 0 (pc' := 0) (L' := [some (.ref 95), some (.int (iz (-nr))), some (.int (iz 4)), none, none, none]) (st' := []) (h' := cxW (u2 z 95 1 osz) (uf f 96 who) C T rc tl) rfl ?_
  refine Rx.walk 2 (pc' := 2) (L' := [some (.ref 95), some (.int (iz (-nr))), some (.int (iz 4)), none, none, none]) (st' := [.int (iz 4), .ref 95]) (h' := cxW (u2 z 95 1 osz) (uf f 96 who) C T rc tl) rfl ?_
  refine Rx.callx (m' := m_X3_starts) (as := [.ref 95, .int (iz 4)]) (rest := []) rfl (x_starts _ (u2 z 95 1 osz) (uf f 96 who) C T rc tl  4 osz who (by first | assumption | omega)) (fun v3 h4 q5 => ?_)
  obtain ⟨who_1, rfl, rfl, f2⟩ := q5
  refine Rx.walk 0 (pc' := 5) (L' := [some (.ref 95), some (.int (iz (-nr))), some (.int (iz 4)), none, none, none]) (st' := []) (h' := cxW (u2 z 95 1 4) (uf f 96 who_1) C T rc tl) rfl ?_
  refine Rx.walk 7 (pc' := 15) (L' := [some (.ref 95), some (.int (iz (-nr))), some (.int (iz 4)), some (.int (iz (-nr))), some (.int (iz 0)), none]) (st' := [.int (iz 1), .int (iz 4)]) (h' := cxW (u2 z 95 1 4) (uf f 96 who_1) C T rc tl) rfl ?_
  refine Rx.isub rfl ?_
  refine Rx.walk 0 (pc' := 16) (L' := [some (.ref 95), some (.int (iz (-nr))), some (.int (iz 4)), some (.int (iz (-nr))), some (.int (iz 0)), none]) (st' := [.int (iz 3)]) (h' := cxW (u2 z 95 1 4) (uf f 96 who_1) C T rc tl) rfl ?_
  refine Rx.walk 2 (pc' := 20) (L' := [some (.ref 95), some (.int (iz (-nr))), some (.int (iz 4)), some (.int (iz (-nr))), some (.int (iz 0)), some (.int (iz 3))]) (st' := [.int (iz 3)]) (h' := cxW (u2 z 95 1 4) (uf f 96 who_1) C T rc tl) rfl ?_
  refine Rx.lt1 rfl rfl ⟨by omega, by omega⟩ (fun b6 => by omega) (fun b6 => ?_)
  refine Rx.walk 5 (pc' := 32) (L' := [some (.ref 95), some (.int (iz (-nr))), some (.int (iz 4)), some (.int (iz (-nr))), some (.int (iz 0)), some (.int (iz 3))]) (st' := [.int (iz 10), .int (iz (-nr)), .int (iz 3), .ref 96]) (h' := cxW (u2 z 95 1 4) (uf f 96 who_1) C T rc tl) rfl ?_
  refine Rx.iremN rfl ⟨by omega, by omega⟩ ⟨by omega, by omega⟩ (by omega) (by omega) ?_
  refine Rx.ias (g := who_1) (h' := cxW (u2 z 95 1 4) (uf f 96 (iu who_1 3 (-(nr % 10)))) C T rc tl) rfl rfl (by omega) (by omega) (by omega) rfl ?_
  refine Rx.walk 2 (pc' := 37) (L' := [some (.ref 95), some (.int (iz (-nr))), some (.int (iz 4)), some (.int (iz (-nr))), some (.int (iz 0)), some (.int (iz 3))]) (st' := [.int (iz 10), .int (iz (-nr))]) (h' := cxW (u2 z 95 1 4) (uf f 96 (iu who_1 3 (-(nr % 10)))) C T rc tl) rfl ?_
  refine Rx.idivN rfl ⟨by omega, by omega⟩ ⟨by omega, by omega⟩ (by omega) (by omega) ?_
  refine Rx.walk 4 (pc' := 45) (L' := [some (.ref 95), some (.int (iz (-nr))), some (.int (iz 4)), some (.int (iz (-(nr / 10)))), some (.int (iz 0)), some (.int (iz 3))]) (st' := [.int (iz 3), .ref 96]) (h' := cxW (u2 z 95 1 4) (uf f 96 (iu who_1 3 (-(nr % 10)))) C T rc tl) rfl ?_
  refine Rx.ial (g := (iu who_1 3 (-(nr % 10)))) rfl rfl (by omega) (by omega) (by omega) ?_
  rw [show ((iu who_1 3 (-(nr % 10))) 3) = (-(nr % 10)) by simp [iu]]
  refine Rx.lt1 rfl rfl ⟨by omega, by omega⟩ (fun b7 => ?_) (fun b7 => ?_)
  · refine Rx.walk 1 (pc' := 64) (L' := [some (.ref 95), some (.int (iz (-nr))), some (.int (iz 4)), some (.int (iz (-(nr / 10)))), some (.int (iz 0)), some (.int (iz 3))]) (st' := [.int (iz 0)]) (h' := cxW (u2 z 95 1 4) (uf f 96 (iu who_1 3 (-(nr % 10)))) C T rc tl) rfl ?_
    refine Rx.ret rfl ?_
    exact ⟨_, _, rfl, rfl, Or.inr ⟨rfl, fun q => by have := q.2.1; omega⟩⟩
  · refine Rx.walk 3 (pc' := 55) (L' := [some (.ref 95), some (.int (iz (-nr))), some (.int (iz 4)), some (.int (iz (-(nr / 10)))), some (.int (iz 0)), some (.int (iz 3))]) (st' := [.int (iz 3), .ref 96]) (h' := cxW (u2 z 95 1 4) (uf f 96 (iu who_1 3 (-(nr % 10)))) C T rc tl) rfl ?_
    refine Rx.ial (g := (iu who_1 3 (-(nr % 10)))) rfl rfl (by omega) (by omega) (by omega) ?_
    rw [show ((iu who_1 3 (-(nr % 10))) 3) = (-(nr % 10)) by simp [iu]]
    refine Rx.walk 2 (pc' := 60) (L' := [some (.ref 95), some (.int (iz (-nr))), some (.int (iz 4)), some (.int (iz (-(nr / 10)))), some (.int (iz 0)), some (.int (iz 3))]) (st' := [.int (iz 4), .int (iz (-(nr % 10)))]) (h' := cxW (u2 z 95 1 4) (uf f 96 (iu who_1 3 (-(nr % 10)))) C T rc tl) rfl ?_
    refine Rx.lt2 rfl rfl ⟨by omega, by omega⟩ ⟨by omega, by omega⟩ (fun b8 => ?_) (fun b8 => ?_)
    · refine Rx.walk 5 (pc' := 74) (L' := [some (.ref 95), some (.int (iz (-nr))), some (.int (iz 4)), some (.int (iz (-(nr / 10)))), some (.int (iz 0)), some (.int (iz 3))]) (st' := [.int (iz 3), .ref 96, .int (iz 1), .int (iz 0)]) (h' := cxW (u2 z 95 1 4) (uf f 96 (iu who_1 3 (-(nr % 10)))) C T rc tl) rfl ?_
      refine Rx.ial (g := (iu who_1 3 (-(nr % 10)))) rfl rfl (by omega) (by omega) (by omega) ?_
      rw [show ((iu who_1 3 (-(nr % 10))) 3) = (-(nr % 10)) by simp [iu]]
      refine Rx.ishl (c := (p2 (-(nr % 10)))) rfl (p2_shl (by omega) (by omega)) ?_
      refine Rx.ior (c := (orB 0 (-(nr % 10)))) rfl (orB_or (by omega) (by omega) (by omega) (by omega)) ?_
      have ob8 := orB_b (s := 0) (e := (-(nr % 10))) (by omega) (by omega) (by omega) (by omega)
      refine Rx.walk 1 (pc' := 79) (L' := [some (.ref 95), some (.int (iz (-nr))), some (.int (iz 4)), some (.int (iz (-(nr / 10)))), some (.int (iz (orB 0 (-(nr % 10))))), some (.int (iz 3))]) (st' := []) (h' := cxW (u2 z 95 1 4) (uf f 96 (iu who_1 3 (-(nr % 10)))) C T rc tl) rfl ?_
      refine Rx.iinc (b := -1) rfl rfl rfl ?_
      refine Rx.walk 0 (pc' := 82) (L' := [some (.ref 95), some (.int (iz (-nr))), some (.int (iz 4)), some (.int (iz (-(nr / 10)))), some (.int (iz (orB 0 (-(nr % 10))))), some (.int (iz 2))]) (st' := []) (h' := cxW (u2 z 95 1 4) (uf f 96 (iu who_1 3 (-(nr % 10)))) C T rc tl) rfl ?_
      refine Rx.walk 2 (pc' := 20) (L' := [some (.ref 95), some (.int (iz (-nr))), some (.int (iz 4)), some (.int (iz (-(nr / 10)))), some (.int (iz (orB 0 (-(nr % 10))))), some (.int (iz 2))]) (st' := [.int (iz 2)]) (h' := cxW (u2 z 95 1 4) (uf f 96 (iu who_1 3 (-(nr % 10)))) C T rc tl) rfl ?_
      refine Rx.lt1 rfl rfl ⟨by omega, by omega⟩ (fun b9 => by omega) (fun b9 => ?_)
      refine Rx.walk 5 (pc' := 32) (L' := [some (.ref 95), some (.int (iz (-nr))), some (.int (iz 4)), some (.int (iz (-(nr / 10)))), some (.int (iz (orB 0 (-(nr % 10))))), some (.int (iz 2))]) (st' := [.int (iz 10), .int (iz (-(nr / 10))), .int (iz 2), .ref 96]) (h' := cxW (u2 z 95 1 4) (uf f 96 (iu who_1 3 (-(nr % 10)))) C T rc tl) rfl ?_
      refine Rx.iremN rfl ⟨by omega, by omega⟩ ⟨by omega, by omega⟩ (by omega) (by omega) ?_
      refine Rx.ias (g := (iu who_1 3 (-(nr % 10)))) (h' := cxW (u2 z 95 1 4) (uf f 96 (iu (iu who_1 3 (-(nr % 10))) 2 (-((nr / 10) % 10)))) C T rc tl) rfl rfl (by omega) (by omega) (by omega) rfl ?_
      refine Rx.walk 2 (pc' := 37) (L' := [some (.ref 95), some (.int (iz (-nr))), some (.int (iz 4)), some (.int (iz (-(nr / 10)))), some (.int (iz (orB 0 (-(nr % 10))))), some (.int (iz 2))]) (st' := [.int (iz 10), .int (iz (-(nr / 10)))]) (h' := cxW (u2 z 95 1 4) (uf f 96 (iu (iu who_1 3 (-(nr % 10))) 2 (-((nr / 10) % 10)))) C T rc tl) rfl ?_
      refine Rx.idivN rfl ⟨by omega, by omega⟩ ⟨by omega, by omega⟩ (by omega) (by omega) ?_
      refine Rx.walk 4 (pc' := 45) (L' := [some (.ref 95), some (.int (iz (-nr))), some (.int (iz 4)), some (.int (iz (-((nr / 10) / 10)))), some (.int (iz (orB 0 (-(nr % 10))))), some (.int (iz 2))]) (st' := [.int (iz 2), .ref 96]) (h' := cxW (u2 z 95 1 4) (uf f 96 (iu (iu who_1 3 (-(nr % 10))) 2 (-((nr / 10) % 10)))) C T rc tl) rfl ?_
      refine Rx.ial (g := (iu (iu who_1 3 (-(nr % 10))) 2 (-((nr / 10) % 10)))) rfl rfl (by omega) (by omega) (by omega) ?_
      rw [show ((iu (iu who_1 3 (-(nr % 10))) 2 (-((nr / 10) % 10))) 2) = (-((nr / 10) % 10)) by simp [iu]]
      refine Rx.lt1 rfl rfl ⟨by omega, by omega⟩ (fun b10 => ?_) (fun b10 => ?_)
      · refine Rx.walk 1 (pc' := 64) (L' := [some (.ref 95), some (.int (iz (-nr))), some (.int (iz 4)), some (.int (iz (-((nr / 10) / 10)))), some (.int (iz (orB 0 (-(nr % 10))))), some (.int (iz 2))]) (st' := [.int (iz 0)]) (h' := cxW (u2 z 95 1 4) (uf f 96 (iu (iu who_1 3 (-(nr % 10))) 2 (-((nr / 10) % 10)))) C T rc tl) rfl ?_
        refine Rx.ret rfl ?_
        exact ⟨_, _, rfl, rfl, Or.inr ⟨rfl, fun q => by have := q.2.1; omega⟩⟩
      · refine Rx.walk 3 (pc' := 55) (L' := [some (.ref 95), some (.int (iz (-nr))), some (.int (iz 4)), some (.int (iz (-((nr / 10) / 10)))), some (.int (iz (orB 0 (-(nr % 10))))), some (.int (iz 2))]) (st' := [.int (iz 2), .ref 96]) (h' := cxW (u2 z 95 1 4) (uf f 96 (iu (iu who_1 3 (-(nr % 10))) 2 (-((nr / 10) % 10)))) C T rc tl) rfl ?_
        refine Rx.ial (g := (iu (iu who_1 3 (-(nr % 10))) 2 (-((nr / 10) % 10)))) rfl rfl (by omega) (by omega) (by omega) ?_
        rw [show ((iu (iu who_1 3 (-(nr % 10))) 2 (-((nr / 10) % 10))) 2) = (-((nr / 10) % 10)) by simp [iu]]
        refine Rx.walk 2 (pc' := 60) (L' := [some (.ref 95), some (.int (iz (-nr))), some (.int (iz 4)), some (.int (iz (-((nr / 10) / 10)))), some (.int (iz (orB 0 (-(nr % 10))))), some (.int (iz 2))]) (st' := [.int (iz 4), .int (iz (-((nr / 10) % 10)))]) (h' := cxW (u2 z 95 1 4) (uf f 96 (iu (iu who_1 3 (-(nr % 10))) 2 (-((nr / 10) % 10)))) C T rc tl) rfl ?_
        refine Rx.lt2 rfl rfl ⟨by omega, by omega⟩ ⟨by omega, by omega⟩ (fun b11 => ?_) (fun b11 => ?_)
        · refine Rx.walk 5 (pc' := 74) (L' := [some (.ref 95), some (.int (iz (-nr))), some (.int (iz 4)), some (.int (iz (-((nr / 10) / 10)))), some (.int (iz (orB 0 (-(nr % 10))))), some (.int (iz 2))]) (st' := [.int (iz 2), .ref 96, .int (iz 1), .int (iz (orB 0 (-(nr % 10))))]) (h' := cxW (u2 z 95 1 4) (uf f 96 (iu (iu who_1 3 (-(nr % 10))) 2 (-((nr / 10) % 10)))) C T rc tl) rfl ?_
          refine Rx.ial (g := (iu (iu who_1 3 (-(nr % 10))) 2 (-((nr / 10) % 10)))) rfl rfl (by omega) (by omega) (by omega) ?_
          rw [show ((iu (iu who_1 3 (-(nr % 10))) 2 (-((nr / 10) % 10))) 2) = (-((nr / 10) % 10)) by simp [iu]]
          refine Rx.ishl (c := (p2 (-((nr / 10) % 10)))) rfl (p2_shl (by omega) (by omega)) ?_
          refine Rx.ior (c := (orB (orB 0 (-(nr % 10))) (-((nr / 10) % 10)))) rfl (orB_or (by omega) (by omega) (by omega) (by omega)) ?_
          have ob11 := orB_b (s := (orB 0 (-(nr % 10)))) (e := (-((nr / 10) % 10))) (by omega) (by omega) (by omega) (by omega)
          refine Rx.walk 1 (pc' := 79) (L' := [some (.ref 95), some (.int (iz (-nr))), some (.int (iz 4)), some (.int (iz (-((nr / 10) / 10)))), some (.int (iz (orB (orB 0 (-(nr % 10))) (-((nr / 10) % 10))))), some (.int (iz 2))]) (st' := []) (h' := cxW (u2 z 95 1 4) (uf f 96 (iu (iu who_1 3 (-(nr % 10))) 2 (-((nr / 10) % 10)))) C T rc tl) rfl ?_
          refine Rx.iinc (b := -1) rfl rfl rfl ?_
          refine Rx.walk 0 (pc' := 82) (L' := [some (.ref 95), some (.int (iz (-nr))), some (.int (iz 4)), some (.int (iz (-((nr / 10) / 10)))), some (.int (iz (orB (orB 0 (-(nr % 10))) (-((nr / 10) % 10))))), some (.int (iz 1))]) (st' := []) (h' := cxW (u2 z 95 1 4) (uf f 96 (iu (iu who_1 3 (-(nr % 10))) 2 (-((nr / 10) % 10)))) C T rc tl) rfl ?_
          refine Rx.walk 2 (pc' := 20) (L' := [some (.ref 95), some (.int (iz (-nr))), some (.int (iz 4)), some (.int (iz (-((nr / 10) / 10)))), some (.int (iz (orB (orB 0 (-(nr % 10))) (-((nr / 10) % 10))))), some (.int (iz 1))]) (st' := [.int (iz 1)]) (h' := cxW (u2 z 95 1 4) (uf f 96 (iu (iu who_1 3 (-(nr % 10))) 2 (-((nr / 10) % 10)))) C T rc tl) rfl ?_
          refine Rx.lt1 rfl rfl ⟨by omega, by omega⟩ (fun b12 => by omega) (fun b12 => ?_)
          refine Rx.walk 5 (pc' := 32) (L' := [some (.ref 95), some (.int (iz (-nr))), some (.int (iz 4)), some (.int (iz (-((nr / 10) / 10)))), some (.int (iz (orB (orB 0 (-(nr % 10))) (-((nr / 10) % 10))))), some (.int (iz 1))]) (st' := [.int (iz 10), .int (iz (-((nr / 10) / 10))), .int (iz 1), .ref 96]) (h' := cxW (u2 z 95 1 4) (uf f 96 (iu (iu who_1 3 (-(nr % 10))) 2 (-((nr / 10) % 10)))) C T rc tl) rfl ?_
          refine Rx.iremN rfl ⟨by omega, by omega⟩ ⟨by omega, by omega⟩ (by omega) (by omega) ?_
          refine Rx.ias (g := (iu (iu who_1 3 (-(nr % 10))) 2 (-((nr / 10) % 10)))) (h' := cxW (u2 z 95 1 4) (uf f 96 (iu (iu (iu who_1 3 (-(nr % 10))) 2 (-((nr / 10) % 10))) 1 (-(((nr / 10) / 10) % 10)))) C T rc tl) rfl rfl (by omega) (by omega) (by omega) rfl ?_
          refine Rx.walk 2 (pc' := 37) (L' := [some (.ref 95), some (.int (iz (-nr))), some (.int (iz 4)), some (.int (iz (-((nr / 10) / 10)))), some (.int (iz (orB (orB 0 (-(nr % 10))) (-((nr / 10) % 10))))), some (.int (iz 1))]) (st' := [.int (iz 10), .int (iz (-((nr / 10) / 10)))]) (h' := cxW (u2 z 95 1 4) (uf f 96 (iu (iu (iu who_1 3 (-(nr % 10))) 2 (-((nr / 10) % 10))) 1 (-(((nr / 10) / 10) % 10)))) C T rc tl) rfl ?_
          refine Rx.idivN rfl ⟨by omega, by omega⟩ ⟨by omega, by omega⟩ (by omega) (by omega) ?_
          refine Rx.walk 4 (pc' := 45) (L' := [some (.ref 95), some (.int (iz (-nr))), some (.int (iz 4)), some (.int (iz (-(((nr / 10) / 10) / 10)))), some (.int (iz (orB (orB 0 (-(nr % 10))) (-((nr / 10) % 10))))), some (.int (iz 1))]) (st' := [.int (iz 1), .ref 96]) (h' := cxW (u2 z 95 1 4) (uf f 96 (iu (iu (iu who_1 3 (-(nr % 10))) 2 (-((nr / 10) % 10))) 1 (-(((nr / 10) / 10) % 10)))) C T rc tl) rfl ?_
          refine Rx.ial (g := (iu (iu (iu who_1 3 (-(nr % 10))) 2 (-((nr / 10) % 10))) 1 (-(((nr / 10) / 10) % 10)))) rfl rfl (by omega) (by omega) (by omega) ?_
          rw [show ((iu (iu (iu who_1 3 (-(nr % 10))) 2 (-((nr / 10) % 10))) 1 (-(((nr / 10) / 10) % 10))) 1) = (-(((nr / 10) / 10) % 10)) by simp [iu]]
          refine Rx.lt1 rfl rfl ⟨by omega, by omega⟩ (fun b13 => ?_) (fun b13 => ?_)
          · refine Rx.walk 1 (pc' := 64) (L' := [some (.ref 95), some (.int (iz (-nr))), some (.int (iz 4)), some (.int (iz (-(((nr / 10) / 10) / 10)))), some (.int (iz (orB (orB 0 (-(nr % 10))) (-((nr / 10) % 10))))), some (.int (iz 1))]) (st' := [.int (iz 0)]) (h' := cxW (u2 z 95 1 4) (uf f 96 (iu (iu (iu who_1 3 (-(nr % 10))) 2 (-((nr / 10) % 10))) 1 (-(((nr / 10) / 10) % 10)))) C T rc tl) rfl ?_
            refine Rx.ret rfl ?_
            exact ⟨_, _, rfl, rfl, Or.inr ⟨rfl, fun q => by have := q.2.1; omega⟩⟩
          · refine Rx.walk 3 (pc' := 55) (L' := [some (.ref 95), some (.int (iz (-nr))), some (.int (iz 4)), some (.int (iz (-(((nr / 10) / 10) / 10)))), some (.int (iz (orB (orB 0 (-(nr % 10))) (-((nr / 10) % 10))))), some (.int (iz 1))]) (st' := [.int (iz 1), .ref 96]) (h' := cxW (u2 z 95 1 4) (uf f 96 (iu (iu (iu who_1 3 (-(nr % 10))) 2 (-((nr / 10) % 10))) 1 (-(((nr / 10) / 10) % 10)))) C T rc tl) rfl ?_
            refine Rx.ial (g := (iu (iu (iu who_1 3 (-(nr % 10))) 2 (-((nr / 10) % 10))) 1 (-(((nr / 10) / 10) % 10)))) rfl rfl (by omega) (by omega) (by omega) ?_
            rw [show ((iu (iu (iu who_1 3 (-(nr % 10))) 2 (-((nr / 10) % 10))) 1 (-(((nr / 10) / 10) % 10))) 1) = (-(((nr / 10) / 10) % 10)) by simp [iu]]
            refine Rx.walk 2 (pc' := 60) (L' := [some (.ref 95), some (.int (iz (-nr))), some (.int (iz 4)), some (.int (iz (-(((nr / 10) / 10) / 10)))), some (.int (iz (orB (orB 0 (-(nr % 10))) (-((nr / 10) % 10))))), some (.int (iz 1))]) (st' := [.int (iz 4), .int (iz (-(((nr / 10) / 10) % 10)))]) (h' := cxW (u2 z 95 1 4) (uf f 96 (iu (iu (iu who_1 3 (-(nr % 10))) 2 (-((nr / 10) % 10))) 1 (-(((nr / 10) / 10) % 10)))) C T rc tl) rfl ?_
            refine Rx.lt2 rfl rfl ⟨by omega, by omega⟩ ⟨by omega, by omega⟩ (fun b14 => ?_) (fun b14 => ?_)
            · refine Rx.walk 5 (pc' := 74) (L' := [some (.ref 95), some (.int (iz (-nr))), some (.int (iz 4)), some (.int (iz (-(((nr / 10) / 10) / 10)))), some (.int (iz (orB (orB 0 (-(nr % 10))) (-((nr / 10) % 10))))), some (.int (iz 1))]) (st' := [.int (iz 1), .ref 96, .int (iz 1), .int (iz (orB (orB 0 (-(nr % 10))) (-((nr / 10) % 10))))]) (h' := cxW (u2 z 95 1 4) (uf f 96 (iu (iu (iu who_1 3 (-(nr % 10))) 2 (-((nr / 10) % 10))) 1 (-(((nr / 10) / 10) % 10)))) C T rc tl) rfl ?_
              refine Rx.ial (g := (iu (iu (iu who_1 3 (-(nr % 10))) 2 (-((nr / 10) % 10))) 1 (-(((nr / 10) / 10) % 10)))) rfl rfl (by omega) (by omega) (by omega) ?_
              rw [show ((iu (iu (iu who_1 3 (-(nr % 10))) 2 (-((nr / 10) % 10))) 1 (-(((nr / 10) / 10) % 10))) 1) = (-(((nr / 10) / 10) % 10)) by simp [iu]]
              refine Rx.ishl (c := (p2 (-(((nr / 10) / 10) % 10)))) rfl (p2_shl (by omega) (by omega)) ?_
              refine Rx.ior (c := (orB (orB (orB 0 (-(nr % 10))) (-((nr / 10) % 10))) (-(((nr / 10) / 10) % 10)))) rfl (orB_or (by omega) (by omega) (by omega) (by omega)) ?_
              have ob14 := orB_b (s := (orB (orB 0 (-(nr % 10))) (-((nr / 10) % 10)))) (e := (-(((nr / 10) / 10) % 10))) (by omega) (by omega) (by omega) (by omega)
              refine Rx.walk 1 (pc' := 79) (L' := [some (.ref 95), some (.int (iz (-nr))), some (.int (iz 4)), some (.int (iz (-(((nr / 10) / 10) / 10)))), some (.int (iz (orB (orB (orB 0 (-(nr % 10))) (-((nr / 10) % 10))) (-(((nr / 10) / 10) % 10))))), some (.int (iz 1))]) (st' := []) (h' := cxW (u2 z 95 1 4) (uf f 96 (iu (iu (iu who_1 3 (-(nr % 10))) 2 (-((nr / 10) % 10))) 1 (-(((nr / 10) / 10) % 10)))) C T rc tl) rfl ?_
              refine Rx.iinc (b := -1) rfl rfl rfl ?_
              refine Rx.walk 0 (pc' := 82) (L' := [some (.ref 95), some (.int (iz (-nr))), some (.int (iz 4)), some (.int (iz (-(((nr / 10) / 10) / 10)))), some (.int (iz (orB (orB (orB 0 (-(nr % 10))) (-((nr / 10) % 10))) (-(((nr / 10) / 10) % 10))))), some (.int (iz 0))]) (st' := []) (h' := cxW (u2 z 95 1 4) (uf f 96 (iu (iu (iu who_1 3 (-(nr % 10))) 2 (-((nr / 10) % 10))) 1 (-(((nr / 10) / 10) % 10)))) C T rc tl) rfl ?_
              refine Rx.walk 2 (pc' := 20) (L' := [some (.ref 95), some (.int (iz (-nr))), some (.int (iz 4)), some (.int (iz (-(((nr / 10) / 10) / 10)))), some (.int (iz (orB (orB (orB 0 (-(nr % 10))) (-((nr / 10) % 10))) (-(((nr / 10) / 10) % 10))))), some (.int (iz 0))]) (st' := [.int (iz 0)]) (h' := cxW (u2 z 95 1 4) (uf f 96 (iu (iu (iu who_1 3 (-(nr % 10))) 2 (-((nr / 10) % 10))) 1 (-(((nr / 10) / 10) % 10)))) C T rc tl) rfl ?_
              refine Rx.lt1 rfl rfl ⟨by omega, by omega⟩ (fun b15 => by omega) (fun b15 => ?_)
              refine Rx.walk 5 (pc' := 32) (L' := [some (.ref 95), some (.int (iz (-nr))), some (.int (iz 4)), some (.int (iz (-(((nr / 10) / 10) / 10)))), some (.int (iz (orB (orB (orB 0 (-(nr % 10))) (-((nr / 10) % 10))) (-(((nr / 10) / 10) % 10))))), some (.int (iz 0))]) (st' := [.int (iz 10), .int (iz (-(((nr / 10) / 10) / 10))), .int (iz 0), .ref 96]) (h' := cxW (u2 z 95 1 4) (uf f 96 (iu (iu (iu who_1 3 (-(nr % 10))) 2 (-((nr / 10) % 10))) 1 (-(((nr / 10) / 10) % 10)))) C T rc tl) rfl ?_
              refine Rx.iremN rfl ⟨by omega, by omega⟩ ⟨by omega, by omega⟩ (by omega) (by omega) ?_
              refine Rx.ias (g := (iu (iu (iu who_1 3 (-(nr % 10))) 2 (-((nr / 10) % 10))) 1 (-(((nr / 10) / 10) % 10)))) (h' := cxW (u2 z 95 1 4) (uf f 96 (iu (iu (iu (iu who_1 3 (-(nr % 10))) 2 (-((nr / 10) % 10))) 1 (-(((nr / 10) / 10) % 10))) 0 (-((((nr / 10) / 10) / 10) % 10)))) C T rc tl) rfl rfl (by omega) (by omega) (by omega) rfl ?_
              refine Rx.walk 2 (pc' := 37) (L' := [some (.ref 95), some (.int (iz (-nr))), some (.int (iz 4)), some (.int (iz (-(((nr / 10) / 10) / 10)))), some (.int (iz (orB (orB (orB 0 (-(nr % 10))) (-((nr / 10) % 10))) (-(((nr / 10) / 10) % 10))))), some (.int (iz 0))]) (st' := [.int (iz 10), .int (iz (-(((nr / 10) / 10) / 10)))]) (h' := cxW (u2 z 95 1 4) (uf f 96 (iu (iu (iu (iu who_1 3 (-(nr % 10))) 2 (-((nr / 10) % 10))) 1 (-(((nr / 10) / 10) % 10))) 0 (-((((nr / 10) / 10) / 10) % 10)))) C T rc tl) rfl ?_
              refine Rx.idivN rfl ⟨by omega, by omega⟩ ⟨by omega, by omega⟩ (by omega) (by omega) ?_
              refine Rx.walk 4 (pc' := 45) (L' := [some (.ref 95), some (.int (iz (-nr))), some (.int (iz 4)), some (.int (iz (-((((nr / 10) / 10) / 10) / 10)))), some (.int (iz (orB (orB (orB 0 (-(nr % 10))) (-((nr / 10) % 10))) (-(((nr / 10) / 10) % 10))))), some (.int (iz 0))]) (st' := [.int (iz 0), .ref 96]) (h' := cxW (u2 z 95 1 4) (uf f 96 (iu (iu (iu (iu who_1 3 (-(nr % 10))) 2 (-((nr / 10) % 10))) 1 (-(((nr / 10) / 10) % 10))) 0 (-((((nr / 10) / 10) / 10) % 10)))) C T rc tl) rfl ?_
              refine Rx.ial (g := (iu (iu (iu (iu who_1 3 (-(nr % 10))) 2 (-((nr / 10) % 10))) 1 (-(((nr / 10) / 10) % 10))) 0 (-((((nr / 10) / 10) / 10) % 10)))) rfl rfl (by omega) (by omega) (by omega) ?_
              rw [show ((iu (iu (iu (iu who_1 3 (-(nr % 10))) 2 (-((nr / 10) % 10))) 1 (-(((nr / 10) / 10) % 10))) 0 (-((((nr / 10) / 10) / 10) % 10))) 0) = (-((((nr / 10) / 10) / 10) % 10)) by simp [iu]]
              refine Rx.lt1 rfl rfl ⟨by omega, by omega⟩ (fun b16 => ?_) (fun b16 => ?_)
              · refine Rx.walk 1 (pc' := 64) (L' := [some (.ref 95), some (.int (iz (-nr))), some (.int (iz 4)), some (.int (iz (-((((nr / 10) / 10) / 10) / 10)))), some (.int (iz (orB (orB (orB 0 (-(nr % 10))) (-((nr / 10) % 10))) (-(((nr / 10) / 10) % 10))))), some (.int (iz 0))]) (st' := [.int (iz 0)]) (h' := cxW (u2 z 95 1 4) (uf f 96 (iu (iu (iu (iu who_1 3 (-(nr % 10))) 2 (-((nr / 10) % 10))) 1 (-(((nr / 10) / 10) % 10))) 0 (-((((nr / 10) / 10) / 10) % 10)))) C T rc tl) rfl ?_
                refine Rx.ret rfl ?_
                exact ⟨_, _, rfl, rfl, Or.inr ⟨rfl, fun q => by have := q.2.1; omega⟩⟩
              · refine Rx.walk 3 (pc' := 55) (L' := [some (.ref 95), some (.int (iz (-nr))), some (.int (iz 4)), some (.int (iz (-((((nr / 10) / 10) / 10) / 10)))), some (.int (iz (orB (orB (orB 0 (-(nr % 10))) (-((nr / 10) % 10))) (-(((nr / 10) / 10) % 10))))), some (.int (iz 0))]) (st' := [.int (iz 0), .ref 96]) (h' := cxW (u2 z 95 1 4) (uf f 96 (iu (iu (iu (iu who_1 3 (-(nr % 10))) 2 (-((nr / 10) % 10))) 1 (-(((nr / 10) / 10) % 10))) 0 (-((((nr / 10) / 10) / 10) % 10)))) C T rc tl) rfl ?_
                refine Rx.ial (g := (iu (iu (iu (iu who_1 3 (-(nr % 10))) 2 (-((nr / 10) % 10))) 1 (-(((nr / 10) / 10) % 10))) 0 (-((((nr / 10) / 10) / 10) % 10)))) rfl rfl (by omega) (by omega) (by omega) ?_
                rw [show ((iu (iu (iu (iu who_1 3 (-(nr % 10))) 2 (-((nr / 10) % 10))) 1 (-(((nr / 10) / 10) % 10))) 0 (-((((nr / 10) / 10) / 10) % 10))) 0) = (-((((nr / 10) / 10) / 10) % 10)) by simp [iu]]
                refine Rx.walk 2 (pc' := 60) (L' := [some (.ref 95), some (.int (iz (-nr))), some (.int (iz 4)), some (.int (iz (-((((nr / 10) / 10) / 10) / 10)))), some (.int (iz (orB (orB (orB 0 (-(nr % 10))) (-((nr / 10) % 10))) (-(((nr / 10) / 10) % 10))))), some (.int (iz 0))]) (st' := [.int (iz 4), .int (iz (-((((nr / 10) / 10) / 10) % 10)))]) (h' := cxW (u2 z 95 1 4) (uf f 96 (iu (iu (iu (iu who_1 3 (-(nr % 10))) 2 (-((nr / 10) % 10))) 1 (-(((nr / 10) / 10) % 10))) 0 (-((((nr / 10) / 10) / 10) % 10)))) C T rc tl) rfl ?_
                refine Rx.lt2 rfl rfl ⟨by omega, by omega⟩ ⟨by omega, by omega⟩ (fun b17 => ?_) (fun b17 => ?_)
                · refine Rx.walk 5 (pc' := 74) (L' := [some (.ref 95), some (.int (iz (-nr))), some (.int (iz 4)), some (.int (iz (-((((nr / 10) / 10) / 10) / 10)))), some (.int (iz (orB (orB (orB 0 (-(nr % 10))) (-((nr / 10) % 10))) (-(((nr / 10) / 10) % 10))))), some (.int (iz 0))]) (st' := [.int (iz 0), .ref 96, .int (iz 1), .int (iz (orB (orB (orB 0 (-(nr % 10))) (-((nr / 10) % 10))) (-(((nr / 10) / 10) % 10))))]) (h' := cxW (u2 z 95 1 4) (uf f 96 (iu (iu (iu (iu who_1 3 (-(nr % 10))) 2 (-((nr / 10) % 10))) 1 (-(((nr / 10) / 10) % 10))) 0 (-((((nr / 10) / 10) / 10) % 10)))) C T rc tl) rfl ?_
                  refine Rx.ial (g := (iu (iu (iu (iu who_1 3 (-(nr % 10))) 2 (-((nr / 10) % 10))) 1 (-(((nr / 10) / 10) % 10))) 0 (-((((nr / 10) / 10) / 10) % 10)))) rfl rfl (by omega) (by omega) (by omega) ?_
                  rw [show ((iu (iu (iu (iu who_1 3 (-(nr % 10))) 2 (-((nr / 10) % 10))) 1 (-(((nr / 10) / 10) % 10))) 0 (-((((nr / 10) / 10) / 10) % 10))) 0) = (-((((nr / 10) / 10) / 10) % 10)) by simp [iu]]
                  refine Rx.ishl (c := (p2 (-((((nr / 10) / 10) / 10) % 10)))) rfl (p2_shl (by omega) (by omega)) ?_
                  refine Rx.ior (c := (orB (orB (orB (orB 0 (-(nr % 10))) (-((nr / 10) % 10))) (-(((nr / 10) / 10) % 10))) (-((((nr / 10) / 10) / 10) % 10)))) rfl (orB_or (by omega) (by omega) (by omega) (by omega)) ?_
                  have ob17 := orB_b (s := (orB (orB (orB 0 (-(nr % 10))) (-((nr / 10) % 10))) (-(((nr / 10) / 10) % 10)))) (e := (-((((nr / 10) / 10) / 10) % 10))) (by omega) (by omega) (by omega) (by omega)
                  refine Rx.walk 1 (pc' := 79) (L' := [some (.ref 95), some (.int (iz (-nr))), some (.int (iz 4)), some (.int (iz (-((((nr / 10) / 10) / 10) / 10)))), some (.int (iz (orB (orB (orB (orB 0 (-(nr % 10))) (-((nr / 10) % 10))) (-(((nr / 10) / 10) % 10))) (-((((nr / 10) / 10) / 10) % 10))))), some (.int (iz 0))]) (st' := []) (h' := cxW (u2 z 95 1 4) (uf f 96 (iu (iu (iu (iu who_1 3 (-(nr % 10))) 2 (-((nr / 10) % 10))) 1 (-(((nr / 10) / 10) % 10))) 0 (-((((nr / 10) / 10) / 10) % 10)))) C T rc tl) rfl ?_
                  refine Rx.iinc (b := -1) rfl rfl rfl ?_
                  refine Rx.walk 0 (pc' := 82) (L' := [some (.ref 95), some (.int (iz (-nr))), some (.int (iz 4)), some (.int (iz (-((((nr / 10) / 10) / 10) / 10)))), some (.int (iz (orB (orB (orB (orB 0 (-(nr % 10))) (-((nr / 10) % 10))) (-(((nr / 10) / 10) % 10))) (-((((nr / 10) / 10) / 10) % 10))))), some (.int (iz (-1)))]) (st' := []) (h' := cxW (u2 z 95 1 4) (uf f 96 (iu (iu (iu (iu who_1 3 (-(nr % 10))) 2 (-((nr / 10) % 10))) 1 (-(((nr / 10) / 10) % 10))) 0 (-((((nr / 10) / 10) / 10) % 10)))) C T rc tl) rfl ?_
                  refine Rx.walk 2 (pc' := 20) (L' := [some (.ref 95), some (.int (iz (-nr))), some (.int (iz 4)), some (.int (iz (-((((nr / 10) / 10) / 10) / 10)))), some (.int (iz (orB (orB (orB (orB 0 (-(nr % 10))) (-((nr / 10) % 10))) (-(((nr / 10) / 10) % 10))) (-((((nr / 10) / 10) / 10) % 10))))), some (.int (iz (-1)))]) (st' := [.int (iz (-1))]) (h' := cxW (u2 z 95 1 4) (uf f 96 (iu (iu (iu (iu who_1 3 (-(nr % 10))) 2 (-((nr / 10) % 10))) 1 (-(((nr / 10) / 10) % 10))) 0 (-((((nr / 10) / 10) / 10) % 10)))) C T rc tl) rfl ?_
                  refine Rx.lt1 rfl rfl ⟨by omega, by omega⟩ (fun b18 => ?_) (fun b18 => by omega)
                  refine Rx.walk 2 (pc' := 89) (L' := [some (.ref 95), some (.int (iz (-nr))), some (.int (iz 4)), some (.int (iz (-((((nr / 10) / 10) / 10) / 10)))), some (.int (iz (orB (orB (orB (orB 0 (-(nr % 10))) (-((nr / 10) % 10))) (-(((nr / 10) / 10) % 10))) (-((((nr / 10) / 10) / 10) % 10))))), some (.int (iz (-1)))]) (st' := [.int (iz 4)]) (h' := cxW (u2 z 95 1 4) (uf f 96 (iu (iu (iu (iu who_1 3 (-(nr % 10))) 2 (-((nr / 10) % 10))) 1 (-(((nr / 10) / 10) % 10))) 0 (-((((nr / 10) / 10) / 10) % 10)))) C T rc tl) rfl ?_
                  refine Rx.le1 rfl rfl ⟨by omega, by omega⟩ (fun b19 => by omega) (fun b19 => ?_)
                  refine Rx.walk 1 (pc' := 93) (L' := [some (.ref 95), some (.int (iz (-nr))), some (.int (iz 4)), some (.int (iz (-((((nr / 10) / 10) / 10) / 10)))), some (.int (iz (orB (orB (orB (orB 0 (-(nr % 10))) (-((nr / 10) % 10))) (-(((nr / 10) / 10) % 10))) (-((((nr / 10) / 10) / 10) % 10))))), some (.int (iz (-1)))]) (st' := [.int (iz (-((((nr / 10) / 10) / 10) / 10)))]) (h' := cxW (u2 z 95 1 4) (uf f 96 (iu (iu (iu (iu who_1 3 (-(nr % 10))) 2 (-((nr / 10) % 10))) 1 (-(((nr / 10) / 10) % 10))) 0 (-((((nr / 10) / 10) / 10) % 10)))) C T rc tl) rfl ?_
                  refine Rx.ne1 rfl rfl ⟨by omega, by omega⟩ (fun b20 => ?_) (fun b20 => ?_)
                  · refine Rx.walk 1 (pc' := 113) (L' := [some (.ref 95), some (.int (iz (-nr))), some (.int (iz 4)), some (.int (iz (-((((nr / 10) / 10) / 10) / 10)))), some (.int (iz (orB (orB (orB (orB 0 (-(nr % 10))) (-((nr / 10) % 10))) (-(((nr / 10) / 10) % 10))) (-((((nr / 10) / 10) / 10) % 10))))), some (.int (iz (-1)))]) (st' := [.int (iz 0)]) (h' := cxW (u2 z 95 1 4) (uf f 96 (iu (iu (iu (iu who_1 3 (-(nr % 10))) 2 (-((nr / 10) % 10))) 1 (-(((nr / 10) / 10) % 10))) 0 (-((((nr / 10) / 10) / 10) % 10)))) C T rc tl) rfl ?_
                    refine Rx.ret rfl ?_
                    exact ⟨_, _, rfl, rfl, Or.inr ⟨rfl, fun q => by have := q.2.1; omega⟩⟩
                  · refine Rx.walk 1 (pc' := 98) (L' := [some (.ref 95), some (.int (iz (-nr))), some (.int (iz 4)), some (.int (iz (-((((nr / 10) / 10) / 10) / 10)))), some (.int (iz (orB (orB (orB (orB 0 (-(nr % 10))) (-((nr / 10) % 10))) (-(((nr / 10) / 10) % 10))) (-((((nr / 10) / 10) / 10) % 10))))), some (.int (iz (-1)))]) (st' := [.int (iz (orB (orB (orB (orB 0 (-(nr % 10))) (-((nr / 10) % 10))) (-(((nr / 10) / 10) % 10))) (-((((nr / 10) / 10) / 10) % 10))))]) (h' := cxW (u2 z 95 1 4) (uf f 96 (iu (iu (iu (iu who_1 3 (-(nr % 10))) 2 (-((nr / 10) % 10))) 1 (-(((nr / 10) / 10) % 10))) 0 (-((((nr / 10) / 10) / 10) % 10)))) C T rc tl) rfl ?_
                    refine Rx.callx (m' := m_J6_bitCount_0f7a4) (as := [.int (iz (orB (orB (orB (orB 0 (-(nr % 10))) (-((nr / 10) % 10))) (-(((nr / 10) / 10) % 10))) (-((((nr / 10) / 10) / 10) % 10))))]) (rest := []) rfl (n_bitCount _ (cxW (u2 z 95 1 4) (uf f 96 (iu (iu (iu (iu who_1 3 (-(nr % 10))) 2 (-((nr / 10) % 10))) 1 (-(((nr / 10) / 10) % 10))) 0 (-((((nr / 10) / 10) / 10) % 10)))) C T rc tl)  (orB (orB (orB (orB 0 (-(nr % 10))) (-((nr / 10) % 10))) (-(((nr / 10) / 10) % 10))) (-((((nr / 10) / 10) / 10) % 10))) (by first | assumption | omega) (by first | assumption | omega)) (fun v23 h24 q25 => ?_)
                    obtain ⟨r_21, rfl, rfl, f22⟩ := q25
                    refine Rx.walk 0 (pc' := 101) (L' := [some (.ref 95), some (.int (iz (-nr))), some (.int (iz 4)), some (.int (iz (-((((nr / 10) / 10) / 10) / 10)))), some (.int (iz (orB (orB (orB (orB 0 (-(nr % 10))) (-((nr / 10) % 10))) (-(((nr / 10) / 10) % 10))) (-((((nr / 10) / 10) / 10) % 10))))), some (.int (iz (-1)))]) (st' := [.int (iz r_21)]) (h' := cxW (u2 z 95 1 4) (uf f 96 (iu (iu (iu (iu who_1 3 (-(nr % 10))) 2 (-((nr / 10) % 10))) 1 (-(((nr / 10) / 10) % 10))) 0 (-((((nr / 10) / 10) / 10) % 10)))) C T rc tl) rfl ?_
                    have bb := bc_b (x := (orB (orB (orB (orB 0 (-(nr % 10))) (-((nr / 10) % 10))) (-(((nr / 10) / 10) % 10))) (-((((nr / 10) / 10) / 10) % 10))))
                    refine Rx.walk 2 (pc' := 105) (L' := [some (.ref 95), some (.int (iz (-nr))), some (.int (iz 4)), some (.int (iz (-((((nr / 10) / 10) / 10) / 10)))), some (.int (iz (orB (orB (orB (orB 0 (-(nr % 10))) (-((nr / 10) % 10))) (-(((nr / 10) / 10) % 10))) (-((((nr / 10) / 10) / 10) % 10))))), some (.int (iz (-1)))]) (st' := [.int (iz 4), .int (iz r_21)]) (h' := cxW (u2 z 95 1 4) (uf f 96 (iu (iu (iu (iu who_1 3 (-(nr % 10))) 2 (-((nr / 10) % 10))) 1 (-(((nr / 10) / 10) % 10))) 0 (-((((nr / 10) / 10) / 10) % 10)))) C T rc tl) rfl ?_
                    refine Rx.ne2 rfl rfl ⟨by omega, by omega⟩ ⟨by omega, by omega⟩ (fun b26 => ?_) (fun b26 => ?_)
                    · refine Rx.walk 1 (pc' := 113) (L' := [some (.ref 95), some (.int (iz (-nr))), some (.int (iz 4)), some (.int (iz (-((((nr / 10) / 10) / 10) / 10)))), some (.int (iz (orB (orB (orB (orB 0 (-(nr % 10))) (-((nr / 10) % 10))) (-(((nr / 10) / 10) % 10))) (-((((nr / 10) / 10) / 10) % 10))))), some (.int (iz (-1)))]) (st' := [.int (iz 0)]) (h' := cxW (u2 z 95 1 4) (uf f 96 (iu (iu (iu (iu who_1 3 (-(nr % 10))) 2 (-((nr / 10) % 10))) 1 (-(((nr / 10) / 10) % 10))) 0 (-((((nr / 10) / 10) / 10) % 10)))) C T rc tl) rfl ?_
                      refine Rx.ret rfl ?_
                      exact ⟨_, _, rfl, rfl, Or.inr ⟨rfl, fun q => by have := q.2.1; omega⟩⟩
                    · refine Rx.walk 2 (pc' := 113) (L' := [some (.ref 95), some (.int (iz (-nr))), some (.int (iz 4)), some (.int (iz (-((((nr / 10) / 10) / 10) / 10)))), some (.int (iz (orB (orB (orB (orB 0 (-(nr % 10))) (-((nr / 10) % 10))) (-(((nr / 10) / 10) % 10))) (-((((nr / 10) / 10) / 10) % 10))))), some (.int (iz (-1)))]) (st' := [.int (iz 1)]) (h' := cxW (u2 z 95 1 4) (uf f 96 (iu (iu (iu (iu who_1 3 (-(nr % 10))) 2 (-((nr / 10) % 10))) 1 (-(((nr / 10) / 10) % 10))) 0 (-((((nr / 10) / 10) / 10) % 10)))) C T rc tl) rfl ?_
                      refine Rx.ret rfl ?_
                      exfalso
                      omega
                · refine Rx.walk 1 (pc' := 64) (L' := [some (.ref 95), some (.int (iz (-nr))), some (.int (iz 4)), some (.int (iz (-((((nr / 10) / 10) / 10) / 10)))), some (.int (iz (orB (orB (orB 0 (-(nr % 10))) (-((nr / 10) % 10))) (-(((nr / 10) / 10) % 10))))), some (.int (iz 0))]) (st' := [.int (iz 0)]) (h' := cxW (u2 z 95 1 4) (uf f 96 (iu (iu (iu (iu who_1 3 (-(nr % 10))) 2 (-((nr / 10) % 10))) 1 (-(((nr / 10) / 10) % 10))) 0 (-((((nr / 10) / 10) / 10) % 10)))) C T rc tl) rfl ?_
                  refine Rx.ret rfl ?_
                  exact ⟨_, _, rfl, rfl, Or.inr ⟨rfl, fun q => by have := q.2.1; omega⟩⟩
            · refine Rx.walk 1 (pc' := 64) (L' := [some (.ref 95), some (.int (iz (-nr))), some (.int (iz 4)), some (.int (iz (-(((nr / 10) / 10) / 10)))), some (.int (iz (orB (orB 0 (-(nr % 10))) (-((nr / 10) % 10))))), some (.int (iz 1))]) (st' := [.int (iz 0)]) (h' := cxW (u2 z 95 1 4) (uf f 96 (iu (iu (iu who_1 3 (-(nr % 10))) 2 (-((nr / 10) % 10))) 1 (-(((nr / 10) / 10) % 10)))) C T rc tl) rfl ?_
              refine Rx.ret rfl ?_
              exact ⟨_, _, rfl, rfl, Or.inr ⟨rfl, fun q => by have := q.2.1; omega⟩⟩
        · refine Rx.walk 1 (pc' := 64) (L' := [some (.ref 95), some (.int (iz (-nr))), some (.int (iz 4)), some (.int (iz (-((nr / 10) / 10)))), some (.int (iz (orB 0 (-(nr % 10))))), some (.int (iz 2))]) (st' := [.int (iz 0)]) (h' := cxW (u2 z 95 1 4) (uf f 96 (iu (iu who_1 3 (-(nr % 10))) 2 (-((nr / 10) % 10)))) C T rc tl) rfl ?_
          refine Rx.ret rfl ?_
          exact ⟨_, _, rfl, rfl, Or.inr ⟨rfl, fun q => by have := q.2.1; omega⟩⟩
    · refine Rx.walk 1 (pc' := 64) (L' := [some (.ref 95), some (.int (iz (-nr))), some (.int (iz 4)), some (.int (iz (-(nr / 10)))), some (.int (iz 0)), some (.int (iz 3))]) (st' := [.int (iz 0)]) (h' := cxW (u2 z 95 1 4) (uf f 96 (iu who_1 3 (-(nr % 10)))) C T rc tl) rfl ?_
      refine Rx.ret rfl ?_
      exact ⟨_, _, rfl, rfl, Or.inr ⟨rfl, fun q => by have := q.2.1; omega⟩⟩
set_option maxRecDepth 100000 in
set_option maxHeartbeats 4000000 in
theorem x_oreads (d : Nat) (z : Nat → Nat → Int) (f : Nat → Int → Int) (C : Nat → CuR) (T : Nat → TsR) (rc : Nat → Nat) (tl : AmH)  (row : Int) (cu : Int) (osz : Int) (who : Int → Int) (hr : bI row) (hc : 0 ≤ cu ∧ cu ≤ 4) : Rx (d + 1) m_X3_reads 0 (am_ent [.ref 95, .int (iz row), .int (iz cu)] 6) [] (cxW (u2 z 95 1 osz) (uf f 96 who) C T rc tl) (fun rv h => ∃ r : Int, ∃ who' : Int → Int, rv = some (.int (iz r)) ∧ h = cxW (u2 z 95 1 cu) (uf f 96 who') C T rc tl ∧ ((r = 1 ∧ ordOK cu.toNat row ∧ lsI cu.toNat who' = ordL cu.toNat row) ∨ (r = 0 ∧ ¬ ordOK cu.toNat row))) := by
  rcases Int.lt_or_le row 0 with q | q
  · obtain ⟨nr, rfl⟩ : ∃ n, row = -n := ⟨-row, by omega⟩
    rcases (show cu = 0 ∨ cu = 1 ∨ cu = 2 ∨ cu = 3 ∨ cu = 4 by omega) with rfl | rfl | rfl | rfl | rfl
    · exact x_reads0n d z f C T rc tl nr osz who hr (by omega)
    · exact x_reads1n d z f C T rc tl nr osz who hr (by omega)
    · exact x_reads2n d z f C T rc tl nr osz who hr (by omega)
    · exact x_reads3n d z f C T rc tl nr osz who hr (by omega)
    · exact x_reads4n d z f C T rc tl nr osz who hr (by omega)
  · rcases (show cu = 0 ∨ cu = 1 ∨ cu = 2 ∨ cu = 3 ∨ cu = 4 by omega) with rfl | rfl | rfl | rfl | rfl
    · exact x_reads0 d z f C T rc tl row osz who hr q
    · exact x_reads1 d z f C T rc tl row osz who hr q
    · exact x_reads2 d z f C T rc tl row osz who hr q
    · exact x_reads3 d z f C T rc tl row osz who hr q
    · exact x_reads4 d z f C T rc tl row osz who hr q
set_option maxRecDepth 100000 in
set_option maxHeartbeats 4000000 in
theorem x_asNumber0 (d : Nat) (z : Nat → Nat → Int) (f : Nat → Int → Int) (C : Nat → CuR) (T : Nat → TsR) (rc : Nat → Nat) (tl : AmH)  (who : Int → Int) : Rx (d) m_X3_asNumber 0 (am_ent [.ref 95] 3) [] (cxW (u2 z 95 1 0) (uf f 96 who) C T rc tl) (fun rv h => ∃ r : Int, rv = some (.int (iz r)) ∧ h = cxW (u2 z 95 1 0) (uf f 96 who) C T rc tl ∧ r = numL (lsI 0 who)) := by
  refine Rx.walk 0 (pc' := 0) (L' := [some (.ref 95), none, none]) (st' := []) (h' := cxW (u2 z 95 1 0) (uf f 96 who) C T rc tl) rfl ?_
  refine Rx.walk 7 (pc' := 9) (L' := [some (.ref 95), some (.int (iz 0)), some (.int (iz 0))]) (st' := [.int (iz 0), .int (iz 0)]) (h' := cxW (u2 z 95 1 0) (uf f 96 who) C T rc tl) rfl ?_
  refine Rx.ge2 rfl rfl ⟨by omega, by omega⟩ ⟨by omega, by omega⟩ (fun b1 => ?_) (fun b1 => by omega)
  refine Rx.walk 1 (pc' := 31) (L' := [some (.ref 95), some (.int (iz 0)), some (.int (iz 0))]) (st' := [.int (iz 0)]) (h' := cxW (u2 z 95 1 0) (uf f 96 who) C T rc tl) rfl ?_
  refine Rx.ret rfl ?_
  exact ⟨_, rfl, rfl, (by rfl)⟩
set_option maxRecDepth 100000 in
set_option maxHeartbeats 4000000 in
theorem x_asNumber1 (d : Nat) (z : Nat → Nat → Int) (f : Nat → Int → Int) (C : Nat → CuR) (T : Nat → TsR) (rc : Nat → Nat) (tl : AmH)  (who : Int → Int) : Rx (d) m_X3_asNumber 0 (am_ent [.ref 95] 3) [] (cxW (u2 z 95 1 1) (uf f 96 who) C T rc tl) (fun rv h => ∃ r : Int, rv = some (.int (iz r)) ∧ h = cxW (u2 z 95 1 1) (uf f 96 who) C T rc tl ∧ r = numL (lsI 1 who)) := by
  refine Rx.walk 0 (pc' := 0) (L' := [some (.ref 95), none, none]) (st' := []) (h' := cxW (u2 z 95 1 1) (uf f 96 who) C T rc tl) rfl ?_
  refine Rx.walk 7 (pc' := 9) (L' := [some (.ref 95), some (.int (iz 0)), some (.int (iz 0))]) (st' := [.int (iz 1), .int (iz 0)]) (h' := cxW (u2 z 95 1 1) (uf f 96 who) C T rc tl) rfl ?_
  refine Rx.ge2 rfl rfl ⟨by omega, by omega⟩ ⟨by omega, by omega⟩ (fun b1 => by omega) (fun b1 => ?_)
  refine Rx.walk 2 (pc' := 15) (L' := [some (.ref 95), some (.int (iz 0)), some (.int (iz 0))]) (st' := [.int (iz 10), .int (iz 0)]) (h' := cxW (u2 z 95 1 1) (uf f 96 who) C T rc tl) rfl ?_
  refine Rx.imul rfl ?_
  refine Rx.walk 0 (pc' := 16) (L' := [some (.ref 95), some (.int (iz 0)), some (.int (iz 0))]) (st' := [.int (iz 0)]) (h' := cxW (u2 z 95 1 1) (uf f 96 who) C T rc tl) rfl ?_
  refine Rx.walk 3 (pc' := 21) (L' := [some (.ref 95), some (.int (iz 0)), some (.int (iz 0))]) (st' := [.int (iz 0), .ref 96, .int (iz 0)]) (h' := cxW (u2 z 95 1 1) (uf f 96 who) C T rc tl) rfl ?_
  refine Rx.ial (g := who) rfl rfl (by omega) (by omega) (by omega) ?_
  refine Rx.iadd rfl ?_
  refine Rx.walk 1 (pc' := 24) (L' := [some (.ref 95), some (.int (iz (0 + (who 0)))), some (.int (iz 0))]) (st' := []) (h' := cxW (u2 z 95 1 1) (uf f 96 who) C T rc tl) rfl ?_
  refine Rx.iinc (b := 1) rfl rfl rfl ?_
  refine Rx.walk 0 (pc' := 27) (L' := [some (.ref 95), some (.int (iz (0 + (who 0)))), some (.int (iz 1))]) (st' := []) (h' := cxW (u2 z 95 1 1) (uf f 96 who) C T rc tl) rfl ?_
  refine Rx.walk 4 (pc' := 9) (L' := [some (.ref 95), some (.int (iz (0 + (who 0)))), some (.int (iz 1))]) (st' := [.int (iz 1), .int (iz 1)]) (h' := cxW (u2 z 95 1 1) (uf f 96 who) C T rc tl) rfl ?_
  refine Rx.ge2 rfl rfl ⟨by omega, by omega⟩ ⟨by omega, by omega⟩ (fun b2 => ?_) (fun b2 => by omega)
  refine Rx.walk 1 (pc' := 31) (L' := [some (.ref 95), some (.int (iz (0 + (who 0)))), some (.int (iz 1))]) (st' := [.int (iz (0 + (who 0)))]) (h' := cxW (u2 z 95 1 1) (uf f 96 who) C T rc tl) rfl ?_
  refine Rx.ret rfl ?_
  exact ⟨_, rfl, rfl, (by rfl)⟩
set_option maxRecDepth 100000 in
set_option maxHeartbeats 4000000 in
theorem x_asNumber2 (d : Nat) (z : Nat → Nat → Int) (f : Nat → Int → Int) (C : Nat → CuR) (T : Nat → TsR) (rc : Nat → Nat) (tl : AmH)  (who : Int → Int) : Rx (d) m_X3_asNumber 0 (am_ent [.ref 95] 3) [] (cxW (u2 z 95 1 2) (uf f 96 who) C T rc tl) (fun rv h => ∃ r : Int, rv = some (.int (iz r)) ∧ h = cxW (u2 z 95 1 2) (uf f 96 who) C T rc tl ∧ r = numL (lsI 2 who)) := by
  refine Rx.walk 0 (pc' := 0) (L' := [some (.ref 95), none, none]) (st' := []) (h' := cxW (u2 z 95 1 2) (uf f 96 who) C T rc tl) rfl ?_
  refine Rx.walk 7 (pc' := 9) (L' := [some (.ref 95), some (.int (iz 0)), some (.int (iz 0))]) (st' := [.int (iz 2), .int (iz 0)]) (h' := cxW (u2 z 95 1 2) (uf f 96 who) C T rc tl) rfl ?_
  refine Rx.ge2 rfl rfl ⟨by omega, by omega⟩ ⟨by omega, by omega⟩ (fun b1 => by omega) (fun b1 => ?_)
  refine Rx.walk 2 (pc' := 15) (L' := [some (.ref 95), some (.int (iz 0)), some (.int (iz 0))]) (st' := [.int (iz 10), .int (iz 0)]) (h' := cxW (u2 z 95 1 2) (uf f 96 who) C T rc tl) rfl ?_
  refine Rx.imul rfl ?_
  refine Rx.walk 0 (pc' := 16) (L' := [some (.ref 95), some (.int (iz 0)), some (.int (iz 0))]) (st' := [.int (iz 0)]) (h' := cxW (u2 z 95 1 2) (uf f 96 who) C T rc tl) rfl ?_
  refine Rx.walk 3 (pc' := 21) (L' := [some (.ref 95), some (.int (iz 0)), some (.int (iz 0))]) (st' := [.int (iz 0), .ref 96, .int (iz 0)]) (h' := cxW (u2 z 95 1 2) (uf f 96 who) C T rc tl) rfl ?_
  refine Rx.ial (g := who) rfl rfl (by omega) (by omega) (by omega) ?_
  refine Rx.iadd rfl ?_
  refine Rx.walk 1 (pc' := 24) (L' := [some (.ref 95), some (.int (iz (0 + (who 0)))), some (.int (iz 0))]) (st' := []) (h' := cxW (u2 z 95 1 2) (uf f 96 who) C T rc tl) rfl ?_
  refine Rx.iinc (b := 1) rfl rfl rfl ?_
  refine Rx.walk 0 (pc' := 27) (L' := [some (.ref 95), some (.int (iz (0 + (who 0)))), some (.int (iz 1))]) (st' := []) (h' := cxW (u2 z 95 1 2) (uf f 96 who) C T rc tl) rfl ?_
  refine Rx.walk 4 (pc' := 9) (L' := [some (.ref 95), some (.int (iz (0 + (who 0)))), some (.int (iz 1))]) (st' := [.int (iz 2), .int (iz 1)]) (h' := cxW (u2 z 95 1 2) (uf f 96 who) C T rc tl) rfl ?_
  refine Rx.ge2 rfl rfl ⟨by omega, by omega⟩ ⟨by omega, by omega⟩ (fun b2 => by omega) (fun b2 => ?_)
  refine Rx.walk 2 (pc' := 15) (L' := [some (.ref 95), some (.int (iz (0 + (who 0)))), some (.int (iz 1))]) (st' := [.int (iz 10), .int (iz (0 + (who 0)))]) (h' := cxW (u2 z 95 1 2) (uf f 96 who) C T rc tl) rfl ?_
  refine Rx.imul rfl ?_
  refine Rx.walk 3 (pc' := 21) (L' := [some (.ref 95), some (.int (iz (0 + (who 0)))), some (.int (iz 1))]) (st' := [.int (iz 1), .ref 96, .int (iz ((0 + (who 0)) * 10))]) (h' := cxW (u2 z 95 1 2) (uf f 96 who) C T rc tl) rfl ?_
  refine Rx.ial (g := who) rfl rfl (by omega) (by omega) (by omega) ?_
  refine Rx.iadd rfl ?_
  refine Rx.walk 1 (pc' := 24) (L' := [some (.ref 95), some (.int (iz (((0 + (who 0)) * 10) + (who 1)))), some (.int (iz 1))]) (st' := []) (h' := cxW (u2 z 95 1 2) (uf f 96 who) C T rc tl) rfl ?_
  refine Rx.iinc (b := 1) rfl rfl rfl ?_
  refine Rx.walk 0 (pc' := 27) (L' := [some (.ref 95), some (.int (iz (((0 + (who 0)) * 10) + (who 1)))), some (.int (iz 2))]) (st' := []) (h' := cxW (u2 z 95 1 2) (uf f 96 who) C T rc tl) rfl ?_
  refine Rx.walk 4 (pc' := 9) (L' := [some (.ref 95), some (.int (iz (((0 + (who 0)) * 10) + (who 1)))), some (.int (iz 2))]) (st' := [.int (iz 2), .int (iz 2)]) (h' := cxW (u2 z 95 1 2) (uf f 96 who) C T rc tl) rfl ?_
  refine Rx.ge2 rfl rfl ⟨by omega, by omega⟩ ⟨by omega, by omega⟩ (fun b3 => ?_) (fun b3 => by omega)
  refine Rx.walk 1 (pc' := 31) (L' := [some (.ref 95), some (.int (iz (((0 + (who 0)) * 10) + (who 1)))), some (.int (iz 2))]) (st' := [.int (iz (((0 + (who 0)) * 10) + (who 1)))]) (h' := cxW (u2 z 95 1 2) (uf f 96 who) C T rc tl) rfl ?_
  refine Rx.ret rfl ?_
  exact ⟨_, rfl, rfl, (by rfl)⟩
set_option maxRecDepth 100000 in
set_option maxHeartbeats 4000000 in
theorem x_asNumber3 (d : Nat) (z : Nat → Nat → Int) (f : Nat → Int → Int) (C : Nat → CuR) (T : Nat → TsR) (rc : Nat → Nat) (tl : AmH)  (who : Int → Int) : Rx (d) m_X3_asNumber 0 (am_ent [.ref 95] 3) [] (cxW (u2 z 95 1 3) (uf f 96 who) C T rc tl) (fun rv h => ∃ r : Int, rv = some (.int (iz r)) ∧ h = cxW (u2 z 95 1 3) (uf f 96 who) C T rc tl ∧ r = numL (lsI 3 who)) := by
  refine Rx.walk 0 (pc' := 0) (L' := [some (.ref 95), none, none]) (st' := []) (h' := cxW (u2 z 95 1 3) (uf f 96 who) C T rc tl) rfl ?_
  refine Rx.walk 7 (pc' := 9) (L' := [some (.ref 95), some (.int (iz 0)), some (.int (iz 0))]) (st' := [.int (iz 3), .int (iz 0)]) (h' := cxW (u2 z 95 1 3) (uf f 96 who) C T rc tl) rfl ?_
  refine Rx.ge2 rfl rfl ⟨by omega, by omega⟩ ⟨by omega, by omega⟩ (fun b1 => by omega) (fun b1 => ?_)
  refine Rx.walk 2 (pc' := 15) (L' := [some (.ref 95), some (.int (iz 0)), some (.int (iz 0))]) (st' := [.int (iz 10), .int (iz 0)]) (h' := cxW (u2 z 95 1 3) (uf f 96 who) C T rc tl) rfl ?_
  refine Rx.imul rfl ?_
  refine Rx.walk 0 (pc' := 16) (L' := [some (.ref 95), some (.int (iz 0)), some (.int (iz 0))]) (st' := [.int (iz 0)]) (h' := cxW (u2 z 95 1 3) (uf f 96 who) C T rc tl) rfl ?_
  refine Rx.walk 3 (pc' := 21) (L' := [some (.ref 95), some (.int (iz 0)), some (.int (iz 0))]) (st' := [.int (iz 0), .ref 96, .int (iz 0)]) (h' := cxW (u2 z 95 1 3) (uf f 96 who) C T rc tl) rfl ?_
  refine Rx.ial (g := who) rfl rfl (by omega) (by omega) (by omega) ?_
  refine Rx.iadd rfl ?_
  refine Rx.walk 1 (pc' := 24) (L' := [some (.ref 95), some (.int (iz (0 + (who 0)))), some (.int (iz 0))]) (st' := []) (h' := cxW (u2 z 95 1 3) (uf f 96 who) C T rc tl) rfl ?_
  refine Rx.iinc (b := 1) rfl rfl rfl ?_
  refine Rx.walk 0 (pc' := 27) (L' := [some (.ref 95), some (.int (iz (0 + (who 0)))), some (.int (iz 1))]) (st' := []) (h' := cxW (u2 z 95 1 3) (uf f 96 who) C T rc tl) rfl ?_
  refine Rx.walk 4 (pc' := 9) (L' := [some (.ref 95), some (.int (iz (0 + (who 0)))), some (.int (iz 1))]) (st' := [.int (iz 3), .int (iz 1)]) (h' := cxW (u2 z 95 1 3) (uf f 96 who) C T rc tl) rfl ?_
  refine Rx.ge2 rfl rfl ⟨by omega, by omega⟩ ⟨by omega, by omega⟩ (fun b2 => by omega) (fun b2 => ?_)
  refine Rx.walk 2 (pc' := 15) (L' := [some (.ref 95), some (.int (iz (0 + (who 0)))), some (.int (iz 1))]) (st' := [.int (iz 10), .int (iz (0 + (who 0)))]) (h' := cxW (u2 z 95 1 3) (uf f 96 who) C T rc tl) rfl ?_
  refine Rx.imul rfl ?_
  refine Rx.walk 3 (pc' := 21) (L' := [some (.ref 95), some (.int (iz (0 + (who 0)))), some (.int (iz 1))]) (st' := [.int (iz 1), .ref 96, .int (iz ((0 + (who 0)) * 10))]) (h' := cxW (u2 z 95 1 3) (uf f 96 who) C T rc tl) rfl ?_
  refine Rx.ial (g := who) rfl rfl (by omega) (by omega) (by omega) ?_
  refine Rx.iadd rfl ?_
  refine Rx.walk 1 (pc' := 24) (L' := [some (.ref 95), some (.int (iz (((0 + (who 0)) * 10) + (who 1)))), some (.int (iz 1))]) (st' := []) (h' := cxW (u2 z 95 1 3) (uf f 96 who) C T rc tl) rfl ?_
  refine Rx.iinc (b := 1) rfl rfl rfl ?_
  refine Rx.walk 0 (pc' := 27) (L' := [some (.ref 95), some (.int (iz (((0 + (who 0)) * 10) + (who 1)))), some (.int (iz 2))]) (st' := []) (h' := cxW (u2 z 95 1 3) (uf f 96 who) C T rc tl) rfl ?_
  refine Rx.walk 4 (pc' := 9) (L' := [some (.ref 95), some (.int (iz (((0 + (who 0)) * 10) + (who 1)))), some (.int (iz 2))]) (st' := [.int (iz 3), .int (iz 2)]) (h' := cxW (u2 z 95 1 3) (uf f 96 who) C T rc tl) rfl ?_
  refine Rx.ge2 rfl rfl ⟨by omega, by omega⟩ ⟨by omega, by omega⟩ (fun b3 => by omega) (fun b3 => ?_)
  refine Rx.walk 2 (pc' := 15) (L' := [some (.ref 95), some (.int (iz (((0 + (who 0)) * 10) + (who 1)))), some (.int (iz 2))]) (st' := [.int (iz 10), .int (iz (((0 + (who 0)) * 10) + (who 1)))]) (h' := cxW (u2 z 95 1 3) (uf f 96 who) C T rc tl) rfl ?_
  refine Rx.imul rfl ?_
  refine Rx.walk 3 (pc' := 21) (L' := [some (.ref 95), some (.int (iz (((0 + (who 0)) * 10) + (who 1)))), some (.int (iz 2))]) (st' := [.int (iz 2), .ref 96, .int (iz ((((0 + (who 0)) * 10) + (who 1)) * 10))]) (h' := cxW (u2 z 95 1 3) (uf f 96 who) C T rc tl) rfl ?_
  refine Rx.ial (g := who) rfl rfl (by omega) (by omega) (by omega) ?_
  refine Rx.iadd rfl ?_
  refine Rx.walk 1 (pc' := 24) (L' := [some (.ref 95), some (.int (iz (((((0 + (who 0)) * 10) + (who 1)) * 10) + (who 2)))), some (.int (iz 2))]) (st' := []) (h' := cxW (u2 z 95 1 3) (uf f 96 who) C T rc tl) rfl ?_
  refine Rx.iinc (b := 1) rfl rfl rfl ?_
  refine Rx.walk 0 (pc' := 27) (L' := [some (.ref 95), some (.int (iz (((((0 + (who 0)) * 10) + (who 1)) * 10) + (who 2)))), some (.int (iz 3))]) (st' := []) (h' := cxW (u2 z 95 1 3) (uf f 96 who) C T rc tl) rfl ?_
  refine Rx.walk 4 (pc' := 9) (L' := [some (.ref 95), some (.int (iz (((((0 + (who 0)) * 10) + (who 1)) * 10) + (who 2)))), some (.int (iz 3))]) (st' := [.int (iz 3), .int (iz 3)]) (h' := cxW (u2 z 95 1 3) (uf f 96 who) C T rc tl) rfl ?_
  refine Rx.ge2 rfl rfl ⟨by omega, by omega⟩ ⟨by omega, by omega⟩ (fun b4 => ?_) (fun b4 => by omega)
  refine Rx.walk 1 (pc' := 31) (L' := [some (.ref 95), some (.int (iz (((((0 + (who 0)) * 10) + (who 1)) * 10) + (who 2)))), some (.int (iz 3))]) (st' := [.int (iz (((((0 + (who 0)) * 10) + (who 1)) * 10) + (who 2)))]) (h' := cxW (u2 z 95 1 3) (uf f 96 who) C T rc tl) rfl ?_
  refine Rx.ret rfl ?_
  exact ⟨_, rfl, rfl, (by rfl)⟩
set_option maxRecDepth 100000 in
set_option maxHeartbeats 4000000 in
theorem x_asNumber4 (d : Nat) (z : Nat → Nat → Int) (f : Nat → Int → Int) (C : Nat → CuR) (T : Nat → TsR) (rc : Nat → Nat) (tl : AmH)  (who : Int → Int) : Rx (d) m_X3_asNumber 0 (am_ent [.ref 95] 3) [] (cxW (u2 z 95 1 4) (uf f 96 who) C T rc tl) (fun rv h => ∃ r : Int, rv = some (.int (iz r)) ∧ h = cxW (u2 z 95 1 4) (uf f 96 who) C T rc tl ∧ r = numL (lsI 4 who)) := by
  refine Rx.walk 0 (pc' := 0) (L' := [some (.ref 95), none, none]) (st' := []) (h' := cxW (u2 z 95 1 4) (uf f 96 who) C T rc tl) rfl ?_
  refine Rx.walk 7 (pc' := 9) (L' := [some (.ref 95), some (.int (iz 0)), some (.int (iz 0))]) (st' := [.int (iz 4), .int (iz 0)]) (h' := cxW (u2 z 95 1 4) (uf f 96 who) C T rc tl) rfl ?_
  refine Rx.ge2 rfl rfl ⟨by omega, by omega⟩ ⟨by omega, by omega⟩ (fun b1 => by omega) (fun b1 => ?_)
  refine Rx.walk 2 (pc' := 15) (L' := [some (.ref 95), some (.int (iz 0)), some (.int (iz 0))]) (st' := [.int (iz 10), .int (iz 0)]) (h' := cxW (u2 z 95 1 4) (uf f 96 who) C T rc tl) rfl ?_
  refine Rx.imul rfl ?_
  refine Rx.walk 0 (pc' := 16) (L' := [some (.ref 95), some (.int (iz 0)), some (.int (iz 0))]) (st' := [.int (iz 0)]) (h' := cxW (u2 z 95 1 4) (uf f 96 who) C T rc tl) rfl ?_
  refine Rx.walk 3 (pc' := 21) (L' := [some (.ref 95), some (.int (iz 0)), some (.int (iz 0))]) (st' := [.int (iz 0), .ref 96, .int (iz 0)]) (h' := cxW (u2 z 95 1 4) (uf f 96 who) C T rc tl) rfl ?_
  refine Rx.ial (g := who) rfl rfl (by omega) (by omega) (by omega) ?_
  refine Rx.iadd rfl ?_
  refine Rx.walk 1 (pc' := 24) (L' := [some (.ref 95), some (.int (iz (0 + (who 0)))), some (.int (iz 0))]) (st' := []) (h' := cxW (u2 z 95 1 4) (uf f 96 who) C T rc tl) rfl ?_
  refine Rx.iinc (b := 1) rfl rfl rfl ?_
  refine Rx.walk 0 (pc' := 27) (L' := [some (.ref 95), some (.int (iz (0 + (who 0)))), some (.int (iz 1))]) (st' := []) (h' := cxW (u2 z 95 1 4) (uf f 96 who) C T rc tl) rfl ?_
  refine Rx.walk 4 (pc' := 9) (L' := [some (.ref 95), some (.int (iz (0 + (who 0)))), some (.int (iz 1))]) (st' := [.int (iz 4), .int (iz 1)]) (h' := cxW (u2 z 95 1 4) (uf f 96 who) C T rc tl) rfl ?_
  refine Rx.ge2 rfl rfl ⟨by omega, by omega⟩ ⟨by omega, by omega⟩ (fun b2 => by omega) (fun b2 => ?_)
  refine Rx.walk 2 (pc' := 15) (L' := [some (.ref 95), some (.int (iz (0 + (who 0)))), some (.int (iz 1))]) (st' := [.int (iz 10), .int (iz (0 + (who 0)))]) (h' := cxW (u2 z 95 1 4) (uf f 96 who) C T rc tl) rfl ?_
  refine Rx.imul rfl ?_
  refine Rx.walk 3 (pc' := 21) (L' := [some (.ref 95), some (.int (iz (0 + (who 0)))), some (.int (iz 1))]) (st' := [.int (iz 1), .ref 96, .int (iz ((0 + (who 0)) * 10))]) (h' := cxW (u2 z 95 1 4) (uf f 96 who) C T rc tl) rfl ?_
  refine Rx.ial (g := who) rfl rfl (by omega) (by omega) (by omega) ?_
  refine Rx.iadd rfl ?_
  refine Rx.walk 1 (pc' := 24) (L' := [some (.ref 95), some (.int (iz (((0 + (who 0)) * 10) + (who 1)))), some (.int (iz 1))]) (st' := []) (h' := cxW (u2 z 95 1 4) (uf f 96 who) C T rc tl) rfl ?_
  refine Rx.iinc (b := 1) rfl rfl rfl ?_
  refine Rx.walk 0 (pc' := 27) (L' := [some (.ref 95), some (.int (iz (((0 + (who 0)) * 10) + (who 1)))), some (.int (iz 2))]) (st' := []) (h' := cxW (u2 z 95 1 4) (uf f 96 who) C T rc tl) rfl ?_
  refine Rx.walk 4 (pc' := 9) (L' := [some (.ref 95), some (.int (iz (((0 + (who 0)) * 10) + (who 1)))), some (.int (iz 2))]) (st' := [.int (iz 4), .int (iz 2)]) (h' := cxW (u2 z 95 1 4) (uf f 96 who) C T rc tl) rfl ?_
  refine Rx.ge2 rfl rfl ⟨by omega, by omega⟩ ⟨by omega, by omega⟩ (fun b3 => by omega) (fun b3 => ?_)
  refine Rx.walk 2 (pc' := 15) (L' := [some (.ref 95), some (.int (iz (((0 + (who 0)) * 10) + (who 1)))), some (.int (iz 2))]) (st' := [.int (iz 10), .int (iz (((0 + (who 0)) * 10) + (who 1)))]) (h' := cxW (u2 z 95 1 4) (uf f 96 who) C T rc tl) rfl ?_
  refine Rx.imul rfl ?_
  refine Rx.walk 3 (pc' := 21) (L' := [some (.ref 95), some (.int (iz (((0 + (who 0)) * 10) + (who 1)))), some (.int (iz 2))]) (st' := [.int (iz 2), .ref 96, .int (iz ((((0 + (who 0)) * 10) + (who 1)) * 10))]) (h' := cxW (u2 z 95 1 4) (uf f 96 who) C T rc tl) rfl ?_
  refine Rx.ial (g := who) rfl rfl (by omega) (by omega) (by omega) ?_
  refine Rx.iadd rfl ?_
  refine Rx.walk 1 (pc' := 24) (L' := [some (.ref 95), some (.int (iz (((((0 + (who 0)) * 10) + (who 1)) * 10) + (who 2)))), some (.int (iz 2))]) (st' := []) (h' := cxW (u2 z 95 1 4) (uf f 96 who) C T rc tl) rfl ?_
  refine Rx.iinc (b := 1) rfl rfl rfl ?_
  refine Rx.walk 0 (pc' := 27) (L' := [some (.ref 95), some (.int (iz (((((0 + (who 0)) * 10) + (who 1)) * 10) + (who 2)))), some (.int (iz 3))]) (st' := []) (h' := cxW (u2 z 95 1 4) (uf f 96 who) C T rc tl) rfl ?_
  refine Rx.walk 4 (pc' := 9) (L' := [some (.ref 95), some (.int (iz (((((0 + (who 0)) * 10) + (who 1)) * 10) + (who 2)))), some (.int (iz 3))]) (st' := [.int (iz 4), .int (iz 3)]) (h' := cxW (u2 z 95 1 4) (uf f 96 who) C T rc tl) rfl ?_
  refine Rx.ge2 rfl rfl ⟨by omega, by omega⟩ ⟨by omega, by omega⟩ (fun b4 => by omega) (fun b4 => ?_)
  refine Rx.walk 2 (pc' := 15) (L' := [some (.ref 95), some (.int (iz (((((0 + (who 0)) * 10) + (who 1)) * 10) + (who 2)))), some (.int (iz 3))]) (st' := [.int (iz 10), .int (iz (((((0 + (who 0)) * 10) + (who 1)) * 10) + (who 2)))]) (h' := cxW (u2 z 95 1 4) (uf f 96 who) C T rc tl) rfl ?_
  refine Rx.imul rfl ?_
  refine Rx.walk 3 (pc' := 21) (L' := [some (.ref 95), some (.int (iz (((((0 + (who 0)) * 10) + (who 1)) * 10) + (who 2)))), some (.int (iz 3))]) (st' := [.int (iz 3), .ref 96, .int (iz ((((((0 + (who 0)) * 10) + (who 1)) * 10) + (who 2)) * 10))]) (h' := cxW (u2 z 95 1 4) (uf f 96 who) C T rc tl) rfl ?_
  refine Rx.ial (g := who) rfl rfl (by omega) (by omega) (by omega) ?_
  refine Rx.iadd rfl ?_
  refine Rx.walk 1 (pc' := 24) (L' := [some (.ref 95), some (.int (iz (((((((0 + (who 0)) * 10) + (who 1)) * 10) + (who 2)) * 10) + (who 3)))), some (.int (iz 3))]) (st' := []) (h' := cxW (u2 z 95 1 4) (uf f 96 who) C T rc tl) rfl ?_
  refine Rx.iinc (b := 1) rfl rfl rfl ?_
  refine Rx.walk 0 (pc' := 27) (L' := [some (.ref 95), some (.int (iz (((((((0 + (who 0)) * 10) + (who 1)) * 10) + (who 2)) * 10) + (who 3)))), some (.int (iz 4))]) (st' := []) (h' := cxW (u2 z 95 1 4) (uf f 96 who) C T rc tl) rfl ?_
  refine Rx.walk 4 (pc' := 9) (L' := [some (.ref 95), some (.int (iz (((((((0 + (who 0)) * 10) + (who 1)) * 10) + (who 2)) * 10) + (who 3)))), some (.int (iz 4))]) (st' := [.int (iz 4), .int (iz 4)]) (h' := cxW (u2 z 95 1 4) (uf f 96 who) C T rc tl) rfl ?_
  refine Rx.ge2 rfl rfl ⟨by omega, by omega⟩ ⟨by omega, by omega⟩ (fun b5 => ?_) (fun b5 => by omega)
  refine Rx.walk 1 (pc' := 31) (L' := [some (.ref 95), some (.int (iz (((((((0 + (who 0)) * 10) + (who 1)) * 10) + (who 2)) * 10) + (who 3)))), some (.int (iz 4))]) (st' := [.int (iz (((((((0 + (who 0)) * 10) + (who 1)) * 10) + (who 2)) * 10) + (who 3)))]) (h' := cxW (u2 z 95 1 4) (uf f 96 who) C T rc tl) rfl ?_
  refine Rx.ret rfl ?_
  exact ⟨_, rfl, rfl, (by rfl)⟩
set_option maxRecDepth 100000 in
set_option maxHeartbeats 4000000 in
theorem x_asNumber (d : Nat) (z : Nat → Nat → Int) (f : Nat → Int → Int) (C : Nat → CuR) (T : Nat → TsR) (rc : Nat → Nat) (tl : AmH)  (osz : Int) (who : Int → Int) (hc : 0 ≤ osz ∧ osz ≤ 4) : Rx (d) m_X3_asNumber 0 (am_ent [.ref 95] 3) [] (cxW (u2 z 95 1 osz) (uf f 96 who) C T rc tl) (fun rv h => ∃ r : Int, rv = some (.int (iz r)) ∧ h = cxW (u2 z 95 1 osz) (uf f 96 who) C T rc tl ∧ r = numL (lsI osz.toNat who)) := by
  rcases (show osz = 0 ∨ osz = 1 ∨ osz = 2 ∨ osz = 3 ∨ osz = 4 by omega) with rfl | rfl | rfl | rfl | rfl
  · exact x_asNumber0 d z f C T rc tl who
  · exact x_asNumber1 d z f C T rc tl who
  · exact x_asNumber2 d z f C T rc tl who
  · exact x_asNumber3 d z f C T rc tl who
  · exact x_asNumber4 d z f C T rc tl who

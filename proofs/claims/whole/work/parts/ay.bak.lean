/-! the baker of the class: coins handed back, a rule's choice, a customer served (printed by wip/whole/genbak.py) -/
set_option maxRecDepth 100000 in
set_option maxHeartbeats 4000000 in
theorem x_fitting (d : Nat) (z : Nat → Nat → Int) (f : Nat → Int → Int) (C : Nat → CuR) (T : Nat → TsR) (rc : Nat → Nat) (tl : AmH)  (e : Int) (l : Int) (w : Int → Int) (hw : wOK w) (he : 0 ≤ e ∧ e ≤ 4) (hl : 0 ≤ l ∧ l ≤ 400) : Rx (d) m_X1_fitting 0 (am_ent [.ref 91, .int (iz e), .int (iz l)] 3) [] (cxW z (uf f 4 w) C T rc tl) (fun rv h => ∃ r : Int, rv = some (.int (iz r)) ∧ h = cxW z (uf f 4 w) C T rc tl ∧ r = bkF w e l ∧ (0 ≤ r ∧ r ≤ 4)) := by
  refine Rx.walk 0 (pc' := 0) (L' := [some (.ref 91), some (.int (iz e)), some (.int (iz l))]) (st' := []) (h' := cxW z (uf f 4 w) C T rc tl) rfl ?_
  refine Rx.walk 4 (pc' := 8) (L' := [some (.ref 91), some (.int (iz e)), some (.int (iz l))]) (st' := [.int (iz e), .ref 4]) (h' := cxW z (uf f 4 w) C T rc tl) rfl ?_
  refine Rx.ial (g := w) rfl rfl (by omega) (by omega) (by omega) ?_
  have hwb1 := hw.2 e (by omega) (by omega)
  refine Rx.walk 1 (pc' := 10) (L' := [some (.ref 91), some (.int (iz e)), some (.int (iz l))]) (st' := [.int (iz l), .int (iz (w e))]) (h' := cxW z (uf f 4 w) C T rc tl) rfl ?_
  refine Rx.gt2 rfl rfl ⟨by omega, by omega⟩ ⟨by omega, by omega⟩ (fun b2 => ?_) (fun b2 => ?_)
  · refine Rx.walk 1 (pc' := 18) (L' := [some (.ref 91), some (.int (iz e)), some (.int (iz l))]) (st' := [.int (iz 0)]) (h' := cxW z (uf f 4 w) C T rc tl) rfl ?_
    refine Rx.ret rfl ?_
    exact ⟨_, rfl, rfl, by unfold bkF; rw [if_neg (by omega)], by omega, by omega⟩
  · refine Rx.walk 2 (pc' := 18) (L' := [some (.ref 91), some (.int (iz e)), some (.int (iz l))]) (st' := [.int (iz e)]) (h' := cxW z (uf f 4 w) C T rc tl) rfl ?_
    refine Rx.ret rfl ?_
    exact ⟨_, rfl, rfl, by unfold bkF; rw [if_pos (by omega)], by omega, by omega⟩
set_option maxRecDepth 100000 in
set_option maxHeartbeats 4000000 in
theorem x_worthOf (d : Nat) (z : Nat → Nat → Int) (f : Nat → Int → Int) (C : Nat → CuR) (T : Nat → TsR) (rc : Nat → Nat) (tl : AmH)  (q : Int) (w : Int → Int) (hw : wOK w) (hq : 0 ≤ q ∧ q < 3125) : Rx (d) m_X1_worthOf 0 (am_ent [.ref 91, .int (iz q)] 5) [] (cxW z (uf f 4 w) C T rc tl) (fun rv h => ∃ r : Int, rv = some (.int (iz r)) ∧ h = cxW z (uf f 4 w) C T rc tl ∧ r = wsm w q) := by
  refine Rx.walk 0 (pc' := 0) (L' := [some (.ref 91), some (.int (iz q)), none, none, none]) (st' := []) (h' := cxW z (uf f 4 w) C T rc tl) rfl ?_
  refine Rx.walk 8 (pc' := 10) (L' := [some (.ref 91), some (.int (iz q)), some (.int (iz 0)), some (.int (iz q)), some (.int (iz 0))]) (st' := [.int (iz 5), .int (iz 0)]) (h' := cxW z (uf f 4 w) C T rc tl) rfl ?_
  refine Rx.ge2 rfl rfl ⟨by omega, by omega⟩ ⟨by omega, by omega⟩ (fun b1 => by omega) (fun b1 => ?_)
  refine Rx.walk 6 (pc' := 23) (L' := [some (.ref 91), some (.int (iz q)), some (.int (iz 0)), some (.int (iz q)), some (.int (iz 0))]) (st' := [.int (iz 5), .int (iz q), .ref 4, .int (iz 0)]) (h' := cxW z (uf f 4 w) C T rc tl) rfl ?_
  refine Rx.irem rfl ⟨by omega, by omega⟩ ⟨by omega, by omega⟩ (by omega) (by omega) ?_
  refine Rx.ial (g := w) rfl rfl (by omega) (by omega) (by omega) ?_
  have hwb2 := hw.2 (q % 5) (by omega) (by omega)
  refine Rx.iadd rfl ?_
  refine Rx.walk 3 (pc' := 29) (L' := [some (.ref 91), some (.int (iz q)), some (.int (iz (0 + (w (q % 5))))), some (.int (iz q)), some (.int (iz 0))]) (st' := [.int (iz 5), .int (iz q)]) (h' := cxW z (uf f 4 w) C T rc tl) rfl ?_
  refine Rx.idiv rfl ⟨by omega, by omega⟩ ⟨by omega, by omega⟩ (by omega) (by omega) ?_
  refine Rx.walk 1 (pc' := 31) (L' := [some (.ref 91), some (.int (iz q)), some (.int (iz (0 + (w (q % 5))))), some (.int (iz (q / 5))), some (.int (iz 0))]) (st' := []) (h' := cxW z (uf f 4 w) C T rc tl) rfl ?_
  refine Rx.iinc (b := 1) rfl rfl rfl ?_
  refine Rx.walk 0 (pc' := 34) (L' := [some (.ref 91), some (.int (iz q)), some (.int (iz (0 + (w (q % 5))))), some (.int (iz (q / 5))), some (.int (iz 1))]) (st' := []) (h' := cxW z (uf f 4 w) C T rc tl) rfl ?_
  refine Rx.walk 3 (pc' := 10) (L' := [some (.ref 91), some (.int (iz q)), some (.int (iz (0 + (w (q % 5))))), some (.int (iz (q / 5))), some (.int (iz 1))]) (st' := [.int (iz 5), .int (iz 1)]) (h' := cxW z (uf f 4 w) C T rc tl) rfl ?_
  refine Rx.ge2 rfl rfl ⟨by omega, by omega⟩ ⟨by omega, by omega⟩ (fun b3 => by omega) (fun b3 => ?_)
  refine Rx.walk 6 (pc' := 23) (L' := [some (.ref 91), some (.int (iz q)), some (.int (iz (0 + (w (q % 5))))), some (.int (iz (q / 5))), some (.int (iz 1))]) (st' := [.int (iz 5), .int (iz (q / 5)), .ref 4, .int (iz (0 + (w (q % 5))))]) (h' := cxW z (uf f 4 w) C T rc tl) rfl ?_
  refine Rx.irem rfl ⟨by omega, by omega⟩ ⟨by omega, by omega⟩ (by omega) (by omega) ?_
  refine Rx.ial (g := w) rfl rfl (by omega) (by omega) (by omega) ?_
  have hwb4 := hw.2 ((q / 5) % 5) (by omega) (by omega)
  refine Rx.iadd rfl ?_
  refine Rx.walk 3 (pc' := 29) (L' := [some (.ref 91), some (.int (iz q)), some (.int (iz ((0 + (w (q % 5))) + (w ((q / 5) % 5))))), some (.int (iz (q / 5))), some (.int (iz 1))]) (st' := [.int (iz 5), .int (iz (q / 5))]) (h' := cxW z (uf f 4 w) C T rc tl) rfl ?_
  refine Rx.idiv rfl ⟨by omega, by omega⟩ ⟨by omega, by omega⟩ (by omega) (by omega) ?_
  refine Rx.walk 1 (pc' := 31) (L' := [some (.ref 91), some (.int (iz q)), some (.int (iz ((0 + (w (q % 5))) + (w ((q / 5) % 5))))), some (.int (iz ((q / 5) / 5))), some (.int (iz 1))]) (st' := []) (h' := cxW z (uf f 4 w) C T rc tl) rfl ?_
  refine Rx.iinc (b := 1) rfl rfl rfl ?_
  refine Rx.walk 0 (pc' := 34) (L' := [some (.ref 91), some (.int (iz q)), some (.int (iz ((0 + (w (q % 5))) + (w ((q / 5) % 5))))), some (.int (iz ((q / 5) / 5))), some (.int (iz 2))]) (st' := []) (h' := cxW z (uf f 4 w) C T rc tl) rfl ?_
  refine Rx.walk 3 (pc' := 10) (L' := [some (.ref 91), some (.int (iz q)), some (.int (iz ((0 + (w (q % 5))) + (w ((q / 5) % 5))))), some (.int (iz ((q / 5) / 5))), some (.int (iz 2))]) (st' := [.int (iz 5), .int (iz 2)]) (h' := cxW z (uf f 4 w) C T rc tl) rfl ?_
  refine Rx.ge2 rfl rfl ⟨by omega, by omega⟩ ⟨by omega, by omega⟩ (fun b5 => by omega) (fun b5 => ?_)
  refine Rx.walk 6 (pc' := 23) (L' := [some (.ref 91), some (.int (iz q)), some (.int (iz ((0 + (w (q % 5))) + (w ((q / 5) % 5))))), some (.int (iz ((q / 5) / 5))), some (.int (iz 2))]) (st' := [.int (iz 5), .int (iz ((q / 5) / 5)), .ref 4, .int (iz ((0 + (w (q % 5))) + (w ((q / 5) % 5))))]) (h' := cxW z (uf f 4 w) C T rc tl) rfl ?_
  refine Rx.irem rfl ⟨by omega, by omega⟩ ⟨by omega, by omega⟩ (by omega) (by omega) ?_
  refine Rx.ial (g := w) rfl rfl (by omega) (by omega) (by omega) ?_
  have hwb6 := hw.2 (((q / 5) / 5) % 5) (by omega) (by omega)
  refine Rx.iadd rfl ?_
  refine Rx.walk 3 (pc' := 29) (L' := [some (.ref 91), some (.int (iz q)), some (.int (iz (((0 + (w (q % 5))) + (w ((q / 5) % 5))) + (w (((q / 5) / 5) % 5))))), some (.int (iz ((q / 5) / 5))), some (.int (iz 2))]) (st' := [.int (iz 5), .int (iz ((q / 5) / 5))]) (h' := cxW z (uf f 4 w) C T rc tl) rfl ?_
  refine Rx.idiv rfl ⟨by omega, by omega⟩ ⟨by omega, by omega⟩ (by omega) (by omega) ?_
  refine Rx.walk 1 (pc' := 31) (L' := [some (.ref 91), some (.int (iz q)), some (.int (iz (((0 + (w (q % 5))) + (w ((q / 5) % 5))) + (w (((q / 5) / 5) % 5))))), some (.int (iz (((q / 5) / 5) / 5))), some (.int (iz 2))]) (st' := []) (h' := cxW z (uf f 4 w) C T rc tl) rfl ?_
  refine Rx.iinc (b := 1) rfl rfl rfl ?_
  refine Rx.walk 0 (pc' := 34) (L' := [some (.ref 91), some (.int (iz q)), some (.int (iz (((0 + (w (q % 5))) + (w ((q / 5) % 5))) + (w (((q / 5) / 5) % 5))))), some (.int (iz (((q / 5) / 5) / 5))), some (.int (iz 3))]) (st' := []) (h' := cxW z (uf f 4 w) C T rc tl) rfl ?_
  refine Rx.walk 3 (pc' := 10) (L' := [some (.ref 91), some (.int (iz q)), some (.int (iz (((0 + (w (q % 5))) + (w ((q / 5) % 5))) + (w (((q / 5) / 5) % 5))))), some (.int (iz (((q / 5) / 5) / 5))), some (.int (iz 3))]) (st' := [.int (iz 5), .int (iz 3)]) (h' := cxW z (uf f 4 w) C T rc tl) rfl ?_
  refine Rx.ge2 rfl rfl ⟨by omega, by omega⟩ ⟨by omega, by omega⟩ (fun b7 => by omega) (fun b7 => ?_)
  refine Rx.walk 6 (pc' := 23) (L' := [some (.ref 91), some (.int (iz q)), some (.int (iz (((0 + (w (q % 5))) + (w ((q / 5) % 5))) + (w (((q / 5) / 5) % 5))))), some (.int (iz (((q / 5) / 5) / 5))), some (.int (iz 3))]) (st' := [.int (iz 5), .int (iz (((q / 5) / 5) / 5)), .ref 4, .int (iz (((0 + (w (q % 5))) + (w ((q / 5) % 5))) + (w (((q / 5) / 5) % 5))))]) (h' := cxW z (uf f 4 w) C T rc tl) rfl ?_
  refine Rx.irem rfl ⟨by omega, by omega⟩ ⟨by omega, by omega⟩ (by omega) (by omega) ?_
  refine Rx.ial (g := w) rfl rfl (by omega) (by omega) (by omega) ?_
  have hwb8 := hw.2 ((((q / 5) / 5) / 5) % 5) (by omega) (by omega)
  refine Rx.iadd rfl ?_
  refine Rx.walk 3 (pc' := 29) (L' := [some (.ref 91), some (.int (iz q)), some (.int (iz ((((0 + (w (q % 5))) + (w ((q / 5) % 5))) + (w (((q / 5) / 5) % 5))) + (w ((((q / 5) / 5) / 5) % 5))))), some (.int (iz (((q / 5) / 5) / 5))), some (.int (iz 3))]) (st' := [.int (iz 5), .int (iz (((q / 5) / 5) / 5))]) (h' := cxW z (uf f 4 w) C T rc tl) rfl ?_
  refine Rx.idiv rfl ⟨by omega, by omega⟩ ⟨by omega, by omega⟩ (by omega) (by omega) ?_
  refine Rx.walk 1 (pc' := 31) (L' := [some (.ref 91), some (.int (iz q)), some (.int (iz ((((0 + (w (q % 5))) + (w ((q / 5) % 5))) + (w (((q / 5) / 5) % 5))) + (w ((((q / 5) / 5) / 5) % 5))))), some (.int (iz ((((q / 5) / 5) / 5) / 5))), some (.int (iz 3))]) (st' := []) (h' := cxW z (uf f 4 w) C T rc tl) rfl ?_
  refine Rx.iinc (b := 1) rfl rfl rfl ?_
  refine Rx.walk 0 (pc' := 34) (L' := [some (.ref 91), some (.int (iz q)), some (.int (iz ((((0 + (w (q % 5))) + (w ((q / 5) % 5))) + (w (((q / 5) / 5) % 5))) + (w ((((q / 5) / 5) / 5) % 5))))), some (.int (iz ((((q / 5) / 5) / 5) / 5))), some (.int (iz 4))]) (st' := []) (h' := cxW z (uf f 4 w) C T rc tl) rfl ?_
  refine Rx.walk 3 (pc' := 10) (L' := [some (.ref 91), some (.int (iz q)), some (.int (iz ((((0 + (w (q % 5))) + (w ((q / 5) % 5))) + (w (((q / 5) / 5) % 5))) + (w ((((q / 5) / 5) / 5) % 5))))), some (.int (iz ((((q / 5) / 5) / 5) / 5))), some (.int (iz 4))]) (st' := [.int (iz 5), .int (iz 4)]) (h' := cxW z (uf f 4 w) C T rc tl) rfl ?_
  refine Rx.ge2 rfl rfl ⟨by omega, by omega⟩ ⟨by omega, by omega⟩ (fun b9 => by omega) (fun b9 => ?_)
  refine Rx.walk 6 (pc' := 23) (L' := [some (.ref 91), some (.int (iz q)), some (.int (iz ((((0 + (w (q % 5))) + (w ((q / 5) % 5))) + (w (((q / 5) / 5) % 5))) + (w ((((q / 5) / 5) / 5) % 5))))), some (.int (iz ((((q / 5) / 5) / 5) / 5))), some (.int (iz 4))]) (st' := [.int (iz 5), .int (iz ((((q / 5) / 5) / 5) / 5)), .ref 4, .int (iz ((((0 + (w (q % 5))) + (w ((q / 5) % 5))) + (w (((q / 5) / 5) % 5))) + (w ((((q / 5) / 5) / 5) % 5))))]) (h' := cxW z (uf f 4 w) C T rc tl) rfl ?_
  refine Rx.irem rfl ⟨by omega, by omega⟩ ⟨by omega, by omega⟩ (by omega) (by omega) ?_
  refine Rx.ial (g := w) rfl rfl (by omega) (by omega) (by omega) ?_
  have hwb10 := hw.2 (((((q / 5) / 5) / 5) / 5) % 5) (by omega) (by omega)
  refine Rx.iadd rfl ?_
  refine Rx.walk 3 (pc' := 29) (L' := [some (.ref 91), some (.int (iz q)), some (.int (iz (((((0 + (w (q % 5))) + (w ((q / 5) % 5))) + (w (((q / 5) / 5) % 5))) + (w ((((q / 5) / 5) / 5) % 5))) + (w (((((q / 5) / 5) / 5) / 5) % 5))))), some (.int (iz ((((q / 5) / 5) / 5) / 5))), some (.int (iz 4))]) (st' := [.int (iz 5), .int (iz ((((q / 5) / 5) / 5) / 5))]) (h' := cxW z (uf f 4 w) C T rc tl) rfl ?_
  refine Rx.idiv rfl ⟨by omega, by omega⟩ ⟨by omega, by omega⟩ (by omega) (by omega) ?_
  refine Rx.walk 1 (pc' := 31) (L' := [some (.ref 91), some (.int (iz q)), some (.int (iz (((((0 + (w (q % 5))) + (w ((q / 5) % 5))) + (w (((q / 5) / 5) % 5))) + (w ((((q / 5) / 5) / 5) % 5))) + (w (((((q / 5) / 5) / 5) / 5) % 5))))), some (.int (iz (((((q / 5) / 5) / 5) / 5) / 5))), some (.int (iz 4))]) (st' := []) (h' := cxW z (uf f 4 w) C T rc tl) rfl ?_
  refine Rx.iinc (b := 1) rfl rfl rfl ?_
  refine Rx.walk 0 (pc' := 34) (L' := [some (.ref 91), some (.int (iz q)), some (.int (iz (((((0 + (w (q % 5))) + (w ((q / 5) % 5))) + (w (((q / 5) / 5) % 5))) + (w ((((q / 5) / 5) / 5) % 5))) + (w (((((q / 5) / 5) / 5) / 5) % 5))))), some (.int (iz (((((q / 5) / 5) / 5) / 5) / 5))), some (.int (iz 5))]) (st' := []) (h' := cxW z (uf f 4 w) C T rc tl) rfl ?_
  refine Rx.walk 3 (pc' := 10) (L' := [some (.ref 91), some (.int (iz q)), some (.int (iz (((((0 + (w (q % 5))) + (w ((q / 5) % 5))) + (w (((q / 5) / 5) % 5))) + (w ((((q / 5) / 5) / 5) % 5))) + (w (((((q / 5) / 5) / 5) / 5) % 5))))), some (.int (iz (((((q / 5) / 5) / 5) / 5) / 5))), some (.int (iz 5))]) (st' := [.int (iz 5), .int (iz 5)]) (h' := cxW z (uf f 4 w) C T rc tl) rfl ?_
  refine Rx.ge2 rfl rfl ⟨by omega, by omega⟩ ⟨by omega, by omega⟩ (fun b11 => ?_) (fun b11 => by omega)
  refine Rx.walk 1 (pc' := 38) (L' := [some (.ref 91), some (.int (iz q)), some (.int (iz (((((0 + (w (q % 5))) + (w ((q / 5) % 5))) + (w (((q / 5) / 5) % 5))) + (w ((((q / 5) / 5) / 5) % 5))) + (w (((((q / 5) / 5) / 5) / 5) % 5))))), some (.int (iz (((((q / 5) / 5) / 5) / 5) / 5))), some (.int (iz 5))]) (st' := [.int (iz (((((0 + (w (q % 5))) + (w ((q / 5) % 5))) + (w (((q / 5) / 5) % 5))) + (w ((((q / 5) / 5) / 5) % 5))) + (w (((((q / 5) / 5) / 5) / 5) % 5))))]) (h' := cxW z (uf f 4 w) C T rc tl) rfl ?_
  refine Rx.ret rfl ?_
  exact ⟨_, rfl, rfl, by unfold wsm; omega⟩
set_option maxRecDepth 100000 in
set_option maxHeartbeats 4000000 in
theorem x_handsB_l (d : Nat) (z : Nat → Nat → Int) (f : Nat → Int → Int) (C : Nat → CuR) (T : Nat → TsR) (rc : Nat → Nat) (tl : AmH)  (sp : Int) (w : Int → Int) (Rz : Int × Int × Int × Int) (hw : wOK w) (P : Option Value → AmH → Prop) (hx0 : ∀ (r : Int) (g' : Int → Int) (t' : Int), (r = Rz.1 ∧ g' 0 = Rz.2.1 ∧ g' 1 = Rz.2.2.1 ∧ t' = Rz.2.2.2) → ((0 ≤ g' 0 ∧ g' 0 < 3125) ∧ (0 ≤ g' 1 ∧ g' 1 < 3125) ∧ (0 ≤ t' ∧ t' ≤ 4)) → (r = 0 ∨ r = 1) → P (some (.int (iz r))) (cxW (u2 z 91 3 t') (uf (uf f 4 w) 92 g') C T rc tl)) : ∀ (kF : Nat) (l : Int) (i : Int) (g : Int → Int) (t : Int) (w4 : Option Value) (w5 : Option Value) (w6 : Option Value) (w7 : Option Value), (0 ≤ i ∧ i ≤ 11) → (0 ≤ l ∧ l ≤ 400) → (0 ≤ g 0 ∧ g 0 < 3125) → (0 ≤ g 1 ∧ g 1 < 3125) → (0 ≤ t ∧ t ≤ 4) → (Rz = hbk w (11 - i).toNat (g 0) (g 1) t l) → (11 - i) < (kF : Int) → Rx (d + 1) m_X1_handsBack 4 [some (.ref 91), some (.int (iz sp)), some (.int (iz l)), some (.int (iz i)), w4, w5, w6, w7] [] (cxW (u2 z 91 3 t) (uf (uf f 4 w) 92 g) C T rc tl) P := by
  intro kF
  induction kF with
  | zero =>
    intro l i g t w4 w5 w6 w7 hi hl hg0 hg1 ht hH hk
    exfalso; omega
  | succ kF ih =>
    intro l i g t w4 w5 w6 w7 hi hl hg0 hg1 ht hH hk
    refine Rx.walk 2 (pc' := 7) (L' := [some (.ref 91), some (.int (iz sp)), some (.int (iz l)), some (.int (iz i)), w4, w5, w6, w7]) (st' := [.int (iz 11), .int (iz i)]) (h' := cxW (u2 z 91 3 t) (uf (uf f 4 w) 92 g) C T rc tl) rfl ?_
    refine Rx.ge2 rfl rfl ⟨by omega, by omega⟩ ⟨by omega, by omega⟩ (fun b1 => ?_) (fun b1 => ?_)
    · refine Rx.walk 1 (pc' := 141) (L' := [some (.ref 91), some (.int (iz sp)), some (.int (iz l)), some (.int (iz i)), w4, w5, w6, w7]) (st' := [.int (iz l)]) (h' := cxW (u2 z 91 3 t) (uf (uf f 4 w) 92 g) C T rc tl) rfl ?_
      refine Rx.ne1 rfl rfl ⟨by omega, by omega⟩ (fun b2 => ?_) (fun b2 => ?_)
      · refine Rx.walk 1 (pc' := 149) (L' := [some (.ref 91), some (.int (iz sp)), some (.int (iz l)), some (.int (iz i)), w4, w5, w6, w7]) (st' := [.int (iz 0)]) (h' := cxW (u2 z 91 3 t) (uf (uf f 4 w) 92 g) C T rc tl) rfl ?_
        refine Rx.ret rfl ?_
        exact hx0 _ _ _ (by rw [show (11 - i).toNat = 0 by omega, hbk_z (by omega)] at hH; rw [hH]; exact ⟨rfl, rfl, rfl, rfl⟩) ⟨hg0, hg1, ht⟩ (Or.inl rfl)
      · refine Rx.walk 2 (pc' := 149) (L' := [some (.ref 91), some (.int (iz sp)), some (.int (iz l)), some (.int (iz i)), w4, w5, w6, w7]) (st' := [.int (iz 1)]) (h' := cxW (u2 z 91 3 t) (uf (uf f 4 w) 92 g) C T rc tl) rfl ?_
        refine Rx.ret rfl ?_
        exact hx0 _ _ _ (by rw [hbk_0 (by omega)] at hH; rw [hH]; exact ⟨rfl, rfl, rfl, rfl⟩) ⟨hg0, hg1, ht⟩ (Or.inr rfl)
    · refine Rx.walk 1 (pc' := 11) (L' := [some (.ref 91), some (.int (iz sp)), some (.int (iz l)), some (.int (iz i)), w4, w5, w6, w7]) (st' := [.int (iz l)]) (h' := cxW (u2 z 91 3 t) (uf (uf f 4 w) 92 g) C T rc tl) rfl ?_
      refine Rx.le1 rfl rfl ⟨by omega, by omega⟩ (fun b3 => ?_) (fun b3 => ?_)
      · refine Rx.walk 1 (pc' := 141) (L' := [some (.ref 91), some (.int (iz sp)), some (.int (iz l)), some (.int (iz i)), w4, w5, w6, w7]) (st' := [.int (iz l)]) (h' := cxW (u2 z 91 3 t) (uf (uf f 4 w) 92 g) C T rc tl) rfl ?_
        refine Rx.ne1 rfl rfl ⟨by omega, by omega⟩ (fun b4 => ?_) (fun b4 => ?_)
        · refine Rx.walk 1 (pc' := 149) (L' := [some (.ref 91), some (.int (iz sp)), some (.int (iz l)), some (.int (iz i)), w4, w5, w6, w7]) (st' := [.int (iz 0)]) (h' := cxW (u2 z 91 3 t) (uf (uf f 4 w) 92 g) C T rc tl) rfl ?_
          refine Rx.ret rfl ?_
          exact hx0 _ _ _ (by exfalso; omega) ⟨hg0, hg1, ht⟩ (Or.inl rfl)
        · refine Rx.walk 2 (pc' := 149) (L' := [some (.ref 91), some (.int (iz sp)), some (.int (iz l)), some (.int (iz i)), w4, w5, w6, w7]) (st' := [.int (iz 1)]) (h' := cxW (u2 z 91 3 t) (uf (uf f 4 w) 92 g) C T rc tl) rfl ?_
          refine Rx.ret rfl ?_
          exact hx0 _ _ _ (by rw [hbk_0 (by omega)] at hH; rw [hH]; exact ⟨rfl, rfl, rfl, rfl⟩) ⟨hg0, hg1, ht⟩ (Or.inr rfl)
      · refine Rx.walk 4 (pc' := 20) (L' := [some (.ref 91), some (.int (iz sp)), some (.int (iz l)), some (.int (iz i)), w4, w5, w6, w7]) (st' := [.int (iz 0), .ref 92, .ref 91]) (h' := cxW (u2 z 91 3 t) (uf (uf f 4 w) 92 g) C T rc tl) rfl ?_
        refine Rx.ial (g := g) rfl rfl (by omega) (by omega) (by omega) ?_
        refine Rx.walk 1 (pc' := 22) (L' := [some (.ref 91), some (.int (iz sp)), some (.int (iz l)), some (.int (iz i)), w4, w5, w6, w7]) (st' := [.int (iz 5), .int (iz (g 0)), .ref 91]) (h' := cxW (u2 z 91 3 t) (uf (uf f 4 w) 92 g) C T rc tl) rfl ?_
        refine Rx.irem rfl ⟨by omega, by omega⟩ ⟨by omega, by omega⟩ (by omega) (by omega) ?_
        refine Rx.walk 1 (pc' := 24) (L' := [some (.ref 91), some (.int (iz sp)), some (.int (iz l)), some (.int (iz i)), w4, w5, w6, w7]) (st' := [.int (iz l), .int (iz ((g 0) % 5)), .ref 91]) (h' := cxW (u2 z 91 3 t) (uf (uf f 4 w) 92 g) C T rc tl) rfl ?_
        refine Rx.callx (m' := m_X1_fitting) (as := [.ref 91, .int (iz ((g 0) % 5)), .int (iz l)]) (rest := []) rfl (x_fitting _ (u2 z 91 3 t) (uf f 92 g) C T rc tl  ((g 0) % 5) l w hw ⟨by omega, by omega⟩ hl) (fun v8 h9 q10 => ?_)
        obtain ⟨r_5, rfl, rfl, f6, f7⟩ := q10
        refine Rx.walk 0 (pc' := 27) (L' := [some (.ref 91), some (.int (iz sp)), some (.int (iz l)), some (.int (iz i)), w4, w5, w6, w7]) (st' := [.int (iz r_5)]) (h' := cxW (u2 z 91 3 t) (uf (uf f 4 w) 92 g) C T rc tl) rfl ?_
        refine Rx.walk 5 (pc' := 35) (L' := [some (.ref 91), some (.int (iz sp)), some (.int (iz l)), some (.int (iz i)), some (.int (iz r_5)), w5, w6, w7]) (st' := [.int (iz 1), .ref 92, .ref 91]) (h' := cxW (u2 z 91 3 t) (uf (uf f 4 w) 92 g) C T rc tl) rfl ?_
        refine Rx.ial (g := g) rfl rfl (by omega) (by omega) (by omega) ?_
        refine Rx.walk 1 (pc' := 37) (L' := [some (.ref 91), some (.int (iz sp)), some (.int (iz l)), some (.int (iz i)), some (.int (iz r_5)), w5, w6, w7]) (st' := [.int (iz 5), .int (iz (g 1)), .ref 91]) (h' := cxW (u2 z 91 3 t) (uf (uf f 4 w) 92 g) C T rc tl) rfl ?_
        refine Rx.irem rfl ⟨by omega, by omega⟩ ⟨by omega, by omega⟩ (by omega) (by omega) ?_
        refine Rx.walk 1 (pc' := 39) (L' := [some (.ref 91), some (.int (iz sp)), some (.int (iz l)), some (.int (iz i)), some (.int (iz r_5)), w5, w6, w7]) (st' := [.int (iz l), .int (iz ((g 1) % 5)), .ref 91]) (h' := cxW (u2 z 91 3 t) (uf (uf f 4 w) 92 g) C T rc tl) rfl ?_
        refine Rx.callx (m' := m_X1_fitting) (as := [.ref 91, .int (iz ((g 1) % 5)), .int (iz l)]) (rest := []) rfl (x_fitting _ (u2 z 91 3 t) (uf f 92 g) C T rc tl  ((g 1) % 5) l w hw ⟨by omega, by omega⟩ hl) (fun v14 h15 q16 => ?_)
        obtain ⟨r_11, rfl, rfl, f12, f13⟩ := q16
        refine Rx.walk 0 (pc' := 42) (L' := [some (.ref 91), some (.int (iz sp)), some (.int (iz l)), some (.int (iz i)), some (.int (iz r_5)), w5, w6, w7]) (st' := [.int (iz r_11)]) (h' := cxW (u2 z 91 3 t) (uf (uf f 4 w) 92 g) C T rc tl) rfl ?_
        refine Rx.walk 5 (pc' := 50) (L' := [some (.ref 91), some (.int (iz sp)), some (.int (iz l)), some (.int (iz i)), some (.int (iz r_5)), some (.int (iz r_11)), w6, w7]) (st' := [.int (iz l), .int (iz t), .ref 91]) (h' := cxW (u2 z 91 3 t) (uf (uf f 4 w) 92 g) C T rc tl) rfl ?_
        refine Rx.callx (m' := m_X1_fitting) (as := [.ref 91, .int (iz t), .int (iz l)]) (rest := []) rfl (x_fitting _ (u2 z 91 3 t) (uf f 92 g) C T rc tl  t l w hw ⟨by omega, by omega⟩ hl) (fun v20 h21 q22 => ?_)
        obtain ⟨r_17, rfl, rfl, f18, f19⟩ := q22
        refine Rx.walk 0 (pc' := 53) (L' := [some (.ref 91), some (.int (iz sp)), some (.int (iz l)), some (.int (iz i)), some (.int (iz r_5)), some (.int (iz r_11)), w6, w7]) (st' := [.int (iz r_17)]) (h' := cxW (u2 z 91 3 t) (uf (uf f 4 w) 92 g) C T rc tl) rfl ?_
        refine Rx.walk 4 (pc' := 61) (L' := [some (.ref 91), some (.int (iz sp)), some (.int (iz l)), some (.int (iz i)), some (.int (iz r_5)), some (.int (iz r_11)), some (.int (iz r_17)), w7]) (st' := [.int (iz r_17), .int (iz r_11), .int (iz r_5)]) (h' := cxW (u2 z 91 3 t) (uf (uf f 4 w) 92 g) C T rc tl) rfl ?_
        refine Rx.imax rfl ⟨by omega, by omega⟩ ⟨by omega, by omega⟩ ?_
        refine Rx.imax rfl ⟨by omega, by omega⟩ ⟨by omega, by omega⟩ ?_
        refine Rx.walk 1 (pc' := 69) (L' := [some (.ref 91), some (.int (iz sp)), some (.int (iz l)), some (.int (iz i)), some (.int (iz r_5)), some (.int (iz r_11)), some (.int (iz r_17)), some (.int (iz (max r_5 (max r_11 r_17))))]) (st' := []) (h' := cxW (u2 z 91 3 t) (uf (uf f 4 w) 92 g) C T rc tl) rfl ?_
        have hgr : (max r_5 (max r_11 r_17)) = bkG w (g 0) (g 1) t l := by unfold bkG; rw [← f6, ← f12, ← f18]
        refine Rx.walk 1 (pc' := 71) (L' := [some (.ref 91), some (.int (iz sp)), some (.int (iz l)), some (.int (iz i)), some (.int (iz r_5)), some (.int (iz r_11)), some (.int (iz r_17)), some (.int (iz (max r_5 (max r_11 r_17))))]) (st' := [.int (iz (max r_5 (max r_11 r_17)))]) (h' := cxW (u2 z 91 3 t) (uf (uf f 4 w) 92 g) C T rc tl) rfl ?_
        refine Rx.ne1 rfl rfl ⟨by omega, by omega⟩ (fun b23 => ?_) (fun b23 => ?_)
        · have hgn : bkG w (g 0) (g 1) t l ≠ 0 := by rw [← hgr]; omega
          have hgw := bkG_w (w := w) (l := l) hg0.1 hg1.1 ht.1 ht.2 hgn
          have hgb := hw.2 (bkG w (g 0) (g 1) t l) (by omega) (by omega)
          rw [show (11 - i).toNat = (11 - (i + 1)).toNat + 1 by omega] at hH
          refine Rx.walk 2 (pc' := 80) (L' := [some (.ref 91), some (.int (iz sp)), some (.int (iz l)), some (.int (iz i)), some (.int (iz r_5)), some (.int (iz r_11)), some (.int (iz r_17)), some (.int (iz (max r_5 (max r_11 r_17))))]) (st' := [.int (iz (max r_5 (max r_11 r_17))), .int (iz r_5)]) (h' := cxW (u2 z 91 3 t) (uf (uf f 4 w) 92 g) C T rc tl) rfl ?_
          refine Rx.ne2 rfl rfl ⟨by omega, by omega⟩ ⟨by omega, by omega⟩ (fun b24 => ?_) (fun b24 => ?_)
          · refine Rx.walk 2 (pc' := 100) (L' := [some (.ref 91), some (.int (iz sp)), some (.int (iz l)), some (.int (iz i)), some (.int (iz r_5)), some (.int (iz r_11)), some (.int (iz r_17)), some (.int (iz (max r_5 (max r_11 r_17))))]) (st' := [.int (iz (max r_5 (max r_11 r_17))), .int (iz r_11)]) (h' := cxW (u2 z 91 3 t) (uf (uf f 4 w) 92 g) C T rc tl) rfl ?_
            refine Rx.ne2 rfl rfl ⟨by omega, by omega⟩ ⟨by omega, by omega⟩ (fun b25 => ?_) (fun b25 => ?_)
            · refine Rx.walk 8 (pc' := 131) (L' := [some (.ref 91), some (.int (iz sp)), some (.int (iz l)), some (.int (iz i)), some (.int (iz r_5)), some (.int (iz r_11)), some (.int (iz r_17)), some (.int (iz (max r_5 (max r_11 r_17))))]) (st' := [.int (iz (max r_5 (max r_11 r_17))), .ref 4, .int (iz l)]) (h' := cxW (u2 z 91 3 0) (uf (uf f 4 w) 92 g) C T rc tl) rfl ?_
              refine Rx.ial (g := w) rfl rfl (by omega) (by omega) (by omega) ?_
              rw [show (w (max r_5 (max r_11 r_17))) = w (bkG w (g 0) (g 1) t l) from congrArg w hgr]
              refine Rx.isub rfl ?_
              refine Rx.walk 1 (pc' := 134) (L' := [some (.ref 91), some (.int (iz sp)), some (.int (iz (l - (w (bkG w (g 0) (g 1) t l))))), some (.int (iz i)), some (.int (iz r_5)), some (.int (iz r_11)), some (.int (iz r_17)), some (.int (iz (max r_5 (max r_11 r_17))))]) (st' := []) (h' := cxW (u2 z 91 3 0) (uf (uf f 4 w) 92 g) C T rc tl) rfl ?_
              refine Rx.iinc (b := 1) rfl rfl rfl ?_
              refine Rx.walk 0 (pc' := 137) (L' := [some (.ref 91), some (.int (iz sp)), some (.int (iz (l - (w (bkG w (g 0) (g 1) t l))))), some (.int (iz (i + 1))), some (.int (iz r_5)), some (.int (iz r_11)), some (.int (iz r_17)), some (.int (iz (max r_5 (max r_11 r_17))))]) (st' := []) (h' := cxW (u2 z 91 3 0) (uf (uf f 4 w) 92 g) C T rc tl) rfl ?_
              refine Rx.walk 1 (pc' := 4) (L' := [some (.ref 91), some (.int (iz sp)), some (.int (iz (l - (w (bkG w (g 0) (g 1) t l))))), some (.int (iz (i + 1))), some (.int (iz r_5)), some (.int (iz r_11)), some (.int (iz r_17)), some (.int (iz (max r_5 (max r_11 r_17))))]) (st' := []) (h' := cxW (u2 z 91 3 0) (uf (uf f 4 w) 92 g) C T rc tl) rfl ?_
              exact ih (l - (w (bkG w (g 0) (g 1) t l))) (i + 1) g 0 (some (.int (iz r_5))) (some (.int (iz r_11))) (some (.int (iz r_17))) (some (.int (iz (max r_5 (max r_11 r_17))))) ⟨by omega, by omega⟩ ⟨by omega, by omega⟩ hg0 hg1 ⟨by omega, by omega⟩ (by rw [← hbk_c (by omega) hgn (by rw [← f6, ← hgr]; omega) (by rw [← f12, ← hgr]; omega)]; exact hH) (by omega) 
            · refine Rx.walk 4 (pc' := 109) (L' := [some (.ref 91), some (.int (iz sp)), some (.int (iz l)), some (.int (iz i)), some (.int (iz r_5)), some (.int (iz r_11)), some (.int (iz r_17)), some (.int (iz (max r_5 (max r_11 r_17))))]) (st' := [.int (iz 1), .ref 92, .int (iz 1), .ref 92]) (h' := cxW (u2 z 91 3 t) (uf (uf f 4 w) 92 g) C T rc tl) rfl ?_
              refine Rx.ial (g := g) rfl rfl (by omega) (by omega) (by omega) ?_
              refine Rx.walk 1 (pc' := 111) (L' := [some (.ref 91), some (.int (iz sp)), some (.int (iz l)), some (.int (iz i)), some (.int (iz r_5)), some (.int (iz r_11)), some (.int (iz r_17)), some (.int (iz (max r_5 (max r_11 r_17))))]) (st' := [.int (iz 5), .int (iz (g 1)), .int (iz 1), .ref 92]) (h' := cxW (u2 z 91 3 t) (uf (uf f 4 w) 92 g) C T rc tl) rfl ?_
              refine Rx.idiv rfl ⟨by omega, by omega⟩ ⟨by omega, by omega⟩ (by omega) (by omega) ?_
              refine Rx.ias (g := g) (h' := cxW (u2 z 91 3 t) (uf (uf f 4 w) 92 (iu g 1 ((g 1) / 5))) C T rc tl) rfl rfl (by omega) (by omega) (by omega) rfl ?_
              refine Rx.walk 6 (pc' := 131) (L' := [some (.ref 91), some (.int (iz sp)), some (.int (iz l)), some (.int (iz i)), some (.int (iz r_5)), some (.int (iz r_11)), some (.int (iz r_17)), some (.int (iz (max r_5 (max r_11 r_17))))]) (st' := [.int (iz (max r_5 (max r_11 r_17))), .ref 4, .int (iz l)]) (h' := cxW (u2 z 91 3 t) (uf (uf f 4 w) 92 (iu g 1 ((g 1) / 5))) C T rc tl) rfl ?_
              refine Rx.ial (g := w) rfl rfl (by omega) (by omega) (by omega) ?_
              rw [show (w (max r_5 (max r_11 r_17))) = w (bkG w (g 0) (g 1) t l) from congrArg w hgr]
              refine Rx.isub rfl ?_
              refine Rx.walk 1 (pc' := 134) (L' := [some (.ref 91), some (.int (iz sp)), some (.int (iz (l - (w (bkG w (g 0) (g 1) t l))))), some (.int (iz i)), some (.int (iz r_5)), some (.int (iz r_11)), some (.int (iz r_17)), some (.int (iz (max r_5 (max r_11 r_17))))]) (st' := []) (h' := cxW (u2 z 91 3 t) (uf (uf f 4 w) 92 (iu g 1 ((g 1) / 5))) C T rc tl) rfl ?_
              refine Rx.iinc (b := 1) rfl rfl rfl ?_
              refine Rx.walk 0 (pc' := 137) (L' := [some (.ref 91), some (.int (iz sp)), some (.int (iz (l - (w (bkG w (g 0) (g 1) t l))))), some (.int (iz (i + 1))), some (.int (iz r_5)), some (.int (iz r_11)), some (.int (iz r_17)), some (.int (iz (max r_5 (max r_11 r_17))))]) (st' := []) (h' := cxW (u2 z 91 3 t) (uf (uf f 4 w) 92 (iu g 1 ((g 1) / 5))) C T rc tl) rfl ?_
              refine Rx.walk 1 (pc' := 4) (L' := [some (.ref 91), some (.int (iz sp)), some (.int (iz (l - (w (bkG w (g 0) (g 1) t l))))), some (.int (iz (i + 1))), some (.int (iz r_5)), some (.int (iz r_11)), some (.int (iz r_17)), some (.int (iz (max r_5 (max r_11 r_17))))]) (st' := []) (h' := cxW (u2 z 91 3 t) (uf (uf f 4 w) 92 (iu g 1 ((g 1) / 5))) C T rc tl) rfl ?_
              exact ih (l - (w (bkG w (g 0) (g 1) t l))) (i + 1) (iu g 1 ((g 1) / 5)) t (some (.int (iz r_5))) (some (.int (iz r_11))) (some (.int (iz r_17))) (some (.int (iz (max r_5 (max r_11 r_17))))) ⟨by omega, by omega⟩ ⟨by omega, by omega⟩ (by rw [iu_ne _ _ (by decide)]; exact hg0) (by rw [iu_at]; exact ⟨by omega, by omega⟩) ht (by rw [iu_at, iu_ne _ _ (by decide), ← hbk_b (by omega) hgn (by rw [← f6, ← hgr]; omega) (by rw [← f12, ← hgr]; omega)]; exact hH) (by omega) 
          · refine Rx.walk 4 (pc' := 89) (L' := [some (.ref 91), some (.int (iz sp)), some (.int (iz l)), some (.int (iz i)), some (.int (iz r_5)), some (.int (iz r_11)), some (.int (iz r_17)), some (.int (iz (max r_5 (max r_11 r_17))))]) (st' := [.int (iz 0), .ref 92, .int (iz 0), .ref 92]) (h' := cxW (u2 z 91 3 t) (uf (uf f 4 w) 92 g) C T rc tl) rfl ?_
            refine Rx.ial (g := g) rfl rfl (by omega) (by omega) (by omega) ?_
            refine Rx.walk 1 (pc' := 91) (L' := [some (.ref 91), some (.int (iz sp)), some (.int (iz l)), some (.int (iz i)), some (.int (iz r_5)), some (.int (iz r_11)), some (.int (iz r_17)), some (.int (iz (max r_5 (max r_11 r_17))))]) (st' := [.int (iz 5), .int (iz (g 0)), .int (iz 0), .ref 92]) (h' := cxW (u2 z 91 3 t) (uf (uf f 4 w) 92 g) C T rc tl) rfl ?_
            refine Rx.idiv rfl ⟨by omega, by omega⟩ ⟨by omega, by omega⟩ (by omega) (by omega) ?_
            refine Rx.ias (g := g) (h' := cxW (u2 z 91 3 t) (uf (uf f 4 w) 92 (iu g 0 ((g 0) / 5))) C T rc tl) rfl rfl (by omega) (by omega) (by omega) rfl ?_
            refine Rx.walk 6 (pc' := 131) (L' := [some (.ref 91), some (.int (iz sp)), some (.int (iz l)), some (.int (iz i)), some (.int (iz r_5)), some (.int (iz r_11)), some (.int (iz r_17)), some (.int (iz (max r_5 (max r_11 r_17))))]) (st' := [.int (iz (max r_5 (max r_11 r_17))), .ref 4, .int (iz l)]) (h' := cxW (u2 z 91 3 t) (uf (uf f 4 w) 92 (iu g 0 ((g 0) / 5))) C T rc tl) rfl ?_
            refine Rx.ial (g := w) rfl rfl (by omega) (by omega) (by omega) ?_
            rw [show (w (max r_5 (max r_11 r_17))) = w (bkG w (g 0) (g 1) t l) from congrArg w hgr]
            refine Rx.isub rfl ?_
            refine Rx.walk 1 (pc' := 134) (L' := [some (.ref 91), some (.int (iz sp)), some (.int (iz (l - (w (bkG w (g 0) (g 1) t l))))), some (.int (iz i)), some (.int (iz r_5)), some (.int (iz r_11)), some (.int (iz r_17)), some (.int (iz (max r_5 (max r_11 r_17))))]) (st' := []) (h' := cxW (u2 z 91 3 t) (uf (uf f 4 w) 92 (iu g 0 ((g 0) / 5))) C T rc tl) rfl ?_
            refine Rx.iinc (b := 1) rfl rfl rfl ?_
            refine Rx.walk 0 (pc' := 137) (L' := [some (.ref 91), some (.int (iz sp)), some (.int (iz (l - (w (bkG w (g 0) (g 1) t l))))), some (.int (iz (i + 1))), some (.int (iz r_5)), some (.int (iz r_11)), some (.int (iz r_17)), some (.int (iz (max r_5 (max r_11 r_17))))]) (st' := []) (h' := cxW (u2 z 91 3 t) (uf (uf f 4 w) 92 (iu g 0 ((g 0) / 5))) C T rc tl) rfl ?_
            refine Rx.walk 1 (pc' := 4) (L' := [some (.ref 91), some (.int (iz sp)), some (.int (iz (l - (w (bkG w (g 0) (g 1) t l))))), some (.int (iz (i + 1))), some (.int (iz r_5)), some (.int (iz r_11)), some (.int (iz r_17)), some (.int (iz (max r_5 (max r_11 r_17))))]) (st' := []) (h' := cxW (u2 z 91 3 t) (uf (uf f 4 w) 92 (iu g 0 ((g 0) / 5))) C T rc tl) rfl ?_
            exact ih (l - (w (bkG w (g 0) (g 1) t l))) (i + 1) (iu g 0 ((g 0) / 5)) t (some (.int (iz r_5))) (some (.int (iz r_11))) (some (.int (iz r_17))) (some (.int (iz (max r_5 (max r_11 r_17))))) ⟨by omega, by omega⟩ ⟨by omega, by omega⟩ (by rw [iu_at]; exact ⟨by omega, by omega⟩) (by rw [iu_ne _ _ (by decide)]; exact hg1) ht (by rw [iu_at, iu_ne _ _ (by decide), ← hbk_a (by omega) hgn (by rw [← f6, ← hgr]; omega)]; exact hH) (by omega) 
        · refine Rx.walk 1 (pc' := 75) (L' := [some (.ref 91), some (.int (iz sp)), some (.int (iz l)), some (.int (iz i)), some (.int (iz r_5)), some (.int (iz r_11)), some (.int (iz r_17)), some (.int (iz (max r_5 (max r_11 r_17))))]) (st' := [.int (iz 0)]) (h' := cxW (u2 z 91 3 t) (uf (uf f 4 w) 92 g) C T rc tl) rfl ?_
          refine Rx.ret rfl ?_
          exact hx0 _ _ _ (by rw [show (11 - i).toNat = (11 - (i + 1)).toNat + 1 by omega, hbk_f (by omega) (by rw [← hgr]; omega)] at hH; rw [hH]; exact ⟨rfl, rfl, rfl, rfl⟩) ⟨hg0, hg1, ht⟩ (Or.inl rfl)
set_option maxRecDepth 100000 in
set_option maxHeartbeats 4000000 in
theorem x_handsB (d : Nat) (z : Nat → Nat → Int) (f : Nat → Int → Int) (C : Nat → CuR) (T : Nat → TsR) (rc : Nat → Nat) (tl : AmH)  (sp : Int) (w : Int → Int) (g : Int → Int) (t : Int) (hw : wOK w) (hl : 0 ≤ sp ∧ sp ≤ 400) (hg0 : 0 ≤ g 0 ∧ g 0 < 3125) (hg1 : 0 ≤ g 1 ∧ g 1 < 3125) (ht : 0 ≤ t ∧ t ≤ 4) : Rx (d + 1) m_X1_handsBack 0 (am_ent [.ref 91, .int (iz sp)] 8) [] (cxW (u2 z 91 3 t) (uf (uf f 4 w) 92 g) C T rc tl) (fun rv h => ∃ r : Int, ∃ g' : Int → Int, ∃ t' : Int, rv = some (.int (iz r)) ∧ h = cxW (u2 z 91 3 t') (uf (uf f 4 w) 92 g') C T rc tl ∧ (r = (hbk w 11 (g 0) (g 1) t sp).1 ∧ g' 0 = (hbk w 11 (g 0) (g 1) t sp).2.1 ∧ g' 1 = (hbk w 11 (g 0) (g 1) t sp).2.2.1 ∧ t' = (hbk w 11 (g 0) (g 1) t sp).2.2.2) ∧ ((0 ≤ g' 0 ∧ g' 0 < 3125) ∧ (0 ≤ g' 1 ∧ g' 1 < 3125) ∧ (0 ≤ t' ∧ t' ≤ 4)) ∧ (r = 0 ∨ r = 1)) := by
  refine Rx.walk 0 (pc' := 0) (L' := [some (.ref 91), some (.int (iz sp)), none, none, none, none, none, none]) (st' := []) (h' := cxW (u2 z 91 3 t) (uf (uf f 4 w) 92 g) C T rc tl) rfl ?_
  refine Rx.walk 4 (pc' := 4) (L' := [some (.ref 91), some (.int (iz sp)), some (.int (iz sp)), some (.int (iz 0)), none, none, none, none]) (st' := []) (h' := cxW (u2 z 91 3 t) (uf (uf f 4 w) 92 g) C T rc tl) rfl ?_
  refine x_handsB_l _ z f C T rc tl  sp w (hbk w 11 (g 0) (g 1) t sp) hw _ ?_ ((11 - 0) + 1 : Int).toNat sp 0 g t none none none none ⟨by omega, by omega⟩ hl hg0 hg1 ht rfl (by omega) 
  intro r_1 g_2 t_3 f4 f5 f6
  show (fun (rv : Option Value) (h : AmH) => ∃ r : Int, ∃ g' : Int → Int, ∃ t' : Int, rv = some (.int (iz r)) ∧ h = cxW (u2 z 91 3 t') (uf (uf f 4 w) 92 g') C T rc tl ∧ (r = (hbk w 11 (g 0) (g 1) t sp).1 ∧ g' 0 = (hbk w 11 (g 0) (g 1) t sp).2.1 ∧ g' 1 = (hbk w 11 (g 0) (g 1) t sp).2.2.1 ∧ t' = (hbk w 11 (g 0) (g 1) t sp).2.2.2) ∧ ((0 ≤ g' 0 ∧ g' 0 < 3125) ∧ (0 ≤ g' 1 ∧ g' 1 < 3125) ∧ (0 ≤ t' ∧ t' ≤ 4)) ∧ (r = 0 ∨ r = 1)) (some (Value.int (iz r_1))) (cxW (u2 z 91 3 t_3) (uf (uf f 4 w) 92 g_2) C T rc tl)
  exact ⟨_, _, _, rfl, rfl, f4, f5, f6⟩
set_option maxRecDepth 100000 in
set_option maxHeartbeats 4000000 in
theorem x_setL0 (d : Nat) (z : Nat → Nat → Int) (f : Nat → Int → Int) (C : Nat → CuR) (T : Nat → TsR) (rc : Nat → Nat) (tl : AmH)  (e : Int) (w : Int → Int) (g : Int → Int) (lt : Int → Int) (hw : wOK w) (he : 0 ≤ e ∧ e ≤ 4) (hg0 : 0 ≤ g 0 ∧ g 0 < 3125) (hg1 : 0 ≤ g 1 ∧ g 1 < 3125) : Rx (d + 1) m_X1_setLetters 0 (am_ent [.ref 91, .int (iz e), .int (iz 0)] 3) [] (cxW z (uf (uf (uf f 4 w) 92 g) 93 lt) C T rc tl) (fun rv h => ∃ lt' : Int → Int, rv = none ∧ h = cxW z (uf (uf (uf f 4 w) 92 g) 93 lt') C T rc tl ∧ (∀ j : Int, 0 ≤ j → j < 6 → lt' j = ltB w e 0 (g 0) (g 1) j)) := by
  refine Rx.walk 0 (pc' := 0) (L' := [some (.ref 91), some (.int (iz e)), some (.int (iz 0))]) (st' := []) (h' := cxW z (uf (uf (uf f 4 w) 92 g) 93 lt) C T rc tl) rfl ?_
  refine Rx.walk 7 (pc' := 13) (L' := [some (.ref 91), some (.int (iz e)), some (.int (iz 0))]) (st' := [.int (iz e), .ref 4, .int (iz 0), .ref 93]) (h' := cxW z (uf (uf (uf f 4 w) 92 g) 93 lt) C T rc tl) rfl ?_
  refine Rx.ial (g := w) rfl rfl (by omega) (by omega) (by omega) ?_
  have hwb1 := hw.2 e (by omega) (by omega)
  refine Rx.ias (g := lt) (h' := cxW z (uf (uf (uf f 4 w) 92 g) 93 (iu lt 0 (w e))) C T rc tl) rfl rfl (by omega) (by omega) (by omega) rfl ?_
  refine Rx.walk 9 (pc' := 32) (L' := [some (.ref 91), some (.int (iz e)), some (.int (iz 0))]) (st' := [.int (iz 0), .ref 92, .ref 4, .int (iz 1), .ref 93]) (h' := cxW z (uf (uf (uf f 4 w) 92 g) 93 (iu lt 0 (w e))) C T rc tl) rfl ?_
  refine Rx.ial (g := g) rfl rfl (by omega) (by omega) (by omega) ?_
  refine Rx.walk 1 (pc' := 34) (L' := [some (.ref 91), some (.int (iz e)), some (.int (iz 0))]) (st' := [.int (iz 5), .int (iz (g 0)), .ref 4, .int (iz 1), .ref 93]) (h' := cxW z (uf (uf (uf f 4 w) 92 g) 93 (iu lt 0 (w e))) C T rc tl) rfl ?_
  refine Rx.irem rfl ⟨by omega, by omega⟩ ⟨by omega, by omega⟩ (by omega) (by omega) ?_
  refine Rx.ial (g := w) rfl rfl (by omega) (by omega) (by omega) ?_
  have hwb2 := hw.2 ((g 0) % 5) (by omega) (by omega)
  refine Rx.ias (g := (iu lt 0 (w e))) (h' := cxW z (uf (uf (uf f 4 w) 92 g) 93 (iu (iu lt 0 (w e)) 1 (w ((g 0) % 5)))) C T rc tl) rfl rfl (by omega) (by omega) (by omega) rfl ?_
  refine Rx.walk 6 (pc' := 47) (L' := [some (.ref 91), some (.int (iz e)), some (.int (iz 0))]) (st' := [.int (iz 0), .ref 92, .int (iz 2), .ref 93]) (h' := cxW z (uf (uf (uf f 4 w) 92 g) 93 (iu (iu lt 0 (w e)) 1 (w ((g 0) % 5)))) C T rc tl) rfl ?_
  refine Rx.ial (g := g) rfl rfl (by omega) (by omega) (by omega) ?_
  refine Rx.callx (m' := m_X10_height) (as := [.int (iz (g 0))]) (rest := [.int (iz 2), .ref 93]) rfl (n_height _ (cxW z (uf (uf (uf f 4 w) 92 g) 93 (iu (iu lt 0 (w e)) 1 (w ((g 0) % 5)))) C T rc tl)  (g 0) ⟨by omega, by omega⟩) (fun v5 h6 q7 => ?_)
  obtain ⟨r_3, rfl, rfl, f4⟩ := q7
  refine Rx.walk 0 (pc' := 51) (L' := [some (.ref 91), some (.int (iz e)), some (.int (iz 0))]) (st' := [.int (iz r_3), .int (iz 2), .ref 93]) (h' := cxW z (uf (uf (uf f 4 w) 92 g) 93 (iu (iu lt 0 (w e)) 1 (w ((g 0) % 5)))) C T rc tl) rfl ?_
  refine Rx.ias (g := (iu (iu lt 0 (w e)) 1 (w ((g 0) % 5)))) (h' := cxW z (uf (uf (uf f 4 w) 92 g) 93 (iu (iu (iu lt 0 (w e)) 1 (w ((g 0) % 5))) 2 r_3)) C T rc tl) rfl rfl (by omega) (by omega) (by omega) rfl ?_
  refine Rx.walk 4 (pc' := 58) (L' := [some (.ref 91), some (.int (iz e)), some (.int (iz 0))]) (st' := [.int (iz 0), .int (iz 3), .ref 93]) (h' := cxW z (uf (uf (uf f 4 w) 92 g) 93 (iu (iu (iu lt 0 (w e)) 1 (w ((g 0) % 5))) 2 r_3)) C T rc tl) rfl ?_
  refine Rx.ias (g := (iu (iu (iu lt 0 (w e)) 1 (w ((g 0) % 5))) 2 r_3)) (h' := cxW z (uf (uf (uf f 4 w) 92 g) 93 (iu (iu (iu (iu lt 0 (w e)) 1 (w ((g 0) % 5))) 2 r_3) 3 0)) C T rc tl) rfl rfl (by omega) (by omega) (by omega) rfl ?_
  refine Rx.walk 7 (pc' := 70) (L' := [some (.ref 91), some (.int (iz e)), some (.int (iz 0))]) (st' := [.int (iz 0), .ref 92, .ref 91, .int (iz 4), .ref 93]) (h' := cxW z (uf (uf (uf f 4 w) 92 g) 93 (iu (iu (iu (iu lt 0 (w e)) 1 (w ((g 0) % 5))) 2 r_3) 3 0)) C T rc tl) rfl ?_
  refine Rx.ial (g := g) rfl rfl (by omega) (by omega) (by omega) ?_
  refine Rx.callx (m' := m_X1_worthOf) (as := [.ref 91, .int (iz (g 0))]) (rest := [.int (iz 4), .ref 93]) rfl (x_worthOf _ z (uf (uf f 92 g) 93 (iu (iu (iu (iu lt 0 (w e)) 1 (w ((g 0) % 5))) 2 r_3) 3 0)) C T rc tl  (g 0) w hw ⟨by omega, by omega⟩) (fun v10 h11 q12 => ?_)
  obtain ⟨r_8, rfl, rfl, f9⟩ := q12
  refine Rx.walk 0 (pc' := 74) (L' := [some (.ref 91), some (.int (iz e)), some (.int (iz 0))]) (st' := [.int (iz r_8), .int (iz 4), .ref 93]) (h' := cxW z (uf (uf (uf f 4 w) 92 g) 93 (iu (iu (iu (iu lt 0 (w e)) 1 (w ((g 0) % 5))) 2 r_3) 3 0)) C T rc tl) rfl ?_
  refine Rx.ias (g := (iu (iu (iu (iu lt 0 (w e)) 1 (w ((g 0) % 5))) 2 r_3) 3 0)) (h' := cxW z (uf (uf (uf f 4 w) 92 g) 93 (iu (iu (iu (iu (iu lt 0 (w e)) 1 (w ((g 0) % 5))) 2 r_3) 3 0) 4 r_8)) C T rc tl) rfl rfl (by omega) (by omega) (by omega) rfl ?_
  refine Rx.walk 7 (pc' := 86) (L' := [some (.ref 91), some (.int (iz e)), some (.int (iz 0))]) (st' := [.int (iz 0), .int (iz 1), .ref 92, .int (iz 5), .ref 93]) (h' := cxW z (uf (uf (uf f 4 w) 92 g) 93 (iu (iu (iu (iu (iu lt 0 (w e)) 1 (w ((g 0) % 5))) 2 r_3) 3 0) 4 r_8)) C T rc tl) rfl ?_
  refine Rx.isub rfl ?_
  refine Rx.walk 0 (pc' := 87) (L' := [some (.ref 91), some (.int (iz e)), some (.int (iz 0))]) (st' := [.int (iz 1), .ref 92, .int (iz 5), .ref 93]) (h' := cxW z (uf (uf (uf f 4 w) 92 g) 93 (iu (iu (iu (iu (iu lt 0 (w e)) 1 (w ((g 0) % 5))) 2 r_3) 3 0) 4 r_8)) C T rc tl) rfl ?_
  refine Rx.ial (g := g) rfl rfl (by omega) (by omega) (by omega) ?_
  refine Rx.callx (m' := m_X10_height) (as := [.int (iz (g 1))]) (rest := [.int (iz 5), .ref 93]) rfl (n_height _ (cxW z (uf (uf (uf f 4 w) 92 g) 93 (iu (iu (iu (iu (iu lt 0 (w e)) 1 (w ((g 0) % 5))) 2 r_3) 3 0) 4 r_8)) C T rc tl)  (g 1) ⟨by omega, by omega⟩) (fun v15 h16 q17 => ?_)
  obtain ⟨r_13, rfl, rfl, f14⟩ := q17
  refine Rx.walk 0 (pc' := 91) (L' := [some (.ref 91), some (.int (iz e)), some (.int (iz 0))]) (st' := [.int (iz r_13), .int (iz 5), .ref 93]) (h' := cxW z (uf (uf (uf f 4 w) 92 g) 93 (iu (iu (iu (iu (iu lt 0 (w e)) 1 (w ((g 0) % 5))) 2 r_3) 3 0) 4 r_8)) C T rc tl) rfl ?_
  refine Rx.ias (g := (iu (iu (iu (iu (iu lt 0 (w e)) 1 (w ((g 0) % 5))) 2 r_3) 3 0) 4 r_8)) (h' := cxW z (uf (uf (uf f 4 w) 92 g) 93 (iu (iu (iu (iu (iu (iu lt 0 (w e)) 1 (w ((g 0) % 5))) 2 r_3) 3 0) 4 r_8) 5 r_13)) C T rc tl) rfl rfl (by omega) (by omega) (by omega) rfl ?_
  refine Rx.ret rfl ?_
  exact ⟨_, rfl, rfl, ltB_eq (by simp [iu]) (by simp [iu]) (by simp [iu]; exact f4) (by simp [iu]) (by simp [iu]; exact f9) (by simp [iu]; exact f14)⟩
set_option maxRecDepth 100000 in
set_option maxHeartbeats 4000000 in
theorem x_setL1 (d : Nat) (z : Nat → Nat → Int) (f : Nat → Int → Int) (C : Nat → CuR) (T : Nat → TsR) (rc : Nat → Nat) (tl : AmH)  (e : Int) (w : Int → Int) (g : Int → Int) (lt : Int → Int) (hw : wOK w) (he : 0 ≤ e ∧ e ≤ 4) (hg0 : 0 ≤ g 0 ∧ g 0 < 3125) (hg1 : 0 ≤ g 1 ∧ g 1 < 3125) : Rx (d + 1) m_X1_setLetters 0 (am_ent [.ref 91, .int (iz e), .int (iz 1)] 3) [] (cxW z (uf (uf (uf f 4 w) 92 g) 93 lt) C T rc tl) (fun rv h => ∃ lt' : Int → Int, rv = none ∧ h = cxW z (uf (uf (uf f 4 w) 92 g) 93 lt') C T rc tl ∧ (∀ j : Int, 0 ≤ j → j < 6 → lt' j = ltB w e 1 (g 1) (g 0) j)) := by
  refine Rx.walk 0 (pc' := 0) (L' := [some (.ref 91), some (.int (iz e)), some (.int (iz 1))]) (st' := []) (h' := cxW z (uf (uf (uf f 4 w) 92 g) 93 lt) C T rc tl) rfl ?_
  refine Rx.walk 7 (pc' := 13) (L' := [some (.ref 91), some (.int (iz e)), some (.int (iz 1))]) (st' := [.int (iz e), .ref 4, .int (iz 0), .ref 93]) (h' := cxW z (uf (uf (uf f 4 w) 92 g) 93 lt) C T rc tl) rfl ?_
  refine Rx.ial (g := w) rfl rfl (by omega) (by omega) (by omega) ?_
  have hwb1 := hw.2 e (by omega) (by omega)
  refine Rx.ias (g := lt) (h' := cxW z (uf (uf (uf f 4 w) 92 g) 93 (iu lt 0 (w e))) C T rc tl) rfl rfl (by omega) (by omega) (by omega) rfl ?_
  refine Rx.walk 9 (pc' := 32) (L' := [some (.ref 91), some (.int (iz e)), some (.int (iz 1))]) (st' := [.int (iz 1), .ref 92, .ref 4, .int (iz 1), .ref 93]) (h' := cxW z (uf (uf (uf f 4 w) 92 g) 93 (iu lt 0 (w e))) C T rc tl) rfl ?_
  refine Rx.ial (g := g) rfl rfl (by omega) (by omega) (by omega) ?_
  refine Rx.walk 1 (pc' := 34) (L' := [some (.ref 91), some (.int (iz e)), some (.int (iz 1))]) (st' := [.int (iz 5), .int (iz (g 1)), .ref 4, .int (iz 1), .ref 93]) (h' := cxW z (uf (uf (uf f 4 w) 92 g) 93 (iu lt 0 (w e))) C T rc tl) rfl ?_
  refine Rx.irem rfl ⟨by omega, by omega⟩ ⟨by omega, by omega⟩ (by omega) (by omega) ?_
  refine Rx.ial (g := w) rfl rfl (by omega) (by omega) (by omega) ?_
  have hwb2 := hw.2 ((g 1) % 5) (by omega) (by omega)
  refine Rx.ias (g := (iu lt 0 (w e))) (h' := cxW z (uf (uf (uf f 4 w) 92 g) 93 (iu (iu lt 0 (w e)) 1 (w ((g 1) % 5)))) C T rc tl) rfl rfl (by omega) (by omega) (by omega) rfl ?_
  refine Rx.walk 6 (pc' := 47) (L' := [some (.ref 91), some (.int (iz e)), some (.int (iz 1))]) (st' := [.int (iz 1), .ref 92, .int (iz 2), .ref 93]) (h' := cxW z (uf (uf (uf f 4 w) 92 g) 93 (iu (iu lt 0 (w e)) 1 (w ((g 1) % 5)))) C T rc tl) rfl ?_
  refine Rx.ial (g := g) rfl rfl (by omega) (by omega) (by omega) ?_
  refine Rx.callx (m' := m_X10_height) (as := [.int (iz (g 1))]) (rest := [.int (iz 2), .ref 93]) rfl (n_height _ (cxW z (uf (uf (uf f 4 w) 92 g) 93 (iu (iu lt 0 (w e)) 1 (w ((g 1) % 5)))) C T rc tl)  (g 1) ⟨by omega, by omega⟩) (fun v5 h6 q7 => ?_)
  obtain ⟨r_3, rfl, rfl, f4⟩ := q7
  refine Rx.walk 0 (pc' := 51) (L' := [some (.ref 91), some (.int (iz e)), some (.int (iz 1))]) (st' := [.int (iz r_3), .int (iz 2), .ref 93]) (h' := cxW z (uf (uf (uf f 4 w) 92 g) 93 (iu (iu lt 0 (w e)) 1 (w ((g 1) % 5)))) C T rc tl) rfl ?_
  refine Rx.ias (g := (iu (iu lt 0 (w e)) 1 (w ((g 1) % 5)))) (h' := cxW z (uf (uf (uf f 4 w) 92 g) 93 (iu (iu (iu lt 0 (w e)) 1 (w ((g 1) % 5))) 2 r_3)) C T rc tl) rfl rfl (by omega) (by omega) (by omega) rfl ?_
  refine Rx.walk 4 (pc' := 58) (L' := [some (.ref 91), some (.int (iz e)), some (.int (iz 1))]) (st' := [.int (iz 1), .int (iz 3), .ref 93]) (h' := cxW z (uf (uf (uf f 4 w) 92 g) 93 (iu (iu (iu lt 0 (w e)) 1 (w ((g 1) % 5))) 2 r_3)) C T rc tl) rfl ?_
  refine Rx.ias (g := (iu (iu (iu lt 0 (w e)) 1 (w ((g 1) % 5))) 2 r_3)) (h' := cxW z (uf (uf (uf f 4 w) 92 g) 93 (iu (iu (iu (iu lt 0 (w e)) 1 (w ((g 1) % 5))) 2 r_3) 3 1)) C T rc tl) rfl rfl (by omega) (by omega) (by omega) rfl ?_
  refine Rx.walk 7 (pc' := 70) (L' := [some (.ref 91), some (.int (iz e)), some (.int (iz 1))]) (st' := [.int (iz 1), .ref 92, .ref 91, .int (iz 4), .ref 93]) (h' := cxW z (uf (uf (uf f 4 w) 92 g) 93 (iu (iu (iu (iu lt 0 (w e)) 1 (w ((g 1) % 5))) 2 r_3) 3 1)) C T rc tl) rfl ?_
  refine Rx.ial (g := g) rfl rfl (by omega) (by omega) (by omega) ?_
  refine Rx.callx (m' := m_X1_worthOf) (as := [.ref 91, .int (iz (g 1))]) (rest := [.int (iz 4), .ref 93]) rfl (x_worthOf _ z (uf (uf f 92 g) 93 (iu (iu (iu (iu lt 0 (w e)) 1 (w ((g 1) % 5))) 2 r_3) 3 1)) C T rc tl  (g 1) w hw ⟨by omega, by omega⟩) (fun v10 h11 q12 => ?_)
  obtain ⟨r_8, rfl, rfl, f9⟩ := q12
  refine Rx.walk 0 (pc' := 74) (L' := [some (.ref 91), some (.int (iz e)), some (.int (iz 1))]) (st' := [.int (iz r_8), .int (iz 4), .ref 93]) (h' := cxW z (uf (uf (uf f 4 w) 92 g) 93 (iu (iu (iu (iu lt 0 (w e)) 1 (w ((g 1) % 5))) 2 r_3) 3 1)) C T rc tl) rfl ?_
  refine Rx.ias (g := (iu (iu (iu (iu lt 0 (w e)) 1 (w ((g 1) % 5))) 2 r_3) 3 1)) (h' := cxW z (uf (uf (uf f 4 w) 92 g) 93 (iu (iu (iu (iu (iu lt 0 (w e)) 1 (w ((g 1) % 5))) 2 r_3) 3 1) 4 r_8)) C T rc tl) rfl rfl (by omega) (by omega) (by omega) rfl ?_
  refine Rx.walk 7 (pc' := 86) (L' := [some (.ref 91), some (.int (iz e)), some (.int (iz 1))]) (st' := [.int (iz 1), .int (iz 1), .ref 92, .int (iz 5), .ref 93]) (h' := cxW z (uf (uf (uf f 4 w) 92 g) 93 (iu (iu (iu (iu (iu lt 0 (w e)) 1 (w ((g 1) % 5))) 2 r_3) 3 1) 4 r_8)) C T rc tl) rfl ?_
  refine Rx.isub rfl ?_
  refine Rx.walk 0 (pc' := 87) (L' := [some (.ref 91), some (.int (iz e)), some (.int (iz 1))]) (st' := [.int (iz 0), .ref 92, .int (iz 5), .ref 93]) (h' := cxW z (uf (uf (uf f 4 w) 92 g) 93 (iu (iu (iu (iu (iu lt 0 (w e)) 1 (w ((g 1) % 5))) 2 r_3) 3 1) 4 r_8)) C T rc tl) rfl ?_
  refine Rx.ial (g := g) rfl rfl (by omega) (by omega) (by omega) ?_
  refine Rx.callx (m' := m_X10_height) (as := [.int (iz (g 0))]) (rest := [.int (iz 5), .ref 93]) rfl (n_height _ (cxW z (uf (uf (uf f 4 w) 92 g) 93 (iu (iu (iu (iu (iu lt 0 (w e)) 1 (w ((g 1) % 5))) 2 r_3) 3 1) 4 r_8)) C T rc tl)  (g 0) ⟨by omega, by omega⟩) (fun v15 h16 q17 => ?_)
  obtain ⟨r_13, rfl, rfl, f14⟩ := q17
  refine Rx.walk 0 (pc' := 91) (L' := [some (.ref 91), some (.int (iz e)), some (.int (iz 1))]) (st' := [.int (iz r_13), .int (iz 5), .ref 93]) (h' := cxW z (uf (uf (uf f 4 w) 92 g) 93 (iu (iu (iu (iu (iu lt 0 (w e)) 1 (w ((g 1) % 5))) 2 r_3) 3 1) 4 r_8)) C T rc tl) rfl ?_
  refine Rx.ias (g := (iu (iu (iu (iu (iu lt 0 (w e)) 1 (w ((g 1) % 5))) 2 r_3) 3 1) 4 r_8)) (h' := cxW z (uf (uf (uf f 4 w) 92 g) 93 (iu (iu (iu (iu (iu (iu lt 0 (w e)) 1 (w ((g 1) % 5))) 2 r_3) 3 1) 4 r_8) 5 r_13)) C T rc tl) rfl rfl (by omega) (by omega) (by omega) rfl ?_
  refine Rx.ret rfl ?_
  exact ⟨_, rfl, rfl, ltB_eq (by simp [iu]) (by simp [iu]) (by simp [iu]; exact f4) (by simp [iu]) (by simp [iu]; exact f9) (by simp [iu]; exact f14)⟩

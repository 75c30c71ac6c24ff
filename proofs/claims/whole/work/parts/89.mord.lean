/-! the model's orders: has, layOrder, goOrder, isServed (printed by wip/whole/genmord.py) -/
theorem p2_shr {s e : Int} (s0 : 0 ≤ s) (s1 : s < 16) (h0 : 0 ≤ e) (h1 : e < 4) : iz s >>> (iz e &&& 31) = iz (s / p2 e) := by
  obtain ⟨x, rfl⟩ := f4 h0 h1
  obtain ⟨y, rfl⟩ := f16 s0 s1
  revert x y
  decide
set_option maxRecDepth 100000 in
set_option maxHeartbeats 4000000 in
theorem n_has (d : Nat) (h0 : AmH)  (s : Int) (e : Int) (s0 : 0 ≤ s) (s1 : s < 16) (e0 : 0 ≤ e) (e1 : e < 4) : Rx (d) m_X12_has 0 (am_ent [.int (iz s), .int (iz e)] 2) [] (h0) (fun rv h => ∃ r : Int, rv = some (.int (iz r)) ∧ h0 = h ∧ r = hb s e) := by
  have hh := hb_b s e
  refine Rx.walk 0 (pc' := 0) (L' := [some (.int (iz s)), some (.int (iz e))]) (st' := []) (h' := h0) rfl ?_
  refine Rx.walk 2 (pc' := 2) (L' := [some (.int (iz s)), some (.int (iz e))]) (st' := [.int (iz e), .int (iz s)]) (h' := h0) rfl ?_
  refine Rx.ishr (c := (s / p2 e)) rfl (p2_shr s0 s1 e0 e1) ?_
  refine Rx.walk 1 (pc' := 4) (L' := [some (.int (iz s)), some (.int (iz e))]) (st' := [.int (iz 1), .int (iz (s / p2 e))]) (h' := h0) rfl ?_
  refine Rx.iand (c := (hb s e)) rfl (iz_and1 _) ?_
  refine Rx.walk 1 (pc' := 6) (L' := [some (.int (iz s)), some (.int (iz e))]) (st' := [.int (iz 1), .int (iz (hb s e))]) (h' := h0) rfl ?_
  refine Rx.ne2 rfl rfl ⟨by omega, by omega⟩ ⟨by omega, by omega⟩ (fun b1 => ?_) (fun b1 => ?_)
  · refine Rx.walk 1 (pc' := 14) (L' := [some (.int (iz s)), some (.int (iz e))]) (st' := [.int (iz 0)]) (h' := h0) rfl ?_
    refine Rx.ret rfl ?_
    exact ⟨_, rfl, rfl, (by omega)⟩
  · refine Rx.walk 2 (pc' := 14) (L' := [some (.int (iz s)), some (.int (iz e))]) (st' := [.int (iz 1)]) (h' := h0) rfl ?_
    refine Rx.ret rfl ?_
    exact ⟨_, rfl, rfl, (by omega)⟩
set_option maxRecDepth 100000 in
set_option maxHeartbeats 4000000 in
theorem m_layOrder1 (d : Nat) (z : Nat → Int) (zl : Nat → Int) (f : Nat → Int → Int) (fl : Nat → Int → Int) (tx : Nat)  (row : Int) (od : Int → Int) (hr : bI row) : Rx (d + 1) m_X12_layOrder 0 (am_ent [.ref 0, .int (iz row), .int (iz 1)] 6) [] (cmH z zl (uf f 22 od) fl tx) (fun rv h => ∃ r : Int, ∃ od' : Int → Int, rv = some (.int (iz r)) ∧ h = cmH z zl (uf f 22 od') fl tx ∧ ((r = 1 ∧ ordOK 1 row ∧ lsI 1 od' = ordL 1 row) ∨ (r = 0 ∧ ¬ ordOK 1 row))) := by
  obtain ⟨hr0, hr1⟩ := id hr
  refine Rx.walk 0 (pc' := 0) (L' := [some (.ref 0), some (.int (iz row)), some (.int (iz 1)), none, none, none]) (st' := []) (h' := cmH z zl (uf f 22 od) fl tx) rfl ?_
  refine Rx.walk 1 (pc' := 1) (L' := [some (.ref 0), some (.int (iz row)), some (.int (iz 1)), none, none, none]) (st' := [.int (iz row)]) (h' := cmH z zl (uf f 22 od) fl tx) rfl ?_
  refine Rx.lt1 rfl rfl ⟨by omega, by omega⟩ (fun b1 => ?_) (fun b1 => ?_)
  · refine Rx.walk 1 (pc' := 9) (L' := [some (.ref 0), some (.int (iz row)), some (.int (iz 1)), none, none, none]) (st' := [.int (iz 0)]) (h' := cmH z zl (uf f 22 od) fl tx) rfl ?_
    refine Rx.ret rfl ?_
    refine ⟨_, _, rfl, rfl, Or.inr ⟨rfl, ?_⟩⟩
    rintro ⟨-, h2, h3, h4, h5⟩
    have h3 : row < 10 := h3
    simp only [ordL, List.mem_singleton, forall_eq] at h4
    omega
  · refine Rx.walk 1 (pc' := 5) (L' := [some (.ref 0), some (.int (iz row)), some (.int (iz 1)), none, none, none]) (st' := [.int (iz 1)]) (h' := cmH z zl (uf f 22 od) fl tx) rfl ?_
    refine Rx.ne1 rfl rfl ⟨by omega, by omega⟩ (fun b2 => ?_) (fun b2 => by omega)
    refine Rx.walk 6 (pc' := 17) (L' := [some (.ref 0), some (.int (iz row)), some (.int (iz 1)), some (.int (iz row)), some (.int (iz 0)), none]) (st' := [.int (iz 1), .int (iz 1)]) (h' := cmH z zl (uf f 22 od) fl tx) rfl ?_
    refine Rx.isub rfl ?_
    refine Rx.walk 0 (pc' := 18) (L' := [some (.ref 0), some (.int (iz row)), some (.int (iz 1)), some (.int (iz row)), some (.int (iz 0)), none]) (st' := [.int (iz 0)]) (h' := cmH z zl (uf f 22 od) fl tx) rfl ?_
    refine Rx.walk 2 (pc' := 22) (L' := [some (.ref 0), some (.int (iz row)), some (.int (iz 1)), some (.int (iz row)), some (.int (iz 0)), some (.int (iz 0))]) (st' := [.int (iz 0)]) (h' := cmH z zl (uf f 22 od) fl tx) rfl ?_
    refine Rx.lt1 rfl rfl ⟨by omega, by omega⟩ (fun b3 => by omega) (fun b3 => ?_)
    refine Rx.walk 5 (pc' := 34) (L' := [some (.ref 0), some (.int (iz row)), some (.int (iz 1)), some (.int (iz row)), some (.int (iz 0)), some (.int (iz 0))]) (st' := [.int (iz 10), .int (iz row), .int (iz 0), .ref 22]) (h' := cmH z zl (uf f 22 od) fl tx) rfl ?_
    refine Rx.irem rfl ⟨by omega, by omega⟩ ⟨by omega, by omega⟩ (by omega) (by omega) ?_
    refine Rx.ias (g := od) (h' := cmH z zl (uf f 22 (iu od 0 (row % 10))) fl tx) rfl rfl (by omega) (by omega) (by omega) rfl ?_
    refine Rx.walk 2 (pc' := 39) (L' := [some (.ref 0), some (.int (iz row)), some (.int (iz 1)), some (.int (iz row)), some (.int (iz 0)), some (.int (iz 0))]) (st' := [.int (iz 10), .int (iz row)]) (h' := cmH z zl (uf f 22 (iu od 0 (row % 10))) fl tx) rfl ?_
    refine Rx.idiv rfl ⟨by omega, by omega⟩ ⟨by omega, by omega⟩ (by omega) (by omega) ?_
    refine Rx.walk 4 (pc' := 47) (L' := [some (.ref 0), some (.int (iz row)), some (.int (iz 1)), some (.int (iz (row / 10))), some (.int (iz 0)), some (.int (iz 0))]) (st' := [.int (iz 0), .ref 22]) (h' := cmH z zl (uf f 22 (iu od 0 (row % 10))) fl tx) rfl ?_
    refine Rx.ial (g := (iu od 0 (row % 10))) rfl rfl (by omega) (by omega) (by omega) ?_
    rw [show ((iu od 0 (row % 10)) 0) = (row % 10) by simp [iu]]
    refine Rx.walk 1 (pc' := 49) (L' := [some (.ref 0), some (.int (iz row)), some (.int (iz 1)), some (.int (iz (row / 10))), some (.int (iz 0)), some (.int (iz 0))]) (st' := [.int (iz 1), .int (iz (row % 10))]) (h' := cmH z zl (uf f 22 (iu od 0 (row % 10))) fl tx) rfl ?_
    refine Rx.ge2 rfl rfl ⟨by omega, by omega⟩ ⟨by omega, by omega⟩ (fun b4 => ?_) (fun b4 => ?_)
    · refine Rx.walk 1 (pc' := 68) (L' := [some (.ref 0), some (.int (iz row)), some (.int (iz 1)), some (.int (iz (row / 10))), some (.int (iz 0)), some (.int (iz 0))]) (st' := [.int (iz 0)]) (h' := cmH z zl (uf f 22 (iu od 0 (row % 10))) fl tx) rfl ?_
      refine Rx.ret rfl ?_
      refine ⟨_, _, rfl, rfl, Or.inr ⟨rfl, ?_⟩⟩
      rintro ⟨-, h2, h3, h4, h5⟩
      have h3 : row < 10 := h3
      simp only [ordL, List.mem_singleton, forall_eq] at h4
      omega
    · refine Rx.walk 4 (pc' := 60) (L' := [some (.ref 0), some (.int (iz row)), some (.int (iz 1)), some (.int (iz (row / 10))), some (.int (iz 0)), some (.int (iz 0))]) (st' := [.int (iz 0), .ref 22, .int (iz 0)]) (h' := cmH z zl (uf f 22 (iu od 0 (row % 10))) fl tx) rfl ?_
      refine Rx.ial (g := (iu od 0 (row % 10))) rfl rfl (by omega) (by omega) (by omega) ?_
      rw [show ((iu od 0 (row % 10)) 0) = (row % 10) by simp [iu]]
      refine Rx.callx (m' := m_X12_has) (as := [.int (iz 0), .int (iz (row % 10))]) (rest := []) rfl (n_has _ (cmH z zl (uf f 22 (iu od 0 (row % 10))) fl tx)  0 (row % 10) (by first | assumption | omega) (by first | assumption | omega) (by first | assumption | omega) (by first | assumption | omega)) (fun v7 h8 q9 => ?_)
      obtain ⟨r_5, rfl, rfl, f6⟩ := q9
      refine Rx.walk 0 (pc' := 64) (L' := [some (.ref 0), some (.int (iz row)), some (.int (iz 1)), some (.int (iz (row / 10))), some (.int (iz 0)), some (.int (iz 0))]) (st' := [.int (iz r_5)]) (h' := cmH z zl (uf f 22 (iu od 0 (row % 10))) fl tx) rfl ?_
      have hbb9 := hb_b 0 (row % 10)
      refine Rx.eq1 rfl rfl ⟨by omega, by omega⟩ (fun b10 => ?_) (fun b10 => ?_)
      · refine Rx.walk 5 (pc' := 78) (L' := [some (.ref 0), some (.int (iz row)), some (.int (iz 1)), some (.int (iz (row / 10))), some (.int (iz 0)), some (.int (iz 0))]) (st' := [.int (iz 0), .ref 22, .int (iz 1), .int (iz 0)]) (h' := cmH z zl (uf f 22 (iu od 0 (row % 10))) fl tx) rfl ?_
        refine Rx.ial (g := (iu od 0 (row % 10))) rfl rfl (by omega) (by omega) (by omega) ?_
        rw [show ((iu od 0 (row % 10)) 0) = (row % 10) by simp [iu]]
        refine Rx.ishl (c := (p2 (row % 10))) rfl (p2_shl (by omega) (by omega)) ?_
        refine Rx.ior (c := (orB 0 (row % 10))) rfl (orB_or (by omega) (by omega) (by omega) (by omega)) ?_
        have ob10 := orB_b (s := 0) (e := (row % 10)) (by omega) (by omega) (by omega) (by omega)
        refine Rx.walk 1 (pc' := 83) (L' := [some (.ref 0), some (.int (iz row)), some (.int (iz 1)), some (.int (iz (row / 10))), some (.int (iz (orB 0 (row % 10)))), some (.int (iz 0))]) (st' := []) (h' := cmH z zl (uf f 22 (iu od 0 (row % 10))) fl tx) rfl ?_
        refine Rx.iinc (b := -1) rfl rfl rfl ?_
        refine Rx.walk 0 (pc' := 86) (L' := [some (.ref 0), some (.int (iz row)), some (.int (iz 1)), some (.int (iz (row / 10))), some (.int (iz (orB 0 (row % 10)))), some (.int (iz (-1)))]) (st' := []) (h' := cmH z zl (uf f 22 (iu od 0 (row % 10))) fl tx) rfl ?_
        refine Rx.walk 2 (pc' := 22) (L' := [some (.ref 0), some (.int (iz row)), some (.int (iz 1)), some (.int (iz (row / 10))), some (.int (iz (orB 0 (row % 10)))), some (.int (iz (-1)))]) (st' := [.int (iz (-1))]) (h' := cmH z zl (uf f 22 (iu od 0 (row % 10))) fl tx) rfl ?_
        refine Rx.lt1 rfl rfl ⟨by omega, by omega⟩ (fun b11 => ?_) (fun b11 => by omega)
        refine Rx.walk 1 (pc' := 90) (L' := [some (.ref 0), some (.int (iz row)), some (.int (iz 1)), some (.int (iz (row / 10))), some (.int (iz (orB 0 (row % 10)))), some (.int (iz (-1)))]) (st' := [.int (iz (row / 10))]) (h' := cmH z zl (uf f 22 (iu od 0 (row % 10))) fl tx) rfl ?_
        refine Rx.ne1 rfl rfl ⟨by omega, by omega⟩ (fun b12 => ?_) (fun b12 => ?_)
        · refine Rx.walk 1 (pc' := 98) (L' := [some (.ref 0), some (.int (iz row)), some (.int (iz 1)), some (.int (iz (row / 10))), some (.int (iz (orB 0 (row % 10)))), some (.int (iz (-1)))]) (st' := [.int (iz 0)]) (h' := cmH z zl (uf f 22 (iu od 0 (row % 10))) fl tx) rfl ?_
          refine Rx.ret rfl ?_
          refine ⟨_, _, rfl, rfl, Or.inr ⟨rfl, ?_⟩⟩
          rintro ⟨-, h2, h3, h4, h5⟩
          have h3 : row < 10 := h3
          simp only [ordL, List.mem_singleton, forall_eq] at h4
          omega
        · refine Rx.walk 2 (pc' := 98) (L' := [some (.ref 0), some (.int (iz row)), some (.int (iz 1)), some (.int (iz (row / 10))), some (.int (iz (orB 0 (row % 10)))), some (.int (iz (-1)))]) (st' := [.int (iz 1)]) (h' := cmH z zl (uf f 22 (iu od 0 (row % 10))) fl tx) rfl ?_
          refine Rx.ret rfl ?_
          refine ⟨_, _, rfl, rfl, Or.inl ⟨rfl, ⟨by omega, by omega, by show row < 10; omega, ?_, ?_⟩, ?_⟩⟩
          · simp only [ordL, List.mem_singleton, forall_eq]; omega
          · simp [ordL]
          · show [_] = [_]; simp [iu]
      · refine Rx.walk 1 (pc' := 68) (L' := [some (.ref 0), some (.int (iz row)), some (.int (iz 1)), some (.int (iz (row / 10))), some (.int (iz 0)), some (.int (iz 0))]) (st' := [.int (iz 0)]) (h' := cmH z zl (uf f 22 (iu od 0 (row % 10))) fl tx) rfl ?_
        refine Rx.ret rfl ?_
        refine ⟨_, _, rfl, rfl, Or.inr ⟨rfl, ?_⟩⟩
        rintro ⟨-, h2, h3, h4, h5⟩
        have := hb0 (row % 10)
        omega
set_option maxRecDepth 100000 in
set_option maxHeartbeats 4000000 in
theorem m_layOrder2 (d : Nat) (z : Nat → Int) (zl : Nat → Int) (f : Nat → Int → Int) (fl : Nat → Int → Int) (tx : Nat)  (row : Int) (od : Int → Int) (hr : bI row) : Rx (d + 1) m_X12_layOrder 0 (am_ent [.ref 0, .int (iz row), .int (iz 2)] 6) [] (cmH z zl (uf f 22 od) fl tx) (fun rv h => ∃ r : Int, ∃ od' : Int → Int, rv = some (.int (iz r)) ∧ h = cmH z zl (uf f 22 od') fl tx ∧ ((r = 1 ∧ ordOK 2 row ∧ lsI 2 od' = ordL 2 row) ∨ (r = 0 ∧ ¬ ordOK 2 row))) := by
  obtain ⟨hr0, hr1⟩ := id hr
  refine Rx.walk 0 (pc' := 0) (L' := [some (.ref 0), some (.int (iz row)), some (.int (iz 2)), none, none, none]) (st' := []) (h' := cmH z zl (uf f 22 od) fl tx) rfl ?_
  refine Rx.walk 1 (pc' := 1) (L' := [some (.ref 0), some (.int (iz row)), some (.int (iz 2)), none, none, none]) (st' := [.int (iz row)]) (h' := cmH z zl (uf f 22 od) fl tx) rfl ?_
  refine Rx.lt1 rfl rfl ⟨by omega, by omega⟩ (fun b1 => ?_) (fun b1 => ?_)
  · refine Rx.walk 1 (pc' := 9) (L' := [some (.ref 0), some (.int (iz row)), some (.int (iz 2)), none, none, none]) (st' := [.int (iz 0)]) (h' := cmH z zl (uf f 22 od) fl tx) rfl ?_
    refine Rx.ret rfl ?_
    refine ⟨_, _, rfl, rfl, Or.inr ⟨rfl, ?_⟩⟩
    rintro ⟨-, h2, h3, h4, h5⟩
    have h3 : row < 100 := h3
    simp only [ordL, List.mem_cons, List.not_mem_nil, or_false, forall_eq_or_imp, forall_eq] at h4
    omega
  · refine Rx.walk 1 (pc' := 5) (L' := [some (.ref 0), some (.int (iz row)), some (.int (iz 2)), none, none, none]) (st' := [.int (iz 2)]) (h' := cmH z zl (uf f 22 od) fl tx) rfl ?_
    refine Rx.ne1 rfl rfl ⟨by omega, by omega⟩ (fun b2 => ?_) (fun b2 => by omega)
    refine Rx.walk 6 (pc' := 17) (L' := [some (.ref 0), some (.int (iz row)), some (.int (iz 2)), some (.int (iz row)), some (.int (iz 0)), none]) (st' := [.int (iz 1), .int (iz 2)]) (h' := cmH z zl (uf f 22 od) fl tx) rfl ?_
    refine Rx.isub rfl ?_
    refine Rx.walk 0 (pc' := 18) (L' := [some (.ref 0), some (.int (iz row)), some (.int (iz 2)), some (.int (iz row)), some (.int (iz 0)), none]) (st' := [.int (iz 1)]) (h' := cmH z zl (uf f 22 od) fl tx) rfl ?_
    refine Rx.walk 2 (pc' := 22) (L' := [some (.ref 0), some (.int (iz row)), some (.int (iz 2)), some (.int (iz row)), some (.int (iz 0)), some (.int (iz 1))]) (st' := [.int (iz 1)]) (h' := cmH z zl (uf f 22 od) fl tx) rfl ?_
    refine Rx.lt1 rfl rfl ⟨by omega, by omega⟩ (fun b3 => by omega) (fun b3 => ?_)
    refine Rx.walk 5 (pc' := 34) (L' := [some (.ref 0), some (.int (iz row)), some (.int (iz 2)), some (.int (iz row)), some (.int (iz 0)), some (.int (iz 1))]) (st' := [.int (iz 10), .int (iz row), .int (iz 1), .ref 22]) (h' := cmH z zl (uf f 22 od) fl tx) rfl ?_
    refine Rx.irem rfl ⟨by omega, by omega⟩ ⟨by omega, by omega⟩ (by omega) (by omega) ?_
    refine Rx.ias (g := od) (h' := cmH z zl (uf f 22 (iu od 1 (row % 10))) fl tx) rfl rfl (by omega) (by omega) (by omega) rfl ?_
    refine Rx.walk 2 (pc' := 39) (L' := [some (.ref 0), some (.int (iz row)), some (.int (iz 2)), some (.int (iz row)), some (.int (iz 0)), some (.int (iz 1))]) (st' := [.int (iz 10), .int (iz row)]) (h' := cmH z zl (uf f 22 (iu od 1 (row % 10))) fl tx) rfl ?_
    refine Rx.idiv rfl ⟨by omega, by omega⟩ ⟨by omega, by omega⟩ (by omega) (by omega) ?_
    refine Rx.walk 4 (pc' := 47) (L' := [some (.ref 0), some (.int (iz row)), some (.int (iz 2)), some (.int (iz (row / 10))), some (.int (iz 0)), some (.int (iz 1))]) (st' := [.int (iz 1), .ref 22]) (h' := cmH z zl (uf f 22 (iu od 1 (row % 10))) fl tx) rfl ?_
    refine Rx.ial (g := (iu od 1 (row % 10))) rfl rfl (by omega) (by omega) (by omega) ?_
    rw [show ((iu od 1 (row % 10)) 1) = (row % 10) by simp [iu]]
    refine Rx.walk 1 (pc' := 49) (L' := [some (.ref 0), some (.int (iz row)), some (.int (iz 2)), some (.int (iz (row / 10))), some (.int (iz 0)), some (.int (iz 1))]) (st' := [.int (iz 2), .int (iz (row % 10))]) (h' := cmH z zl (uf f 22 (iu od 1 (row % 10))) fl tx) rfl ?_
    refine Rx.ge2 rfl rfl ⟨by omega, by omega⟩ ⟨by omega, by omega⟩ (fun b4 => ?_) (fun b4 => ?_)
    · refine Rx.walk 1 (pc' := 68) (L' := [some (.ref 0), some (.int (iz row)), some (.int (iz 2)), some (.int (iz (row / 10))), some (.int (iz 0)), some (.int (iz 1))]) (st' := [.int (iz 0)]) (h' := cmH z zl (uf f 22 (iu od 1 (row % 10))) fl tx) rfl ?_
      refine Rx.ret rfl ?_
      refine ⟨_, _, rfl, rfl, Or.inr ⟨rfl, ?_⟩⟩
      rintro ⟨-, h2, h3, h4, h5⟩
      have h3 : row < 100 := h3
      simp only [ordL, List.mem_cons, List.not_mem_nil, or_false, forall_eq_or_imp, forall_eq] at h4
      omega
    · refine Rx.walk 4 (pc' := 60) (L' := [some (.ref 0), some (.int (iz row)), some (.int (iz 2)), some (.int (iz (row / 10))), some (.int (iz 0)), some (.int (iz 1))]) (st' := [.int (iz 1), .ref 22, .int (iz 0)]) (h' := cmH z zl (uf f 22 (iu od 1 (row % 10))) fl tx) rfl ?_
      refine Rx.ial (g := (iu od 1 (row % 10))) rfl rfl (by omega) (by omega) (by omega) ?_
      rw [show ((iu od 1 (row % 10)) 1) = (row % 10) by simp [iu]]
      refine Rx.callx (m' := m_X12_has) (as := [.int (iz 0), .int (iz (row % 10))]) (rest := []) rfl (n_has _ (cmH z zl (uf f 22 (iu od 1 (row % 10))) fl tx)  0 (row % 10) (by first | assumption | omega) (by first | assumption | omega) (by first | assumption | omega) (by first | assumption | omega)) (fun v7 h8 q9 => ?_)
      obtain ⟨r_5, rfl, rfl, f6⟩ := q9
      refine Rx.walk 0 (pc' := 64) (L' := [some (.ref 0), some (.int (iz row)), some (.int (iz 2)), some (.int (iz (row / 10))), some (.int (iz 0)), some (.int (iz 1))]) (st' := [.int (iz r_5)]) (h' := cmH z zl (uf f 22 (iu od 1 (row % 10))) fl tx) rfl ?_
      have hbb9 := hb_b 0 (row % 10)
      refine Rx.eq1 rfl rfl ⟨by omega, by omega⟩ (fun b10 => ?_) (fun b10 => ?_)
      · refine Rx.walk 5 (pc' := 78) (L' := [some (.ref 0), some (.int (iz row)), some (.int (iz 2)), some (.int (iz (row / 10))), some (.int (iz 0)), some (.int (iz 1))]) (st' := [.int (iz 1), .ref 22, .int (iz 1), .int (iz 0)]) (h' := cmH z zl (uf f 22 (iu od 1 (row % 10))) fl tx) rfl ?_
        refine Rx.ial (g := (iu od 1 (row % 10))) rfl rfl (by omega) (by omega) (by omega) ?_
        rw [show ((iu od 1 (row % 10)) 1) = (row % 10) by simp [iu]]
        refine Rx.ishl (c := (p2 (row % 10))) rfl (p2_shl (by omega) (by omega)) ?_
        refine Rx.ior (c := (orB 0 (row % 10))) rfl (orB_or (by omega) (by omega) (by omega) (by omega)) ?_
        have ob10 := orB_b (s := 0) (e := (row % 10)) (by omega) (by omega) (by omega) (by omega)
        refine Rx.walk 1 (pc' := 83) (L' := [some (.ref 0), some (.int (iz row)), some (.int (iz 2)), some (.int (iz (row / 10))), some (.int (iz (orB 0 (row % 10)))), some (.int (iz 1))]) (st' := []) (h' := cmH z zl (uf f 22 (iu od 1 (row % 10))) fl tx) rfl ?_
        refine Rx.iinc (b := -1) rfl rfl rfl ?_
        refine Rx.walk 0 (pc' := 86) (L' := [some (.ref 0), some (.int (iz row)), some (.int (iz 2)), some (.int (iz (row / 10))), some (.int (iz (orB 0 (row % 10)))), some (.int (iz 0))]) (st' := []) (h' := cmH z zl (uf f 22 (iu od 1 (row % 10))) fl tx) rfl ?_
        refine Rx.walk 2 (pc' := 22) (L' := [some (.ref 0), some (.int (iz row)), some (.int (iz 2)), some (.int (iz (row / 10))), some (.int (iz (orB 0 (row % 10)))), some (.int (iz 0))]) (st' := [.int (iz 0)]) (h' := cmH z zl (uf f 22 (iu od 1 (row % 10))) fl tx) rfl ?_
        refine Rx.lt1 rfl rfl ⟨by omega, by omega⟩ (fun b11 => by omega) (fun b11 => ?_)
        refine Rx.walk 5 (pc' := 34) (L' := [some (.ref 0), some (.int (iz row)), some (.int (iz 2)), some (.int (iz (row / 10))), some (.int (iz (orB 0 (row % 10)))), some (.int (iz 0))]) (st' := [.int (iz 10), .int (iz (row / 10)), .int (iz 0), .ref 22]) (h' := cmH z zl (uf f 22 (iu od 1 (row % 10))) fl tx) rfl ?_
        refine Rx.irem rfl ⟨by omega, by omega⟩ ⟨by omega, by omega⟩ (by omega) (by omega) ?_
        refine Rx.ias (g := (iu od 1 (row % 10))) (h' := cmH z zl (uf f 22 (iu (iu od 1 (row % 10)) 0 ((row / 10) % 10))) fl tx) rfl rfl (by omega) (by omega) (by omega) rfl ?_
        refine Rx.walk 2 (pc' := 39) (L' := [some (.ref 0), some (.int (iz row)), some (.int (iz 2)), some (.int (iz (row / 10))), some (.int (iz (orB 0 (row % 10)))), some (.int (iz 0))]) (st' := [.int (iz 10), .int (iz (row / 10))]) (h' := cmH z zl (uf f 22 (iu (iu od 1 (row % 10)) 0 ((row / 10) % 10))) fl tx) rfl ?_
        refine Rx.idiv rfl ⟨by omega, by omega⟩ ⟨by omega, by omega⟩ (by omega) (by omega) ?_
        refine Rx.walk 4 (pc' := 47) (L' := [some (.ref 0), some (.int (iz row)), some (.int (iz 2)), some (.int (iz ((row / 10) / 10))), some (.int (iz (orB 0 (row % 10)))), some (.int (iz 0))]) (st' := [.int (iz 0), .ref 22]) (h' := cmH z zl (uf f 22 (iu (iu od 1 (row % 10)) 0 ((row / 10) % 10))) fl tx) rfl ?_
        refine Rx.ial (g := (iu (iu od 1 (row % 10)) 0 ((row / 10) % 10))) rfl rfl (by omega) (by omega) (by omega) ?_
        rw [show ((iu (iu od 1 (row % 10)) 0 ((row / 10) % 10)) 0) = ((row / 10) % 10) by simp [iu]]
        refine Rx.walk 1 (pc' := 49) (L' := [some (.ref 0), some (.int (iz row)), some (.int (iz 2)), some (.int (iz ((row / 10) / 10))), some (.int (iz (orB 0 (row % 10)))), some (.int (iz 0))]) (st' := [.int (iz 2), .int (iz ((row / 10) % 10))]) (h' := cmH z zl (uf f 22 (iu (iu od 1 (row % 10)) 0 ((row / 10) % 10))) fl tx) rfl ?_
        refine Rx.ge2 rfl rfl ⟨by omega, by omega⟩ ⟨by omega, by omega⟩ (fun b12 => ?_) (fun b12 => ?_)
        · refine Rx.walk 1 (pc' := 68) (L' := [some (.ref 0), some (.int (iz row)), some (.int (iz 2)), some (.int (iz ((row / 10) / 10))), some (.int (iz (orB 0 (row % 10)))), some (.int (iz 0))]) (st' := [.int (iz 0)]) (h' := cmH z zl (uf f 22 (iu (iu od 1 (row % 10)) 0 ((row / 10) % 10))) fl tx) rfl ?_
          refine Rx.ret rfl ?_
          refine ⟨_, _, rfl, rfl, Or.inr ⟨rfl, ?_⟩⟩
          rintro ⟨-, h2, h3, h4, h5⟩
          have h3 : row < 100 := h3
          simp only [ordL, List.mem_cons, List.not_mem_nil, or_false, forall_eq_or_imp, forall_eq] at h4
          omega
        · refine Rx.walk 4 (pc' := 60) (L' := [some (.ref 0), some (.int (iz row)), some (.int (iz 2)), some (.int (iz ((row / 10) / 10))), some (.int (iz (orB 0 (row % 10)))), some (.int (iz 0))]) (st' := [.int (iz 0), .ref 22, .int (iz (orB 0 (row % 10)))]) (h' := cmH z zl (uf f 22 (iu (iu od 1 (row % 10)) 0 ((row / 10) % 10))) fl tx) rfl ?_
          refine Rx.ial (g := (iu (iu od 1 (row % 10)) 0 ((row / 10) % 10))) rfl rfl (by omega) (by omega) (by omega) ?_
          rw [show ((iu (iu od 1 (row % 10)) 0 ((row / 10) % 10)) 0) = ((row / 10) % 10) by simp [iu]]
          refine Rx.callx (m' := m_X12_has) (as := [.int (iz (orB 0 (row % 10))), .int (iz ((row / 10) % 10))]) (rest := []) rfl (n_has _ (cmH z zl (uf f 22 (iu (iu od 1 (row % 10)) 0 ((row / 10) % 10))) fl tx)  (orB 0 (row % 10)) ((row / 10) % 10) (by first | assumption | omega) (by first | assumption | omega) (by first | assumption | omega) (by first | assumption | omega)) (fun v15 h16 q17 => ?_)
          obtain ⟨r_13, rfl, rfl, f14⟩ := q17
          refine Rx.walk 0 (pc' := 64) (L' := [some (.ref 0), some (.int (iz row)), some (.int (iz 2)), some (.int (iz ((row / 10) / 10))), some (.int (iz (orB 0 (row % 10)))), some (.int (iz 0))]) (st' := [.int (iz r_13)]) (h' := cmH z zl (uf f 22 (iu (iu od 1 (row % 10)) 0 ((row / 10) % 10))) fl tx) rfl ?_
          have hbb17 := hb_b (orB 0 (row % 10)) ((row / 10) % 10)
          refine Rx.eq1 rfl rfl ⟨by omega, by omega⟩ (fun b18 => ?_) (fun b18 => ?_)
          · refine Rx.walk 5 (pc' := 78) (L' := [some (.ref 0), some (.int (iz row)), some (.int (iz 2)), some (.int (iz ((row / 10) / 10))), some (.int (iz (orB 0 (row % 10)))), some (.int (iz 0))]) (st' := [.int (iz 0), .ref 22, .int (iz 1), .int (iz (orB 0 (row % 10)))]) (h' := cmH z zl (uf f 22 (iu (iu od 1 (row % 10)) 0 ((row / 10) % 10))) fl tx) rfl ?_
            refine Rx.ial (g := (iu (iu od 1 (row % 10)) 0 ((row / 10) % 10))) rfl rfl (by omega) (by omega) (by omega) ?_
            rw [show ((iu (iu od 1 (row % 10)) 0 ((row / 10) % 10)) 0) = ((row / 10) % 10) by simp [iu]]
            refine Rx.ishl (c := (p2 ((row / 10) % 10))) rfl (p2_shl (by omega) (by omega)) ?_
            refine Rx.ior (c := (orB (orB 0 (row % 10)) ((row / 10) % 10))) rfl (orB_or (by omega) (by omega) (by omega) (by omega)) ?_
            have ob18 := orB_b (s := (orB 0 (row % 10))) (e := ((row / 10) % 10)) (by omega) (by omega) (by omega) (by omega)
            refine Rx.walk 1 (pc' := 83) (L' := [some (.ref 0), some (.int (iz row)), some (.int (iz 2)), some (.int (iz ((row / 10) / 10))), some (.int (iz (orB (orB 0 (row % 10)) ((row / 10) % 10)))), some (.int (iz 0))]) (st' := []) (h' := cmH z zl (uf f 22 (iu (iu od 1 (row % 10)) 0 ((row / 10) % 10))) fl tx) rfl ?_
            refine Rx.iinc (b := -1) rfl rfl rfl ?_
            refine Rx.walk 0 (pc' := 86) (L' := [some (.ref 0), some (.int (iz row)), some (.int (iz 2)), some (.int (iz ((row / 10) / 10))), some (.int (iz (orB (orB 0 (row % 10)) ((row / 10) % 10)))), some (.int (iz (-1)))]) (st' := []) (h' := cmH z zl (uf f 22 (iu (iu od 1 (row % 10)) 0 ((row / 10) % 10))) fl tx) rfl ?_
            refine Rx.walk 2 (pc' := 22) (L' := [some (.ref 0), some (.int (iz row)), some (.int (iz 2)), some (.int (iz ((row / 10) / 10))), some (.int (iz (orB (orB 0 (row % 10)) ((row / 10) % 10)))), some (.int (iz (-1)))]) (st' := [.int (iz (-1))]) (h' := cmH z zl (uf f 22 (iu (iu od 1 (row % 10)) 0 ((row / 10) % 10))) fl tx) rfl ?_
            refine Rx.lt1 rfl rfl ⟨by omega, by omega⟩ (fun b19 => ?_) (fun b19 => by omega)
            refine Rx.walk 1 (pc' := 90) (L' := [some (.ref 0), some (.int (iz row)), some (.int (iz 2)), some (.int (iz ((row / 10) / 10))), some (.int (iz (orB (orB 0 (row % 10)) ((row / 10) % 10)))), some (.int (iz (-1)))]) (st' := [.int (iz ((row / 10) / 10))]) (h' := cmH z zl (uf f 22 (iu (iu od 1 (row % 10)) 0 ((row / 10) % 10))) fl tx) rfl ?_
            refine Rx.ne1 rfl rfl ⟨by omega, by omega⟩ (fun b20 => ?_) (fun b20 => ?_)
            · refine Rx.walk 1 (pc' := 98) (L' := [some (.ref 0), some (.int (iz row)), some (.int (iz 2)), some (.int (iz ((row / 10) / 10))), some (.int (iz (orB (orB 0 (row % 10)) ((row / 10) % 10)))), some (.int (iz (-1)))]) (st' := [.int (iz 0)]) (h' := cmH z zl (uf f 22 (iu (iu od 1 (row % 10)) 0 ((row / 10) % 10))) fl tx) rfl ?_
              refine Rx.ret rfl ?_
              refine ⟨_, _, rfl, rfl, Or.inr ⟨rfl, ?_⟩⟩
              rintro ⟨-, h2, h3, h4, h5⟩
              have h3 : row < 100 := h3
              simp only [ordL, List.mem_cons, List.not_mem_nil, or_false, forall_eq_or_imp, forall_eq] at h4
              omega
            · refine Rx.walk 2 (pc' := 98) (L' := [some (.ref 0), some (.int (iz row)), some (.int (iz 2)), some (.int (iz ((row / 10) / 10))), some (.int (iz (orB (orB 0 (row % 10)) ((row / 10) % 10)))), some (.int (iz (-1)))]) (st' := [.int (iz 1)]) (h' := cmH z zl (uf f 22 (iu (iu od 1 (row % 10)) 0 ((row / 10) % 10))) fl tx) rfl ?_
              refine Rx.ret rfl ?_
              have e1 := (not_congr (hb1 (show 0 ≤ (row % 10) by omega) (show (row % 10) < 4 by omega) (show 0 ≤ ((row / 10) % 10) by omega) (show ((row / 10) % 10) < 4 by omega))).mp (show ¬ hb (orB 0 (row % 10)) ((row / 10) % 10) = 1 by omega)
              refine ⟨_, _, rfl, rfl, Or.inl ⟨rfl, ⟨by omega, by omega, by show row < 100; omega, ?_, ?_⟩, ?_⟩⟩
              · simp only [ordL, List.mem_cons, List.not_mem_nil, or_false, forall_eq_or_imp, forall_eq]; omega
              · simp only [ordL, List.pairwise_cons, List.mem_cons, List.not_mem_nil, or_false, forall_eq_or_imp, forall_eq, false_imp_iff, implies_true, and_true, List.Pairwise.nil]; omega
              · show [_, _] = [_, _]; simp [iu]
          · refine Rx.walk 1 (pc' := 68) (L' := [some (.ref 0), some (.int (iz row)), some (.int (iz 2)), some (.int (iz ((row / 10) / 10))), some (.int (iz (orB 0 (row % 10)))), some (.int (iz 0))]) (st' := [.int (iz 0)]) (h' := cmH z zl (uf f 22 (iu (iu od 1 (row % 10)) 0 ((row / 10) % 10))) fl tx) rfl ?_
            refine Rx.ret rfl ?_
            refine ⟨_, _, rfl, rfl, Or.inr ⟨rfl, ?_⟩⟩
            rintro ⟨-, h2, h3, h4, h5⟩
            have e := (hb1 (show 0 ≤ (row % 10) by omega) (show (row % 10) < 4 by omega) (show 0 ≤ ((row / 10) % 10) by omega) (show ((row / 10) % 10) < 4 by omega)).mp (show hb (orB 0 (row % 10)) ((row / 10) % 10) = 1 by omega)
            simp only [ordL, List.pairwise_cons, List.mem_cons, List.not_mem_nil, or_false, forall_eq_or_imp, forall_eq, false_imp_iff, implies_true, and_true, List.Pairwise.nil] at h5
            omega
      · refine Rx.walk 1 (pc' := 68) (L' := [some (.ref 0), some (.int (iz row)), some (.int (iz 2)), some (.int (iz (row / 10))), some (.int (iz 0)), some (.int (iz 1))]) (st' := [.int (iz 0)]) (h' := cmH z zl (uf f 22 (iu od 1 (row % 10))) fl tx) rfl ?_
        refine Rx.ret rfl ?_
        refine ⟨_, _, rfl, rfl, Or.inr ⟨rfl, ?_⟩⟩
        rintro ⟨-, h2, h3, h4, h5⟩
        have := hb0 (row % 10)
        omega
set_option maxRecDepth 100000 in
set_option maxHeartbeats 4000000 in
theorem m_layOrder3 (d : Nat) (z : Nat → Int) (zl : Nat → Int) (f : Nat → Int → Int) (fl : Nat → Int → Int) (tx : Nat)  (row : Int) (od : Int → Int) (hr : bI row) : Rx (d + 1) m_X12_layOrder 0 (am_ent [.ref 0, .int (iz row), .int (iz 3)] 6) [] (cmH z zl (uf f 22 od) fl tx) (fun rv h => ∃ r : Int, ∃ od' : Int → Int, rv = some (.int (iz r)) ∧ h = cmH z zl (uf f 22 od') fl tx ∧ ((r = 1 ∧ ordOK 3 row ∧ lsI 3 od' = ordL 3 row) ∨ (r = 0 ∧ ¬ ordOK 3 row))) := by
  obtain ⟨hr0, hr1⟩ := id hr
  refine Rx.walk 0 (pc' := 0) (L' := [some (.ref 0), some (.int (iz row)), some (.int (iz 3)), none, none, none]) (st' := []) (h' := cmH z zl (uf f 22 od) fl tx) rfl ?_
  refine Rx.walk 1 (pc' := 1) (L' := [some (.ref 0), some (.int (iz row)), some (.int (iz 3)), none, none, none]) (st' := [.int (iz row)]) (h' := cmH z zl (uf f 22 od) fl tx) rfl ?_
  refine Rx.lt1 rfl rfl ⟨by omega, by omega⟩ (fun b1 => ?_) (fun b1 => ?_)
  · refine Rx.walk 1 (pc' := 9) (L' := [some (.ref 0), some (.int (iz row)), some (.int (iz 3)), none, none, none]) (st' := [.int (iz 0)]) (h' := cmH z zl (uf f 22 od) fl tx) rfl ?_
    refine Rx.ret rfl ?_
    refine ⟨_, _, rfl, rfl, Or.inr ⟨rfl, ?_⟩⟩
    rintro ⟨-, h2, h3, h4, h5⟩
    have h3 : row < 1000 := h3
    simp only [ordL, List.mem_cons, List.not_mem_nil, or_false, forall_eq_or_imp, forall_eq] at h4
    omega
  · refine Rx.walk 1 (pc' := 5) (L' := [some (.ref 0), some (.int (iz row)), some (.int (iz 3)), none, none, none]) (st' := [.int (iz 3)]) (h' := cmH z zl (uf f 22 od) fl tx) rfl ?_
    refine Rx.ne1 rfl rfl ⟨by omega, by omega⟩ (fun b2 => ?_) (fun b2 => by omega)
    refine Rx.walk 6 (pc' := 17) (L' := [some (.ref 0), some (.int (iz row)), some (.int (iz 3)), some (.int (iz row)), some (.int (iz 0)), none]) (st' := [.int (iz 1), .int (iz 3)]) (h' := cmH z zl (uf f 22 od) fl tx) rfl ?_
    refine Rx.isub rfl ?_
    refine Rx.walk 0 (pc' := 18) (L' := [some (.ref 0), some (.int (iz row)), some (.int (iz 3)), some (.int (iz row)), some (.int (iz 0)), none]) (st' := [.int (iz 2)]) (h' := cmH z zl (uf f 22 od) fl tx) rfl ?_
    refine Rx.walk 2 (pc' := 22) (L' := [some (.ref 0), some (.int (iz row)), some (.int (iz 3)), some (.int (iz row)), some (.int (iz 0)), some (.int (iz 2))]) (st' := [.int (iz 2)]) (h' := cmH z zl (uf f 22 od) fl tx) rfl ?_
    refine Rx.lt1 rfl rfl ⟨by omega, by omega⟩ (fun b3 => by omega) (fun b3 => ?_)
    refine Rx.walk 5 (pc' := 34) (L' := [some (.ref 0), some (.int (iz row)), some (.int (iz 3)), some (.int (iz row)), some (.int (iz 0)), some (.int (iz 2))]) (st' := [.int (iz 10), .int (iz row), .int (iz 2), .ref 22]) (h' := cmH z zl (uf f 22 od) fl tx) rfl ?_
    refine Rx.irem rfl ⟨by omega, by omega⟩ ⟨by omega, by omega⟩ (by omega) (by omega) ?_
    refine Rx.ias (g := od) (h' := cmH z zl (uf f 22 (iu od 2 (row % 10))) fl tx) rfl rfl (by omega) (by omega) (by omega) rfl ?_
    refine Rx.walk 2 (pc' := 39) (L' := [some (.ref 0), some (.int (iz row)), some (.int (iz 3)), some (.int (iz row)), some (.int (iz 0)), some (.int (iz 2))]) (st' := [.int (iz 10), .int (iz row)]) (h' := cmH z zl (uf f 22 (iu od 2 (row % 10))) fl tx) rfl ?_
    refine Rx.idiv rfl ⟨by omega, by omega⟩ ⟨by omega, by omega⟩ (by omega) (by omega) ?_
    refine Rx.walk 4 (pc' := 47) (L' := [some (.ref 0), some (.int (iz row)), some (.int (iz 3)), some (.int (iz (row / 10))), some (.int (iz 0)), some (.int (iz 2))]) (st' := [.int (iz 2), .ref 22]) (h' := cmH z zl (uf f 22 (iu od 2 (row % 10))) fl tx) rfl ?_
    refine Rx.ial (g := (iu od 2 (row % 10))) rfl rfl (by omega) (by omega) (by omega) ?_
    rw [show ((iu od 2 (row % 10)) 2) = (row % 10) by simp [iu]]
    refine Rx.walk 1 (pc' := 49) (L' := [some (.ref 0), some (.int (iz row)), some (.int (iz 3)), some (.int (iz (row / 10))), some (.int (iz 0)), some (.int (iz 2))]) (st' := [.int (iz 3), .int (iz (row % 10))]) (h' := cmH z zl (uf f 22 (iu od 2 (row % 10))) fl tx) rfl ?_
    refine Rx.ge2 rfl rfl ⟨by omega, by omega⟩ ⟨by omega, by omega⟩ (fun b4 => ?_) (fun b4 => ?_)
    · refine Rx.walk 1 (pc' := 68) (L' := [some (.ref 0), some (.int (iz row)), some (.int (iz 3)), some (.int (iz (row / 10))), some (.int (iz 0)), some (.int (iz 2))]) (st' := [.int (iz 0)]) (h' := cmH z zl (uf f 22 (iu od 2 (row % 10))) fl tx) rfl ?_
      refine Rx.ret rfl ?_
      refine ⟨_, _, rfl, rfl, Or.inr ⟨rfl, ?_⟩⟩
      rintro ⟨-, h2, h3, h4, h5⟩
      have h3 : row < 1000 := h3
      simp only [ordL, List.mem_cons, List.not_mem_nil, or_false, forall_eq_or_imp, forall_eq] at h4
      omega
    · refine Rx.walk 4 (pc' := 60) (L' := [some (.ref 0), some (.int (iz row)), some (.int (iz 3)), some (.int (iz (row / 10))), some (.int (iz 0)), some (.int (iz 2))]) (st' := [.int (iz 2), .ref 22, .int (iz 0)]) (h' := cmH z zl (uf f 22 (iu od 2 (row % 10))) fl tx) rfl ?_
      refine Rx.ial (g := (iu od 2 (row % 10))) rfl rfl (by omega) (by omega) (by omega) ?_
      rw [show ((iu od 2 (row % 10)) 2) = (row % 10) by simp [iu]]
      refine Rx.callx (m' := m_X12_has) (as := [.int (iz 0), .int (iz (row % 10))]) (rest := []) rfl (n_has _ (cmH z zl (uf f 22 (iu od 2 (row % 10))) fl tx)  0 (row % 10) (by first | assumption | omega) (by first | assumption | omega) (by first | assumption | omega) (by first | assumption | omega)) (fun v7 h8 q9 => ?_)
      obtain ⟨r_5, rfl, rfl, f6⟩ := q9
      refine Rx.walk 0 (pc' := 64) (L' := [some (.ref 0), some (.int (iz row)), some (.int (iz 3)), some (.int (iz (row / 10))), some (.int (iz 0)), some (.int (iz 2))]) (st' := [.int (iz r_5)]) (h' := cmH z zl (uf f 22 (iu od 2 (row % 10))) fl tx) rfl ?_
      have hbb9 := hb_b 0 (row % 10)
      refine Rx.eq1 rfl rfl ⟨by omega, by omega⟩ (fun b10 => ?_) (fun b10 => ?_)
      · refine Rx.walk 5 (pc' := 78) (L' := [some (.ref 0), some (.int (iz row)), some (.int (iz 3)), some (.int (iz (row / 10))), some (.int (iz 0)), some (.int (iz 2))]) (st' := [.int (iz 2), .ref 22, .int (iz 1), .int (iz 0)]) (h' := cmH z zl (uf f 22 (iu od 2 (row % 10))) fl tx) rfl ?_
        refine Rx.ial (g := (iu od 2 (row % 10))) rfl rfl (by omega) (by omega) (by omega) ?_
        rw [show ((iu od 2 (row % 10)) 2) = (row % 10) by simp [iu]]
        refine Rx.ishl (c := (p2 (row % 10))) rfl (p2_shl (by omega) (by omega)) ?_
        refine Rx.ior (c := (orB 0 (row % 10))) rfl (orB_or (by omega) (by omega) (by omega) (by omega)) ?_
        have ob10 := orB_b (s := 0) (e := (row % 10)) (by omega) (by omega) (by omega) (by omega)
        refine Rx.walk 1 (pc' := 83) (L' := [some (.ref 0), some (.int (iz row)), some (.int (iz 3)), some (.int (iz (row / 10))), some (.int (iz (orB 0 (row % 10)))), some (.int (iz 2))]) (st' := []) (h' := cmH z zl (uf f 22 (iu od 2 (row % 10))) fl tx) rfl ?_
        refine Rx.iinc (b := -1) rfl rfl rfl ?_
        refine Rx.walk 0 (pc' := 86) (L' := [some (.ref 0), some (.int (iz row)), some (.int (iz 3)), some (.int (iz (row / 10))), some (.int (iz (orB 0 (row % 10)))), some (.int (iz 1))]) (st' := []) (h' := cmH z zl (uf f 22 (iu od 2 (row % 10))) fl tx) rfl ?_
        refine Rx.walk 2 (pc' := 22) (L' := [some (.ref 0), some (.int (iz row)), some (.int (iz 3)), some (.int (iz (row / 10))), some (.int (iz (orB 0 (row % 10)))), some (.int (iz 1))]) (st' := [.int (iz 1)]) (h' := cmH z zl (uf f 22 (iu od 2 (row % 10))) fl tx) rfl ?_
        refine Rx.lt1 rfl rfl ⟨by omega, by omega⟩ (fun b11 => by omega) (fun b11 => ?_)
        refine Rx.walk 5 (pc' := 34) (L' := [some (.ref 0), some (.int (iz row)), some (.int (iz 3)), some (.int (iz (row / 10))), some (.int (iz (orB 0 (row % 10)))), some (.int (iz 1))]) (st' := [.int (iz 10), .int (iz (row / 10)), .int (iz 1), .ref 22]) (h' := cmH z zl (uf f 22 (iu od 2 (row % 10))) fl tx) rfl ?_
        refine Rx.irem rfl ⟨by omega, by omega⟩ ⟨by omega, by omega⟩ (by omega) (by omega) ?_
        refine Rx.ias (g := (iu od 2 (row % 10))) (h' := cmH z zl (uf f 22 (iu (iu od 2 (row % 10)) 1 ((row / 10) % 10))) fl tx) rfl rfl (by omega) (by omega) (by omega) rfl ?_
        refine Rx.walk 2 (pc' := 39) (L' := [some (.ref 0), some (.int (iz row)), some (.int (iz 3)), some (.int (iz (row / 10))), some (.int (iz (orB 0 (row % 10)))), some (.int (iz 1))]) (st' := [.int (iz 10), .int (iz (row / 10))]) (h' := cmH z zl (uf f 22 (iu (iu od 2 (row % 10)) 1 ((row / 10) % 10))) fl tx) rfl ?_
        refine Rx.idiv rfl ⟨by omega, by omega⟩ ⟨by omega, by omega⟩ (by omega) (by omega) ?_
        refine Rx.walk 4 (pc' := 47) (L' := [some (.ref 0), some (.int (iz row)), some (.int (iz 3)), some (.int (iz ((row / 10) / 10))), some (.int (iz (orB 0 (row % 10)))), some (.int (iz 1))]) (st' := [.int (iz 1), .ref 22]) (h' := cmH z zl (uf f 22 (iu (iu od 2 (row % 10)) 1 ((row / 10) % 10))) fl tx) rfl ?_
        refine Rx.ial (g := (iu (iu od 2 (row % 10)) 1 ((row / 10) % 10))) rfl rfl (by omega) (by omega) (by omega) ?_
        rw [show ((iu (iu od 2 (row % 10)) 1 ((row / 10) % 10)) 1) = ((row / 10) % 10) by simp [iu]]
        refine Rx.walk 1 (pc' := 49) (L' := [some (.ref 0), some (.int (iz row)), some (.int (iz 3)), some (.int (iz ((row / 10) / 10))), some (.int (iz (orB 0 (row % 10)))), some (.int (iz 1))]) (st' := [.int (iz 3), .int (iz ((row / 10) % 10))]) (h' := cmH z zl (uf f 22 (iu (iu od 2 (row % 10)) 1 ((row / 10) % 10))) fl tx) rfl ?_
        refine Rx.ge2 rfl rfl ⟨by omega, by omega⟩ ⟨by omega, by omega⟩ (fun b12 => ?_) (fun b12 => ?_)
        · refine Rx.walk 1 (pc' := 68) (L' := [some (.ref 0), some (.int (iz row)), some (.int (iz 3)), some (.int (iz ((row / 10) / 10))), some (.int (iz (orB 0 (row % 10)))), some (.int (iz 1))]) (st' := [.int (iz 0)]) (h' := cmH z zl (uf f 22 (iu (iu od 2 (row % 10)) 1 ((row / 10) % 10))) fl tx) rfl ?_
          refine Rx.ret rfl ?_
          refine ⟨_, _, rfl, rfl, Or.inr ⟨rfl, ?_⟩⟩
          rintro ⟨-, h2, h3, h4, h5⟩
          have h3 : row < 1000 := h3
          simp only [ordL, List.mem_cons, List.not_mem_nil, or_false, forall_eq_or_imp, forall_eq] at h4
          omega
        · refine Rx.walk 4 (pc' := 60) (L' := [some (.ref 0), some (.int (iz row)), some (.int (iz 3)), some (.int (iz ((row / 10) / 10))), some (.int (iz (orB 0 (row % 10)))), some (.int (iz 1))]) (st' := [.int (iz 1), .ref 22, .int (iz (orB 0 (row % 10)))]) (h' := cmH z zl (uf f 22 (iu (iu od 2 (row % 10)) 1 ((row / 10) % 10))) fl tx) rfl ?_
          refine Rx.ial (g := (iu (iu od 2 (row % 10)) 1 ((row / 10) % 10))) rfl rfl (by omega) (by omega) (by omega) ?_
          rw [show ((iu (iu od 2 (row % 10)) 1 ((row / 10) % 10)) 1) = ((row / 10) % 10) by simp [iu]]
          refine Rx.callx (m' := m_X12_has) (as := [.int (iz (orB 0 (row % 10))), .int (iz ((row / 10) % 10))]) (rest := []) rfl (n_has _ (cmH z zl (uf f 22 (iu (iu od 2 (row % 10)) 1 ((row / 10) % 10))) fl tx)  (orB 0 (row % 10)) ((row / 10) % 10) (by first | assumption | omega) (by first | assumption | omega) (by first | assumption | omega) (by first | assumption | omega)) (fun v15 h16 q17 => ?_)
          obtain ⟨r_13, rfl, rfl, f14⟩ := q17
          refine Rx.walk 0 (pc' := 64) (L' := [some (.ref 0), some (.int (iz row)), some (.int (iz 3)), some (.int (iz ((row / 10) / 10))), some (.int (iz (orB 0 (row % 10)))), some (.int (iz 1))]) (st' := [.int (iz r_13)]) (h' := cmH z zl (uf f 22 (iu (iu od 2 (row % 10)) 1 ((row / 10) % 10))) fl tx) rfl ?_
          have hbb17 := hb_b (orB 0 (row % 10)) ((row / 10) % 10)
          refine Rx.eq1 rfl rfl ⟨by omega, by omega⟩ (fun b18 => ?_) (fun b18 => ?_)
          · refine Rx.walk 5 (pc' := 78) (L' := [some (.ref 0), some (.int (iz row)), some (.int (iz 3)), some (.int (iz ((row / 10) / 10))), some (.int (iz (orB 0 (row % 10)))), some (.int (iz 1))]) (st' := [.int (iz 1), .ref 22, .int (iz 1), .int (iz (orB 0 (row % 10)))]) (h' := cmH z zl (uf f 22 (iu (iu od 2 (row % 10)) 1 ((row / 10) % 10))) fl tx) rfl ?_
            refine Rx.ial (g := (iu (iu od 2 (row % 10)) 1 ((row / 10) % 10))) rfl rfl (by omega) (by omega) (by omega) ?_
            rw [show ((iu (iu od 2 (row % 10)) 1 ((row / 10) % 10)) 1) = ((row / 10) % 10) by simp [iu]]
            refine Rx.ishl (c := (p2 ((row / 10) % 10))) rfl (p2_shl (by omega) (by omega)) ?_
            refine Rx.ior (c := (orB (orB 0 (row % 10)) ((row / 10) % 10))) rfl (orB_or (by omega) (by omega) (by omega) (by omega)) ?_
            have ob18 := orB_b (s := (orB 0 (row % 10))) (e := ((row / 10) % 10)) (by omega) (by omega) (by omega) (by omega)
            refine Rx.walk 1 (pc' := 83) (L' := [some (.ref 0), some (.int (iz row)), some (.int (iz 3)), some (.int (iz ((row / 10) / 10))), some (.int (iz (orB (orB 0 (row % 10)) ((row / 10) % 10)))), some (.int (iz 1))]) (st' := []) (h' := cmH z zl (uf f 22 (iu (iu od 2 (row % 10)) 1 ((row / 10) % 10))) fl tx) rfl ?_
            refine Rx.iinc (b := -1) rfl rfl rfl ?_
            refine Rx.walk 0 (pc' := 86) (L' := [some (.ref 0), some (.int (iz row)), some (.int (iz 3)), some (.int (iz ((row / 10) / 10))), some (.int (iz (orB (orB 0 (row % 10)) ((row / 10) % 10)))), some (.int (iz 0))]) (st' := []) (h' := cmH z zl (uf f 22 (iu (iu od 2 (row % 10)) 1 ((row / 10) % 10))) fl tx) rfl ?_
            refine Rx.walk 2 (pc' := 22) (L' := [some (.ref 0), some (.int (iz row)), some (.int (iz 3)), some (.int (iz ((row / 10) / 10))), some (.int (iz (orB (orB 0 (row % 10)) ((row / 10) % 10)))), some (.int (iz 0))]) (st' := [.int (iz 0)]) (h' := cmH z zl (uf f 22 (iu (iu od 2 (row % 10)) 1 ((row / 10) % 10))) fl tx) rfl ?_
            refine Rx.lt1 rfl rfl ⟨by omega, by omega⟩ (fun b19 => by omega) (fun b19 => ?_)
            refine Rx.walk 5 (pc' := 34) (L' := [some (.ref 0), some (.int (iz row)), some (.int (iz 3)), some (.int (iz ((row / 10) / 10))), some (.int (iz (orB (orB 0 (row % 10)) ((row / 10) % 10)))), some (.int (iz 0))]) (st' := [.int (iz 10), .int (iz ((row / 10) / 10)), .int (iz 0), .ref 22]) (h' := cmH z zl (uf f 22 (iu (iu od 2 (row % 10)) 1 ((row / 10) % 10))) fl tx) rfl ?_
            refine Rx.irem rfl ⟨by omega, by omega⟩ ⟨by omega, by omega⟩ (by omega) (by omega) ?_
            refine Rx.ias (g := (iu (iu od 2 (row % 10)) 1 ((row / 10) % 10))) (h' := cmH z zl (uf f 22 (iu (iu (iu od 2 (row % 10)) 1 ((row / 10) % 10)) 0 (((row / 10) / 10) % 10))) fl tx) rfl rfl (by omega) (by omega) (by omega) rfl ?_
            refine Rx.walk 2 (pc' := 39) (L' := [some (.ref 0), some (.int (iz row)), some (.int (iz 3)), some (.int (iz ((row / 10) / 10))), some (.int (iz (orB (orB 0 (row % 10)) ((row / 10) % 10)))), some (.int (iz 0))]) (st' := [.int (iz 10), .int (iz ((row / 10) / 10))]) (h' := cmH z zl (uf f 22 (iu (iu (iu od 2 (row % 10)) 1 ((row / 10) % 10)) 0 (((row / 10) / 10) % 10))) fl tx) rfl ?_
            refine Rx.idiv rfl ⟨by omega, by omega⟩ ⟨by omega, by omega⟩ (by omega) (by omega) ?_
            refine Rx.walk 4 (pc' := 47) (L' := [some (.ref 0), some (.int (iz row)), some (.int (iz 3)), some (.int (iz (((row / 10) / 10) / 10))), some (.int (iz (orB (orB 0 (row % 10)) ((row / 10) % 10)))), some (.int (iz 0))]) (st' := [.int (iz 0), .ref 22]) (h' := cmH z zl (uf f 22 (iu (iu (iu od 2 (row % 10)) 1 ((row / 10) % 10)) 0 (((row / 10) / 10) % 10))) fl tx) rfl ?_
            refine Rx.ial (g := (iu (iu (iu od 2 (row % 10)) 1 ((row / 10) % 10)) 0 (((row / 10) / 10) % 10))) rfl rfl (by omega) (by omega) (by omega) ?_
            rw [show ((iu (iu (iu od 2 (row % 10)) 1 ((row / 10) % 10)) 0 (((row / 10) / 10) % 10)) 0) = (((row / 10) / 10) % 10) by simp [iu]]
            refine Rx.walk 1 (pc' := 49) (L' := [some (.ref 0), some (.int (iz row)), some (.int (iz 3)), some (.int (iz (((row / 10) / 10) / 10))), some (.int (iz (orB (orB 0 (row % 10)) ((row / 10) % 10)))), some (.int (iz 0))]) (st' := [.int (iz 3), .int (iz (((row / 10) / 10) % 10))]) (h' := cmH z zl (uf f 22 (iu (iu (iu od 2 (row % 10)) 1 ((row / 10) % 10)) 0 (((row / 10) / 10) % 10))) fl tx) rfl ?_
            refine Rx.ge2 rfl rfl ⟨by omega, by omega⟩ ⟨by omega, by omega⟩ (fun b20 => ?_) (fun b20 => ?_)
            · refine Rx.walk 1 (pc' := 68) (L' := [some (.ref 0), some (.int (iz row)), some (.int (iz 3)), some (.int (iz (((row / 10) / 10) / 10))), some (.int (iz (orB (orB 0 (row % 10)) ((row / 10) % 10)))), some (.int (iz 0))]) (st' := [.int (iz 0)]) (h' := cmH z zl (uf f 22 (iu (iu (iu od 2 (row % 10)) 1 ((row / 10) % 10)) 0 (((row / 10) / 10) % 10))) fl tx) rfl ?_
              refine Rx.ret rfl ?_
              refine ⟨_, _, rfl, rfl, Or.inr ⟨rfl, ?_⟩⟩
              rintro ⟨-, h2, h3, h4, h5⟩
              have h3 : row < 1000 := h3
              simp only [ordL, List.mem_cons, List.not_mem_nil, or_false, forall_eq_or_imp, forall_eq] at h4
              omega
            · refine Rx.walk 4 (pc' := 60) (L' := [some (.ref 0), some (.int (iz row)), some (.int (iz 3)), some (.int (iz (((row / 10) / 10) / 10))), some (.int (iz (orB (orB 0 (row % 10)) ((row / 10) % 10)))), some (.int (iz 0))]) (st' := [.int (iz 0), .ref 22, .int (iz (orB (orB 0 (row % 10)) ((row / 10) % 10)))]) (h' := cmH z zl (uf f 22 (iu (iu (iu od 2 (row % 10)) 1 ((row / 10) % 10)) 0 (((row / 10) / 10) % 10))) fl tx) rfl ?_
              refine Rx.ial (g := (iu (iu (iu od 2 (row % 10)) 1 ((row / 10) % 10)) 0 (((row / 10) / 10) % 10))) rfl rfl (by omega) (by omega) (by omega) ?_
              rw [show ((iu (iu (iu od 2 (row % 10)) 1 ((row / 10) % 10)) 0 (((row / 10) / 10) % 10)) 0) = (((row / 10) / 10) % 10) by simp [iu]]
              refine Rx.callx (m' := m_X12_has) (as := [.int (iz (orB (orB 0 (row % 10)) ((row / 10) % 10))), .int (iz (((row / 10) / 10) % 10))]) (rest := []) rfl (n_has _ (cmH z zl (uf f 22 (iu (iu (iu od 2 (row % 10)) 1 ((row / 10) % 10)) 0 (((row / 10) / 10) % 10))) fl tx)  (orB (orB 0 (row % 10)) ((row / 10) % 10)) (((row / 10) / 10) % 10) (by first | assumption | omega) (by first | assumption | omega) (by first | assumption | omega) (by first | assumption | omega)) (fun v23 h24 q25 => ?_)
              obtain ⟨r_21, rfl, rfl, f22⟩ := q25
              refine Rx.walk 0 (pc' := 64) (L' := [some (.ref 0), some (.int (iz row)), some (.int (iz 3)), some (.int (iz (((row / 10) / 10) / 10))), some (.int (iz (orB (orB 0 (row % 10)) ((row / 10) % 10)))), some (.int (iz 0))]) (st' := [.int (iz r_21)]) (h' := cmH z zl (uf f 22 (iu (iu (iu od 2 (row % 10)) 1 ((row / 10) % 10)) 0 (((row / 10) / 10) % 10))) fl tx) rfl ?_
              have hbb25 := hb_b (orB (orB 0 (row % 10)) ((row / 10) % 10)) (((row / 10) / 10) % 10)
              refine Rx.eq1 rfl rfl ⟨by omega, by omega⟩ (fun b26 => ?_) (fun b26 => ?_)
              · refine Rx.walk 5 (pc' := 78) (L' := [some (.ref 0), some (.int (iz row)), some (.int (iz 3)), some (.int (iz (((row / 10) / 10) / 10))), some (.int (iz (orB (orB 0 (row % 10)) ((row / 10) % 10)))), some (.int (iz 0))]) (st' := [.int (iz 0), .ref 22, .int (iz 1), .int (iz (orB (orB 0 (row % 10)) ((row / 10) % 10)))]) (h' := cmH z zl (uf f 22 (iu (iu (iu od 2 (row % 10)) 1 ((row / 10) % 10)) 0 (((row / 10) / 10) % 10))) fl tx) rfl ?_
                refine Rx.ial (g := (iu (iu (iu od 2 (row % 10)) 1 ((row / 10) % 10)) 0 (((row / 10) / 10) % 10))) rfl rfl (by omega) (by omega) (by omega) ?_
                rw [show ((iu (iu (iu od 2 (row % 10)) 1 ((row / 10) % 10)) 0 (((row / 10) / 10) % 10)) 0) = (((row / 10) / 10) % 10) by simp [iu]]
                refine Rx.ishl (c := (p2 (((row / 10) / 10) % 10))) rfl (p2_shl (by omega) (by omega)) ?_
                refine Rx.ior (c := (orB (orB (orB 0 (row % 10)) ((row / 10) % 10)) (((row / 10) / 10) % 10))) rfl (orB_or (by omega) (by omega) (by omega) (by omega)) ?_
                have ob26 := orB_b (s := (orB (orB 0 (row % 10)) ((row / 10) % 10))) (e := (((row / 10) / 10) % 10)) (by omega) (by omega) (by omega) (by omega)
                refine Rx.walk 1 (pc' := 83) (L' := [some (.ref 0), some (.int (iz row)), some (.int (iz 3)), some (.int (iz (((row / 10) / 10) / 10))), some (.int (iz (orB (orB (orB 0 (row % 10)) ((row / 10) % 10)) (((row / 10) / 10) % 10)))), some (.int (iz 0))]) (st' := []) (h' := cmH z zl (uf f 22 (iu (iu (iu od 2 (row % 10)) 1 ((row / 10) % 10)) 0 (((row / 10) / 10) % 10))) fl tx) rfl ?_
                refine Rx.iinc (b := -1) rfl rfl rfl ?_
                refine Rx.walk 0 (pc' := 86) (L' := [some (.ref 0), some (.int (iz row)), some (.int (iz 3)), some (.int (iz (((row / 10) / 10) / 10))), some (.int (iz (orB (orB (orB 0 (row % 10)) ((row / 10) % 10)) (((row / 10) / 10) % 10)))), some (.int (iz (-1)))]) (st' := []) (h' := cmH z zl (uf f 22 (iu (iu (iu od 2 (row % 10)) 1 ((row / 10) % 10)) 0 (((row / 10) / 10) % 10))) fl tx) rfl ?_
                refine Rx.walk 2 (pc' := 22) (L' := [some (.ref 0), some (.int (iz row)), some (.int (iz 3)), some (.int (iz (((row / 10) / 10) / 10))), some (.int (iz (orB (orB (orB 0 (row % 10)) ((row / 10) % 10)) (((row / 10) / 10) % 10)))), some (.int (iz (-1)))]) (st' := [.int (iz (-1))]) (h' := cmH z zl (uf f 22 (iu (iu (iu od 2 (row % 10)) 1 ((row / 10) % 10)) 0 (((row / 10) / 10) % 10))) fl tx) rfl ?_
                refine Rx.lt1 rfl rfl ⟨by omega, by omega⟩ (fun b27 => ?_) (fun b27 => by omega)
                refine Rx.walk 1 (pc' := 90) (L' := [some (.ref 0), some (.int (iz row)), some (.int (iz 3)), some (.int (iz (((row / 10) / 10) / 10))), some (.int (iz (orB (orB (orB 0 (row % 10)) ((row / 10) % 10)) (((row / 10) / 10) % 10)))), some (.int (iz (-1)))]) (st' := [.int (iz (((row / 10) / 10) / 10))]) (h' := cmH z zl (uf f 22 (iu (iu (iu od 2 (row % 10)) 1 ((row / 10) % 10)) 0 (((row / 10) / 10) % 10))) fl tx) rfl ?_
                refine Rx.ne1 rfl rfl ⟨by omega, by omega⟩ (fun b28 => ?_) (fun b28 => ?_)
                · refine Rx.walk 1 (pc' := 98) (L' := [some (.ref 0), some (.int (iz row)), some (.int (iz 3)), some (.int (iz (((row / 10) / 10) / 10))), some (.int (iz (orB (orB (orB 0 (row % 10)) ((row / 10) % 10)) (((row / 10) / 10) % 10)))), some (.int (iz (-1)))]) (st' := [.int (iz 0)]) (h' := cmH z zl (uf f 22 (iu (iu (iu od 2 (row % 10)) 1 ((row / 10) % 10)) 0 (((row / 10) / 10) % 10))) fl tx) rfl ?_
                  refine Rx.ret rfl ?_
                  refine ⟨_, _, rfl, rfl, Or.inr ⟨rfl, ?_⟩⟩
                  rintro ⟨-, h2, h3, h4, h5⟩
                  have h3 : row < 1000 := h3
                  simp only [ordL, List.mem_cons, List.not_mem_nil, or_false, forall_eq_or_imp, forall_eq] at h4
                  omega
                · refine Rx.walk 2 (pc' := 98) (L' := [some (.ref 0), some (.int (iz row)), some (.int (iz 3)), some (.int (iz (((row / 10) / 10) / 10))), some (.int (iz (orB (orB (orB 0 (row % 10)) ((row / 10) % 10)) (((row / 10) / 10) % 10)))), some (.int (iz (-1)))]) (st' := [.int (iz 1)]) (h' := cmH z zl (uf f 22 (iu (iu (iu od 2 (row % 10)) 1 ((row / 10) % 10)) 0 (((row / 10) / 10) % 10))) fl tx) rfl ?_
                  refine Rx.ret rfl ?_
                  have e1 := (not_congr (hb1 (show 0 ≤ (row % 10) by omega) (show (row % 10) < 4 by omega) (show 0 ≤ ((row / 10) % 10) by omega) (show ((row / 10) % 10) < 4 by omega))).mp (show ¬ hb (orB 0 (row % 10)) ((row / 10) % 10) = 1 by omega)
                  have e2 := (not_congr (hb2 (show 0 ≤ (row % 10) by omega) (show (row % 10) < 4 by omega) (show 0 ≤ ((row / 10) % 10) by omega) (show ((row / 10) % 10) < 4 by omega) (show 0 ≤ (((row / 10) / 10) % 10) by omega) (show (((row / 10) / 10) % 10) < 4 by omega))).mp (show ¬ hb (orB (orB 0 (row % 10)) ((row / 10) % 10)) (((row / 10) / 10) % 10) = 1 by omega)
                  refine ⟨_, _, rfl, rfl, Or.inl ⟨rfl, ⟨by omega, by omega, by show row < 1000; omega, ?_, ?_⟩, ?_⟩⟩
                  · simp only [ordL, List.mem_cons, List.not_mem_nil, or_false, forall_eq_or_imp, forall_eq]; omega
                  · simp only [ordL, List.pairwise_cons, List.mem_cons, List.not_mem_nil, or_false, forall_eq_or_imp, forall_eq, false_imp_iff, implies_true, and_true, List.Pairwise.nil]; omega
                  · show [_, _, _] = [_, _, _]; simp [iu]
              · refine Rx.walk 1 (pc' := 68) (L' := [some (.ref 0), some (.int (iz row)), some (.int (iz 3)), some (.int (iz (((row / 10) / 10) / 10))), some (.int (iz (orB (orB 0 (row % 10)) ((row / 10) % 10)))), some (.int (iz 0))]) (st' := [.int (iz 0)]) (h' := cmH z zl (uf f 22 (iu (iu (iu od 2 (row % 10)) 1 ((row / 10) % 10)) 0 (((row / 10) / 10) % 10))) fl tx) rfl ?_
                refine Rx.ret rfl ?_
                refine ⟨_, _, rfl, rfl, Or.inr ⟨rfl, ?_⟩⟩
                rintro ⟨-, h2, h3, h4, h5⟩
                have e := (hb2 (show 0 ≤ (row % 10) by omega) (show (row % 10) < 4 by omega) (show 0 ≤ ((row / 10) % 10) by omega) (show ((row / 10) % 10) < 4 by omega) (show 0 ≤ (((row / 10) / 10) % 10) by omega) (show (((row / 10) / 10) % 10) < 4 by omega)).mp (show hb (orB (orB 0 (row % 10)) ((row / 10) % 10)) (((row / 10) / 10) % 10) = 1 by omega)
                simp only [ordL, List.pairwise_cons, List.mem_cons, List.not_mem_nil, or_false, forall_eq_or_imp, forall_eq, false_imp_iff, implies_true, and_true, List.Pairwise.nil] at h5
                omega
          · refine Rx.walk 1 (pc' := 68) (L' := [some (.ref 0), some (.int (iz row)), some (.int (iz 3)), some (.int (iz ((row / 10) / 10))), some (.int (iz (orB 0 (row % 10)))), some (.int (iz 1))]) (st' := [.int (iz 0)]) (h' := cmH z zl (uf f 22 (iu (iu od 2 (row % 10)) 1 ((row / 10) % 10))) fl tx) rfl ?_
            refine Rx.ret rfl ?_
            refine ⟨_, _, rfl, rfl, Or.inr ⟨rfl, ?_⟩⟩
            rintro ⟨-, h2, h3, h4, h5⟩
            have e := (hb1 (show 0 ≤ (row % 10) by omega) (show (row % 10) < 4 by omega) (show 0 ≤ ((row / 10) % 10) by omega) (show ((row / 10) % 10) < 4 by omega)).mp (show hb (orB 0 (row % 10)) ((row / 10) % 10) = 1 by omega)
            simp only [ordL, List.pairwise_cons, List.mem_cons, List.not_mem_nil, or_false, forall_eq_or_imp, forall_eq, false_imp_iff, implies_true, and_true, List.Pairwise.nil] at h5
            omega
      · refine Rx.walk 1 (pc' := 68) (L' := [some (.ref 0), some (.int (iz row)), some (.int (iz 3)), some (.int (iz (row / 10))), some (.int (iz 0)), some (.int (iz 2))]) (st' := [.int (iz 0)]) (h' := cmH z zl (uf f 22 (iu od 2 (row % 10))) fl tx) rfl ?_
        refine Rx.ret rfl ?_
        refine ⟨_, _, rfl, rfl, Or.inr ⟨rfl, ?_⟩⟩
        rintro ⟨-, h2, h3, h4, h5⟩
        have := hb0 (row % 10)
        omega
set_option maxRecDepth 100000 in
set_option maxHeartbeats 4000000 in
theorem m_layOrder4 (d : Nat) (z : Nat → Int) (zl : Nat → Int) (f : Nat → Int → Int) (fl : Nat → Int → Int) (tx : Nat)  (row : Int) (od : Int → Int) (hr : bI row) : Rx (d + 1) m_X12_layOrder 0 (am_ent [.ref 0, .int (iz row), .int (iz 4)] 6) [] (cmH z zl (uf f 22 od) fl tx) (fun rv h => ∃ r : Int, ∃ od' : Int → Int, rv = some (.int (iz r)) ∧ h = cmH z zl (uf f 22 od') fl tx ∧ ((r = 1 ∧ ordOK 4 row ∧ lsI 4 od' = ordL 4 row) ∨ (r = 0 ∧ ¬ ordOK 4 row))) := by
  obtain ⟨hr0, hr1⟩ := id hr
  refine Rx.walk 0 (pc' := 0) (L' := [some (.ref 0), some (.int (iz row)), some (.int (iz 4)), none, none, none]) (st' := []) (h' := cmH z zl (uf f 22 od) fl tx) rfl ?_
  refine Rx.walk 1 (pc' := 1) (L' := [some (.ref 0), some (.int (iz row)), some (.int (iz 4)), none, none, none]) (st' := [.int (iz row)]) (h' := cmH z zl (uf f 22 od) fl tx) rfl ?_
  refine Rx.lt1 rfl rfl ⟨by omega, by omega⟩ (fun b1 => ?_) (fun b1 => ?_)
  · refine Rx.walk 1 (pc' := 9) (L' := [some (.ref 0), some (.int (iz row)), some (.int (iz 4)), none, none, none]) (st' := [.int (iz 0)]) (h' := cmH z zl (uf f 22 od) fl tx) rfl ?_
    refine Rx.ret rfl ?_
    refine ⟨_, _, rfl, rfl, Or.inr ⟨rfl, ?_⟩⟩
    rintro ⟨-, h2, h3, h4, h5⟩
    have h3 : row < 10000 := h3
    simp only [ordL, List.mem_cons, List.not_mem_nil, or_false, forall_eq_or_imp, forall_eq] at h4
    omega
  · refine Rx.walk 1 (pc' := 5) (L' := [some (.ref 0), some (.int (iz row)), some (.int (iz 4)), none, none, none]) (st' := [.int (iz 4)]) (h' := cmH z zl (uf f 22 od) fl tx) rfl ?_
    refine Rx.ne1 rfl rfl ⟨by omega, by omega⟩ (fun b2 => ?_) (fun b2 => by omega)
    refine Rx.walk 6 (pc' := 17) (L' := [some (.ref 0), some (.int (iz row)), some (.int (iz 4)), some (.int (iz row)), some (.int (iz 0)), none]) (st' := [.int (iz 1), .int (iz 4)]) (h' := cmH z zl (uf f 22 od) fl tx) rfl ?_
    refine Rx.isub rfl ?_
    refine Rx.walk 0 (pc' := 18) (L' := [some (.ref 0), some (.int (iz row)), some (.int (iz 4)), some (.int (iz row)), some (.int (iz 0)), none]) (st' := [.int (iz 3)]) (h' := cmH z zl (uf f 22 od) fl tx) rfl ?_
    refine Rx.walk 2 (pc' := 22) (L' := [some (.ref 0), some (.int (iz row)), some (.int (iz 4)), some (.int (iz row)), some (.int (iz 0)), some (.int (iz 3))]) (st' := [.int (iz 3)]) (h' := cmH z zl (uf f 22 od) fl tx) rfl ?_
    refine Rx.lt1 rfl rfl ⟨by omega, by omega⟩ (fun b3 => by omega) (fun b3 => ?_)
    refine Rx.walk 5 (pc' := 34) (L' := [some (.ref 0), some (.int (iz row)), some (.int (iz 4)), some (.int (iz row)), some (.int (iz 0)), some (.int (iz 3))]) (st' := [.int (iz 10), .int (iz row), .int (iz 3), .ref 22]) (h' := cmH z zl (uf f 22 od) fl tx) rfl ?_
    refine Rx.irem rfl ⟨by omega, by omega⟩ ⟨by omega, by omega⟩ (by omega) (by omega) ?_
    refine Rx.ias (g := od) (h' := cmH z zl (uf f 22 (iu od 3 (row % 10))) fl tx) rfl rfl (by omega) (by omega) (by omega) rfl ?_
    refine Rx.walk 2 (pc' := 39) (L' := [some (.ref 0), some (.int (iz row)), some (.int (iz 4)), some (.int (iz row)), some (.int (iz 0)), some (.int (iz 3))]) (st' := [.int (iz 10), .int (iz row)]) (h' := cmH z zl (uf f 22 (iu od 3 (row % 10))) fl tx) rfl ?_
    refine Rx.idiv rfl ⟨by omega, by omega⟩ ⟨by omega, by omega⟩ (by omega) (by omega) ?_
    refine Rx.walk 4 (pc' := 47) (L' := [some (.ref 0), some (.int (iz row)), some (.int (iz 4)), some (.int (iz (row / 10))), some (.int (iz 0)), some (.int (iz 3))]) (st' := [.int (iz 3), .ref 22]) (h' := cmH z zl (uf f 22 (iu od 3 (row % 10))) fl tx) rfl ?_
    refine Rx.ial (g := (iu od 3 (row % 10))) rfl rfl (by omega) (by omega) (by omega) ?_
    rw [show ((iu od 3 (row % 10)) 3) = (row % 10) by simp [iu]]
    refine Rx.walk 1 (pc' := 49) (L' := [some (.ref 0), some (.int (iz row)), some (.int (iz 4)), some (.int (iz (row / 10))), some (.int (iz 0)), some (.int (iz 3))]) (st' := [.int (iz 4), .int (iz (row % 10))]) (h' := cmH z zl (uf f 22 (iu od 3 (row % 10))) fl tx) rfl ?_
    refine Rx.ge2 rfl rfl ⟨by omega, by omega⟩ ⟨by omega, by omega⟩ (fun b4 => ?_) (fun b4 => ?_)
    · refine Rx.walk 1 (pc' := 68) (L' := [some (.ref 0), some (.int (iz row)), some (.int (iz 4)), some (.int (iz (row / 10))), some (.int (iz 0)), some (.int (iz 3))]) (st' := [.int (iz 0)]) (h' := cmH z zl (uf f 22 (iu od 3 (row % 10))) fl tx) rfl ?_
      refine Rx.ret rfl ?_
      refine ⟨_, _, rfl, rfl, Or.inr ⟨rfl, ?_⟩⟩
      rintro ⟨-, h2, h3, h4, h5⟩
      have h3 : row < 10000 := h3
      simp only [ordL, List.mem_cons, List.not_mem_nil, or_false, forall_eq_or_imp, forall_eq] at h4
      omega
    · refine Rx.walk 4 (pc' := 60) (L' := [some (.ref 0), some (.int (iz row)), some (.int (iz 4)), some (.int (iz (row / 10))), some (.int (iz 0)), some (.int (iz 3))]) (st' := [.int (iz 3), .ref 22, .int (iz 0)]) (h' := cmH z zl (uf f 22 (iu od 3 (row % 10))) fl tx) rfl ?_
      refine Rx.ial (g := (iu od 3 (row % 10))) rfl rfl (by omega) (by omega) (by omega) ?_
      rw [show ((iu od 3 (row % 10)) 3) = (row % 10) by simp [iu]]
      refine Rx.callx (m' := m_X12_has) (as := [.int (iz 0), .int (iz (row % 10))]) (rest := []) rfl (n_has _ (cmH z zl (uf f 22 (iu od 3 (row % 10))) fl tx)  0 (row % 10) (by first | assumption | omega) (by first | assumption | omega) (by first | assumption | omega) (by first | assumption | omega)) (fun v7 h8 q9 => ?_)
      obtain ⟨r_5, rfl, rfl, f6⟩ := q9
      refine Rx.walk 0 (pc' := 64) (L' := [some (.ref 0), some (.int (iz row)), some (.int (iz 4)), some (.int (iz (row / 10))), some (.int (iz 0)), some (.int (iz 3))]) (st' := [.int (iz r_5)]) (h' := cmH z zl (uf f 22 (iu od 3 (row % 10))) fl tx) rfl ?_
      have hbb9 := hb_b 0 (row % 10)
      refine Rx.eq1 rfl rfl ⟨by omega, by omega⟩ (fun b10 => ?_) (fun b10 => ?_)
      · refine Rx.walk 5 (pc' := 78) (L' := [some (.ref 0), some (.int (iz row)), some (.int (iz 4)), some (.int (iz (row / 10))), some (.int (iz 0)), some (.int (iz 3))]) (st' := [.int (iz 3), .ref 22, .int (iz 1), .int (iz 0)]) (h' := cmH z zl (uf f 22 (iu od 3 (row % 10))) fl tx) rfl ?_
        refine Rx.ial (g := (iu od 3 (row % 10))) rfl rfl (by omega) (by omega) (by omega) ?_
        rw [show ((iu od 3 (row % 10)) 3) = (row % 10) by simp [iu]]
        refine Rx.ishl (c := (p2 (row % 10))) rfl (p2_shl (by omega) (by omega)) ?_
        refine Rx.ior (c := (orB 0 (row % 10))) rfl (orB_or (by omega) (by omega) (by omega) (by omega)) ?_
        have ob10 := orB_b (s := 0) (e := (row % 10)) (by omega) (by omega) (by omega) (by omega)
        refine Rx.walk 1 (pc' := 83) (L' := [some (.ref 0), some (.int (iz row)), some (.int (iz 4)), some (.int (iz (row / 10))), some (.int (iz (orB 0 (row % 10)))), some (.int (iz 3))]) (st' := []) (h' := cmH z zl (uf f 22 (iu od 3 (row % 10))) fl tx) rfl ?_
        refine Rx.iinc (b := -1) rfl rfl rfl ?_
        refine Rx.walk 0 (pc' := 86) (L' := [some (.ref 0), some (.int (iz row)), some (.int (iz 4)), some (.int (iz (row / 10))), some (.int (iz (orB 0 (row % 10)))), some (.int (iz 2))]) (st' := []) (h' := cmH z zl (uf f 22 (iu od 3 (row % 10))) fl tx) rfl ?_
        refine Rx.walk 2 (pc' := 22) (L' := [some (.ref 0), some (.int (iz row)), some (.int (iz 4)), some (.int (iz (row / 10))), some (.int (iz (orB 0 (row % 10)))), some (.int (iz 2))]) (st' := [.int (iz 2)]) (h' := cmH z zl (uf f 22 (iu od 3 (row % 10))) fl tx) rfl ?_
        refine Rx.lt1 rfl rfl ⟨by omega, by omega⟩ (fun b11 => by omega) (fun b11 => ?_)
        refine Rx.walk 5 (pc' := 34) (L' := [some (.ref 0), some (.int (iz row)), some (.int (iz 4)), some (.int (iz (row / 10))), some (.int (iz (orB 0 (row % 10)))), some (.int (iz 2))]) (st' := [.int (iz 10), .int (iz (row / 10)), .int (iz 2), .ref 22]) (h' := cmH z zl (uf f 22 (iu od 3 (row % 10))) fl tx) rfl ?_
        refine Rx.irem rfl ⟨by omega, by omega⟩ ⟨by omega, by omega⟩ (by omega) (by omega) ?_
        refine Rx.ias (g := (iu od 3 (row % 10))) (h' := cmH z zl (uf f 22 (iu (iu od 3 (row % 10)) 2 ((row / 10) % 10))) fl tx) rfl rfl (by omega) (by omega) (by omega) rfl ?_
        refine Rx.walk 2 (pc' := 39) (L' := [some (.ref 0), some (.int (iz row)), some (.int (iz 4)), some (.int (iz (row / 10))), some (.int (iz (orB 0 (row % 10)))), some (.int (iz 2))]) (st' := [.int (iz 10), .int (iz (row / 10))]) (h' := cmH z zl (uf f 22 (iu (iu od 3 (row % 10)) 2 ((row / 10) % 10))) fl tx) rfl ?_
        refine Rx.idiv rfl ⟨by omega, by omega⟩ ⟨by omega, by omega⟩ (by omega) (by omega) ?_
        refine Rx.walk 4 (pc' := 47) (L' := [some (.ref 0), some (.int (iz row)), some (.int (iz 4)), some (.int (iz ((row / 10) / 10))), some (.int (iz (orB 0 (row % 10)))), some (.int (iz 2))]) (st' := [.int (iz 2), .ref 22]) (h' := cmH z zl (uf f 22 (iu (iu od 3 (row % 10)) 2 ((row / 10) % 10))) fl tx) rfl ?_
        refine Rx.ial (g := (iu (iu od 3 (row % 10)) 2 ((row / 10) % 10))) rfl rfl (by omega) (by omega) (by omega) ?_
        rw [show ((iu (iu od 3 (row % 10)) 2 ((row / 10) % 10)) 2) = ((row / 10) % 10) by simp [iu]]
        refine Rx.walk 1 (pc' := 49) (L' := [some (.ref 0), some (.int (iz row)), some (.int (iz 4)), some (.int (iz ((row / 10) / 10))), some (.int (iz (orB 0 (row % 10)))), some (.int (iz 2))]) (st' := [.int (iz 4), .int (iz ((row / 10) % 10))]) (h' := cmH z zl (uf f 22 (iu (iu od 3 (row % 10)) 2 ((row / 10) % 10))) fl tx) rfl ?_
        refine Rx.ge2 rfl rfl ⟨by omega, by omega⟩ ⟨by omega, by omega⟩ (fun b12 => ?_) (fun b12 => ?_)
        · refine Rx.walk 1 (pc' := 68) (L' := [some (.ref 0), some (.int (iz row)), some (.int (iz 4)), some (.int (iz ((row / 10) / 10))), some (.int (iz (orB 0 (row % 10)))), some (.int (iz 2))]) (st' := [.int (iz 0)]) (h' := cmH z zl (uf f 22 (iu (iu od 3 (row % 10)) 2 ((row / 10) % 10))) fl tx) rfl ?_
          refine Rx.ret rfl ?_
          refine ⟨_, _, rfl, rfl, Or.inr ⟨rfl, ?_⟩⟩
          rintro ⟨-, h2, h3, h4, h5⟩
          have h3 : row < 10000 := h3
          simp only [ordL, List.mem_cons, List.not_mem_nil, or_false, forall_eq_or_imp, forall_eq] at h4
          omega
        · refine Rx.walk 4 (pc' := 60) (L' := [some (.ref 0), some (.int (iz row)), some (.int (iz 4)), some (.int (iz ((row / 10) / 10))), some (.int (iz (orB 0 (row % 10)))), some (.int (iz 2))]) (st' := [.int (iz 2), .ref 22, .int (iz (orB 0 (row % 10)))]) (h' := cmH z zl (uf f 22 (iu (iu od 3 (row % 10)) 2 ((row / 10) % 10))) fl tx) rfl ?_
          refine Rx.ial (g := (iu (iu od 3 (row % 10)) 2 ((row / 10) % 10))) rfl rfl (by omega) (by omega) (by omega) ?_
          rw [show ((iu (iu od 3 (row % 10)) 2 ((row / 10) % 10)) 2) = ((row / 10) % 10) by simp [iu]]
          refine Rx.callx (m' := m_X12_has) (as := [.int (iz (orB 0 (row % 10))), .int (iz ((row / 10) % 10))]) (rest := []) rfl (n_has _ (cmH z zl (uf f 22 (iu (iu od 3 (row % 10)) 2 ((row / 10) % 10))) fl tx)  (orB 0 (row % 10)) ((row / 10) % 10) (by first | assumption | omega) (by first | assumption | omega) (by first | assumption | omega) (by first | assumption | omega)) (fun v15 h16 q17 => ?_)
          obtain ⟨r_13, rfl, rfl, f14⟩ := q17
          refine Rx.walk 0 (pc' := 64) (L' := [some (.ref 0), some (.int (iz row)), some (.int (iz 4)), some (.int (iz ((row / 10) / 10))), some (.int (iz (orB 0 (row % 10)))), some (.int (iz 2))]) (st' := [.int (iz r_13)]) (h' := cmH z zl (uf f 22 (iu (iu od 3 (row % 10)) 2 ((row / 10) % 10))) fl tx) rfl ?_
          have hbb17 := hb_b (orB 0 (row % 10)) ((row / 10) % 10)
          refine Rx.eq1 rfl rfl ⟨by omega, by omega⟩ (fun b18 => ?_) (fun b18 => ?_)
          · refine Rx.walk 5 (pc' := 78) (L' := [some (.ref 0), some (.int (iz row)), some (.int (iz 4)), some (.int (iz ((row / 10) / 10))), some (.int (iz (orB 0 (row % 10)))), some (.int (iz 2))]) (st' := [.int (iz 2), .ref 22, .int (iz 1), .int (iz (orB 0 (row % 10)))]) (h' := cmH z zl (uf f 22 (iu (iu od 3 (row % 10)) 2 ((row / 10) % 10))) fl tx) rfl ?_
            refine Rx.ial (g := (iu (iu od 3 (row % 10)) 2 ((row / 10) % 10))) rfl rfl (by omega) (by omega) (by omega) ?_
            rw [show ((iu (iu od 3 (row % 10)) 2 ((row / 10) % 10)) 2) = ((row / 10) % 10) by simp [iu]]
            refine Rx.ishl (c := (p2 ((row / 10) % 10))) rfl (p2_shl (by omega) (by omega)) ?_
            refine Rx.ior (c := (orB (orB 0 (row % 10)) ((row / 10) % 10))) rfl (orB_or (by omega) (by omega) (by omega) (by omega)) ?_
            have ob18 := orB_b (s := (orB 0 (row % 10))) (e := ((row / 10) % 10)) (by omega) (by omega) (by omega) (by omega)
            refine Rx.walk 1 (pc' := 83) (L' := [some (.ref 0), some (.int (iz row)), some (.int (iz 4)), some (.int (iz ((row / 10) / 10))), some (.int (iz (orB (orB 0 (row % 10)) ((row / 10) % 10)))), some (.int (iz 2))]) (st' := []) (h' := cmH z zl (uf f 22 (iu (iu od 3 (row % 10)) 2 ((row / 10) % 10))) fl tx) rfl ?_
            refine Rx.iinc (b := -1) rfl rfl rfl ?_
            refine Rx.walk 0 (pc' := 86) (L' := [some (.ref 0), some (.int (iz row)), some (.int (iz 4)), some (.int (iz ((row / 10) / 10))), some (.int (iz (orB (orB 0 (row % 10)) ((row / 10) % 10)))), some (.int (iz 1))]) (st' := []) (h' := cmH z zl (uf f 22 (iu (iu od 3 (row % 10)) 2 ((row / 10) % 10))) fl tx) rfl ?_
            refine Rx.walk 2 (pc' := 22) (L' := [some (.ref 0), some (.int (iz row)), some (.int (iz 4)), some (.int (iz ((row / 10) / 10))), some (.int (iz (orB (orB 0 (row % 10)) ((row / 10) % 10)))), some (.int (iz 1))]) (st' := [.int (iz 1)]) (h' := cmH z zl (uf f 22 (iu (iu od 3 (row % 10)) 2 ((row / 10) % 10))) fl tx) rfl ?_
            refine Rx.lt1 rfl rfl ⟨by omega, by omega⟩ (fun b19 => by omega) (fun b19 => ?_)
            refine Rx.walk 5 (pc' := 34) (L' := [some (.ref 0), some (.int (iz row)), some (.int (iz 4)), some (.int (iz ((row / 10) / 10))), some (.int (iz (orB (orB 0 (row % 10)) ((row / 10) % 10)))), some (.int (iz 1))]) (st' := [.int (iz 10), .int (iz ((row / 10) / 10)), .int (iz 1), .ref 22]) (h' := cmH z zl (uf f 22 (iu (iu od 3 (row % 10)) 2 ((row / 10) % 10))) fl tx) rfl ?_
            refine Rx.irem rfl ⟨by omega, by omega⟩ ⟨by omega, by omega⟩ (by omega) (by omega) ?_
            refine Rx.ias (g := (iu (iu od 3 (row % 10)) 2 ((row / 10) % 10))) (h' := cmH z zl (uf f 22 (iu (iu (iu od 3 (row % 10)) 2 ((row / 10) % 10)) 1 (((row / 10) / 10) % 10))) fl tx) rfl rfl (by omega) (by omega) (by omega) rfl ?_
            refine Rx.walk 2 (pc' := 39) (L' := [some (.ref 0), some (.int (iz row)), some (.int (iz 4)), some (.int (iz ((row / 10) / 10))), some (.int (iz (orB (orB 0 (row % 10)) ((row / 10) % 10)))), some (.int (iz 1))]) (st' := [.int (iz 10), .int (iz ((row / 10) / 10))]) (h' := cmH z zl (uf f 22 (iu (iu (iu od 3 (row % 10)) 2 ((row / 10) % 10)) 1 (((row / 10) / 10) % 10))) fl tx) rfl ?_
            refine Rx.idiv rfl ⟨by omega, by omega⟩ ⟨by omega, by omega⟩ (by omega) (by omega) ?_
            refine Rx.walk 4 (pc' := 47) (L' := [some (.ref 0), some (.int (iz row)), some (.int (iz 4)), some (.int (iz (((row / 10) / 10) / 10))), some (.int (iz (orB (orB 0 (row % 10)) ((row / 10) % 10)))), some (.int (iz 1))]) (st' := [.int (iz 1), .ref 22]) (h' := cmH z zl (uf f 22 (iu (iu (iu od 3 (row % 10)) 2 ((row / 10) % 10)) 1 (((row / 10) / 10) % 10))) fl tx) rfl ?_
            refine Rx.ial (g := (iu (iu (iu od 3 (row % 10)) 2 ((row / 10) % 10)) 1 (((row / 10) / 10) % 10))) rfl rfl (by omega) (by omega) (by omega) ?_
            rw [show ((iu (iu (iu od 3 (row % 10)) 2 ((row / 10) % 10)) 1 (((row / 10) / 10) % 10)) 1) = (((row / 10) / 10) % 10) by simp [iu]]
            refine Rx.walk 1 (pc' := 49) (L' := [some (.ref 0), some (.int (iz row)), some (.int (iz 4)), some (.int (iz (((row / 10) / 10) / 10))), some (.int (iz (orB (orB 0 (row % 10)) ((row / 10) % 10)))), some (.int (iz 1))]) (st' := [.int (iz 4), .int (iz (((row / 10) / 10) % 10))]) (h' := cmH z zl (uf f 22 (iu (iu (iu od 3 (row % 10)) 2 ((row / 10) % 10)) 1 (((row / 10) / 10) % 10))) fl tx) rfl ?_
            refine Rx.ge2 rfl rfl ⟨by omega, by omega⟩ ⟨by omega, by omega⟩ (fun b20 => ?_) (fun b20 => ?_)
            · refine Rx.walk 1 (pc' := 68) (L' := [some (.ref 0), some (.int (iz row)), some (.int (iz 4)), some (.int (iz (((row / 10) / 10) / 10))), some (.int (iz (orB (orB 0 (row % 10)) ((row / 10) % 10)))), some (.int (iz 1))]) (st' := [.int (iz 0)]) (h' := cmH z zl (uf f 22 (iu (iu (iu od 3 (row % 10)) 2 ((row / 10) % 10)) 1 (((row / 10) / 10) % 10))) fl tx) rfl ?_
              refine Rx.ret rfl ?_
              refine ⟨_, _, rfl, rfl, Or.inr ⟨rfl, ?_⟩⟩
              rintro ⟨-, h2, h3, h4, h5⟩
              have h3 : row < 10000 := h3
              simp only [ordL, List.mem_cons, List.not_mem_nil, or_false, forall_eq_or_imp, forall_eq] at h4
              omega
            · refine Rx.walk 4 (pc' := 60) (L' := [some (.ref 0), some (.int (iz row)), some (.int (iz 4)), some (.int (iz (((row / 10) / 10) / 10))), some (.int (iz (orB (orB 0 (row % 10)) ((row / 10) % 10)))), some (.int (iz 1))]) (st' := [.int (iz 1), .ref 22, .int (iz (orB (orB 0 (row % 10)) ((row / 10) % 10)))]) (h' := cmH z zl (uf f 22 (iu (iu (iu od 3 (row % 10)) 2 ((row / 10) % 10)) 1 (((row / 10) / 10) % 10))) fl tx) rfl ?_
              refine Rx.ial (g := (iu (iu (iu od 3 (row % 10)) 2 ((row / 10) % 10)) 1 (((row / 10) / 10) % 10))) rfl rfl (by omega) (by omega) (by omega) ?_
              rw [show ((iu (iu (iu od 3 (row % 10)) 2 ((row / 10) % 10)) 1 (((row / 10) / 10) % 10)) 1) = (((row / 10) / 10) % 10) by simp [iu]]
              refine Rx.callx (m' := m_X12_has) (as := [.int (iz (orB (orB 0 (row % 10)) ((row / 10) % 10))), .int (iz (((row / 10) / 10) % 10))]) (rest := []) rfl (n_has _ (cmH z zl (uf f 22 (iu (iu (iu od 3 (row % 10)) 2 ((row / 10) % 10)) 1 (((row / 10) / 10) % 10))) fl tx)  (orB (orB 0 (row % 10)) ((row / 10) % 10)) (((row / 10) / 10) % 10) (by first | assumption | omega) (by first | assumption | omega) (by first | assumption | omega) (by first | assumption | omega)) (fun v23 h24 q25 => ?_)
              obtain ⟨r_21, rfl, rfl, f22⟩ := q25
              refine Rx.walk 0 (pc' := 64) (L' := [some (.ref 0), some (.int (iz row)), some (.int (iz 4)), some (.int (iz (((row / 10) / 10) / 10))), some (.int (iz (orB (orB 0 (row % 10)) ((row / 10) % 10)))), some (.int (iz 1))]) (st' := [.int (iz r_21)]) (h' := cmH z zl (uf f 22 (iu (iu (iu od 3 (row % 10)) 2 ((row / 10) % 10)) 1 (((row / 10) / 10) % 10))) fl tx) rfl ?_
              have hbb25 := hb_b (orB (orB 0 (row % 10)) ((row / 10) % 10)) (((row / 10) / 10) % 10)
              refine Rx.eq1 rfl rfl ⟨by omega, by omega⟩ (fun b26 => ?_) (fun b26 => ?_)
              · refine Rx.walk 5 (pc' := 78) (L' := [some (.ref 0), some (.int (iz row)), some (.int (iz 4)), some (.int (iz (((row / 10) / 10) / 10))), some (.int (iz (orB (orB 0 (row % 10)) ((row / 10) % 10)))), some (.int (iz 1))]) (st' := [.int (iz 1), .ref 22, .int (iz 1), .int (iz (orB (orB 0 (row % 10)) ((row / 10) % 10)))]) (h' := cmH z zl (uf f 22 (iu (iu (iu od 3 (row % 10)) 2 ((row / 10) % 10)) 1 (((row / 10) / 10) % 10))) fl tx) rfl ?_
                refine Rx.ial (g := (iu (iu (iu od 3 (row % 10)) 2 ((row / 10) % 10)) 1 (((row / 10) / 10) % 10))) rfl rfl (by omega) (by omega) (by omega) ?_
                rw [show ((iu (iu (iu od 3 (row % 10)) 2 ((row / 10) % 10)) 1 (((row / 10) / 10) % 10)) 1) = (((row / 10) / 10) % 10) by simp [iu]]
                refine Rx.ishl (c := (p2 (((row / 10) / 10) % 10))) rfl (p2_shl (by omega) (by omega)) ?_
                refine Rx.ior (c := (orB (orB (orB 0 (row % 10)) ((row / 10) % 10)) (((row / 10) / 10) % 10))) rfl (orB_or (by omega) (by omega) (by omega) (by omega)) ?_
                have ob26 := orB_b (s := (orB (orB 0 (row % 10)) ((row / 10) % 10))) (e := (((row / 10) / 10) % 10)) (by omega) (by omega) (by omega) (by omega)
                refine Rx.walk 1 (pc' := 83) (L' := [some (.ref 0), some (.int (iz row)), some (.int (iz 4)), some (.int (iz (((row / 10) / 10) / 10))), some (.int (iz (orB (orB (orB 0 (row % 10)) ((row / 10) % 10)) (((row / 10) / 10) % 10)))), some (.int (iz 1))]) (st' := []) (h' := cmH z zl (uf f 22 (iu (iu (iu od 3 (row % 10)) 2 ((row / 10) % 10)) 1 (((row / 10) / 10) % 10))) fl tx) rfl ?_
                refine Rx.iinc (b := -1) rfl rfl rfl ?_
                refine Rx.walk 0 (pc' := 86) (L' := [some (.ref 0), some (.int (iz row)), some (.int (iz 4)), some (.int (iz (((row / 10) / 10) / 10))), some (.int (iz (orB (orB (orB 0 (row % 10)) ((row / 10) % 10)) (((row / 10) / 10) % 10)))), some (.int (iz 0))]) (st' := []) (h' := cmH z zl (uf f 22 (iu (iu (iu od 3 (row % 10)) 2 ((row / 10) % 10)) 1 (((row / 10) / 10) % 10))) fl tx) rfl ?_
                refine Rx.walk 2 (pc' := 22) (L' := [some (.ref 0), some (.int (iz row)), some (.int (iz 4)), some (.int (iz (((row / 10) / 10) / 10))), some (.int (iz (orB (orB (orB 0 (row % 10)) ((row / 10) % 10)) (((row / 10) / 10) % 10)))), some (.int (iz 0))]) (st' := [.int (iz 0)]) (h' := cmH z zl (uf f 22 (iu (iu (iu od 3 (row % 10)) 2 ((row / 10) % 10)) 1 (((row / 10) / 10) % 10))) fl tx) rfl ?_
                refine Rx.lt1 rfl rfl ⟨by omega, by omega⟩ (fun b27 => by omega) (fun b27 => ?_)
                refine Rx.walk 5 (pc' := 34) (L' := [some (.ref 0), some (.int (iz row)), some (.int (iz 4)), some (.int (iz (((row / 10) / 10) / 10))), some (.int (iz (orB (orB (orB 0 (row % 10)) ((row / 10) % 10)) (((row / 10) / 10) % 10)))), some (.int (iz 0))]) (st' := [.int (iz 10), .int (iz (((row / 10) / 10) / 10)), .int (iz 0), .ref 22]) (h' := cmH z zl (uf f 22 (iu (iu (iu od 3 (row % 10)) 2 ((row / 10) % 10)) 1 (((row / 10) / 10) % 10))) fl tx) rfl ?_
                refine Rx.irem rfl ⟨by omega, by omega⟩ ⟨by omega, by omega⟩ (by omega) (by omega) ?_
                refine Rx.ias (g := (iu (iu (iu od 3 (row % 10)) 2 ((row / 10) % 10)) 1 (((row / 10) / 10) % 10))) (h' := cmH z zl (uf f 22 (iu (iu (iu (iu od 3 (row % 10)) 2 ((row / 10) % 10)) 1 (((row / 10) / 10) % 10)) 0 ((((row / 10) / 10) / 10) % 10))) fl tx) rfl rfl (by omega) (by omega) (by omega) rfl ?_
                refine Rx.walk 2 (pc' := 39) (L' := [some (.ref 0), some (.int (iz row)), some (.int (iz 4)), some (.int (iz (((row / 10) / 10) / 10))), some (.int (iz (orB (orB (orB 0 (row % 10)) ((row / 10) % 10)) (((row / 10) / 10) % 10)))), some (.int (iz 0))]) (st' := [.int (iz 10), .int (iz (((row / 10) / 10) / 10))]) (h' := cmH z zl (uf f 22 (iu (iu (iu (iu od 3 (row % 10)) 2 ((row / 10) % 10)) 1 (((row / 10) / 10) % 10)) 0 ((((row / 10) / 10) / 10) % 10))) fl tx) rfl ?_
                refine Rx.idiv rfl ⟨by omega, by omega⟩ ⟨by omega, by omega⟩ (by omega) (by omega) ?_
                refine Rx.walk 4 (pc' := 47) (L' := [some (.ref 0), some (.int (iz row)), some (.int (iz 4)), some (.int (iz ((((row / 10) / 10) / 10) / 10))), some (.int (iz (orB (orB (orB 0 (row % 10)) ((row / 10) % 10)) (((row / 10) / 10) % 10)))), some (.int (iz 0))]) (st' := [.int (iz 0), .ref 22]) (h' := cmH z zl (uf f 22 (iu (iu (iu (iu od 3 (row % 10)) 2 ((row / 10) % 10)) 1 (((row / 10) / 10) % 10)) 0 ((((row / 10) / 10) / 10) % 10))) fl tx) rfl ?_
                refine Rx.ial (g := (iu (iu (iu (iu od 3 (row % 10)) 2 ((row / 10) % 10)) 1 (((row / 10) / 10) % 10)) 0 ((((row / 10) / 10) / 10) % 10))) rfl rfl (by omega) (by omega) (by omega) ?_
                rw [show ((iu (iu (iu (iu od 3 (row % 10)) 2 ((row / 10) % 10)) 1 (((row / 10) / 10) % 10)) 0 ((((row / 10) / 10) / 10) % 10)) 0) = ((((row / 10) / 10) / 10) % 10) by simp [iu]]
                refine Rx.walk 1 (pc' := 49) (L' := [some (.ref 0), some (.int (iz row)), some (.int (iz 4)), some (.int (iz ((((row / 10) / 10) / 10) / 10))), some (.int (iz (orB (orB (orB 0 (row % 10)) ((row / 10) % 10)) (((row / 10) / 10) % 10)))), some (.int (iz 0))]) (st' := [.int (iz 4), .int (iz ((((row / 10) / 10) / 10) % 10))]) (h' := cmH z zl (uf f 22 (iu (iu (iu (iu od 3 (row % 10)) 2 ((row / 10) % 10)) 1 (((row / 10) / 10) % 10)) 0 ((((row / 10) / 10) / 10) % 10))) fl tx) rfl ?_
                refine Rx.ge2 rfl rfl ⟨by omega, by omega⟩ ⟨by omega, by omega⟩ (fun b28 => ?_) (fun b28 => ?_)
                · refine Rx.walk 1 (pc' := 68) (L' := [some (.ref 0), some (.int (iz row)), some (.int (iz 4)), some (.int (iz ((((row / 10) / 10) / 10) / 10))), some (.int (iz (orB (orB (orB 0 (row % 10)) ((row / 10) % 10)) (((row / 10) / 10) % 10)))), some (.int (iz 0))]) (st' := [.int (iz 0)]) (h' := cmH z zl (uf f 22 (iu (iu (iu (iu od 3 (row % 10)) 2 ((row / 10) % 10)) 1 (((row / 10) / 10) % 10)) 0 ((((row / 10) / 10) / 10) % 10))) fl tx) rfl ?_
                  refine Rx.ret rfl ?_
                  refine ⟨_, _, rfl, rfl, Or.inr ⟨rfl, ?_⟩⟩
                  rintro ⟨-, h2, h3, h4, h5⟩
                  have h3 : row < 10000 := h3
                  simp only [ordL, List.mem_cons, List.not_mem_nil, or_false, forall_eq_or_imp, forall_eq] at h4
                  omega
                · refine Rx.walk 4 (pc' := 60) (L' := [some (.ref 0), some (.int (iz row)), some (.int (iz 4)), some (.int (iz ((((row / 10) / 10) / 10) / 10))), some (.int (iz (orB (orB (orB 0 (row % 10)) ((row / 10) % 10)) (((row / 10) / 10) % 10)))), some (.int (iz 0))]) (st' := [.int (iz 0), .ref 22, .int (iz (orB (orB (orB 0 (row % 10)) ((row / 10) % 10)) (((row / 10) / 10) % 10)))]) (h' := cmH z zl (uf f 22 (iu (iu (iu (iu od 3 (row % 10)) 2 ((row / 10) % 10)) 1 (((row / 10) / 10) % 10)) 0 ((((row / 10) / 10) / 10) % 10))) fl tx) rfl ?_
                  refine Rx.ial (g := (iu (iu (iu (iu od 3 (row % 10)) 2 ((row / 10) % 10)) 1 (((row / 10) / 10) % 10)) 0 ((((row / 10) / 10) / 10) % 10))) rfl rfl (by omega) (by omega) (by omega) ?_
                  rw [show ((iu (iu (iu (iu od 3 (row % 10)) 2 ((row / 10) % 10)) 1 (((row / 10) / 10) % 10)) 0 ((((row / 10) / 10) / 10) % 10)) 0) = ((((row / 10) / 10) / 10) % 10) by simp [iu]]
                  refine Rx.callx (m' := m_X12_has) (as := [.int (iz (orB (orB (orB 0 (row % 10)) ((row / 10) % 10)) (((row / 10) / 10) % 10))), .int (iz ((((row / 10) / 10) / 10) % 10))]) (rest := []) rfl (n_has _ (cmH z zl (uf f 22 (iu (iu (iu (iu od 3 (row % 10)) 2 ((row / 10) % 10)) 1 (((row / 10) / 10) % 10)) 0 ((((row / 10) / 10) / 10) % 10))) fl tx)  (orB (orB (orB 0 (row % 10)) ((row / 10) % 10)) (((row / 10) / 10) % 10)) ((((row / 10) / 10) / 10) % 10) (by first | assumption | omega) (by first | assumption | omega) (by first | assumption | omega) (by first | assumption | omega)) (fun v31 h32 q33 => ?_)
                  obtain ⟨r_29, rfl, rfl, f30⟩ := q33
                  refine Rx.walk 0 (pc' := 64) (L' := [some (.ref 0), some (.int (iz row)), some (.int (iz 4)), some (.int (iz ((((row / 10) / 10) / 10) / 10))), some (.int (iz (orB (orB (orB 0 (row % 10)) ((row / 10) % 10)) (((row / 10) / 10) % 10)))), some (.int (iz 0))]) (st' := [.int (iz r_29)]) (h' := cmH z zl (uf f 22 (iu (iu (iu (iu od 3 (row % 10)) 2 ((row / 10) % 10)) 1 (((row / 10) / 10) % 10)) 0 ((((row / 10) / 10) / 10) % 10))) fl tx) rfl ?_
                  have hbb33 := hb_b (orB (orB (orB 0 (row % 10)) ((row / 10) % 10)) (((row / 10) / 10) % 10)) ((((row / 10) / 10) / 10) % 10)
                  refine Rx.eq1 rfl rfl ⟨by omega, by omega⟩ (fun b34 => ?_) (fun b34 => ?_)
                  · refine Rx.walk 5 (pc' := 78) (L' := [some (.ref 0), some (.int (iz row)), some (.int (iz 4)), some (.int (iz ((((row / 10) / 10) / 10) / 10))), some (.int (iz (orB (orB (orB 0 (row % 10)) ((row / 10) % 10)) (((row / 10) / 10) % 10)))), some (.int (iz 0))]) (st' := [.int (iz 0), .ref 22, .int (iz 1), .int (iz (orB (orB (orB 0 (row % 10)) ((row / 10) % 10)) (((row / 10) / 10) % 10)))]) (h' := cmH z zl (uf f 22 (iu (iu (iu (iu od 3 (row % 10)) 2 ((row / 10) % 10)) 1 (((row / 10) / 10) % 10)) 0 ((((row / 10) / 10) / 10) % 10))) fl tx) rfl ?_
                    refine Rx.ial (g := (iu (iu (iu (iu od 3 (row % 10)) 2 ((row / 10) % 10)) 1 (((row / 10) / 10) % 10)) 0 ((((row / 10) / 10) / 10) % 10))) rfl rfl (by omega) (by omega) (by omega) ?_
                    rw [show ((iu (iu (iu (iu od 3 (row % 10)) 2 ((row / 10) % 10)) 1 (((row / 10) / 10) % 10)) 0 ((((row / 10) / 10) / 10) % 10)) 0) = ((((row / 10) / 10) / 10) % 10) by simp [iu]]
                    refine Rx.ishl (c := (p2 ((((row / 10) / 10) / 10) % 10))) rfl (p2_shl (by omega) (by omega)) ?_
                    refine Rx.ior (c := (orB (orB (orB (orB 0 (row % 10)) ((row / 10) % 10)) (((row / 10) / 10) % 10)) ((((row / 10) / 10) / 10) % 10))) rfl (orB_or (by omega) (by omega) (by omega) (by omega)) ?_
                    have ob34 := orB_b (s := (orB (orB (orB 0 (row % 10)) ((row / 10) % 10)) (((row / 10) / 10) % 10))) (e := ((((row / 10) / 10) / 10) % 10)) (by omega) (by omega) (by omega) (by omega)
                    refine Rx.walk 1 (pc' := 83) (L' := [some (.ref 0), some (.int (iz row)), some (.int (iz 4)), some (.int (iz ((((row / 10) / 10) / 10) / 10))), some (.int (iz (orB (orB (orB (orB 0 (row % 10)) ((row / 10) % 10)) (((row / 10) / 10) % 10)) ((((row / 10) / 10) / 10) % 10)))), some (.int (iz 0))]) (st' := []) (h' := cmH z zl (uf f 22 (iu (iu (iu (iu od 3 (row % 10)) 2 ((row / 10) % 10)) 1 (((row / 10) / 10) % 10)) 0 ((((row / 10) / 10) / 10) % 10))) fl tx) rfl ?_
                    refine Rx.iinc (b := -1) rfl rfl rfl ?_
                    refine Rx.walk 0 (pc' := 86) (L' := [some (.ref 0), some (.int (iz row)), some (.int (iz 4)), some (.int (iz ((((row / 10) / 10) / 10) / 10))), some (.int (iz (orB (orB (orB (orB 0 (row % 10)) ((row / 10) % 10)) (((row / 10) / 10) % 10)) ((((row / 10) / 10) / 10) % 10)))), some (.int (iz (-1)))]) (st' := []) (h' := cmH z zl (uf f 22 (iu (iu (iu (iu od 3 (row % 10)) 2 ((row / 10) % 10)) 1 (((row / 10) / 10) % 10)) 0 ((((row / 10) / 10) / 10) % 10))) fl tx) rfl ?_
                    refine Rx.walk 2 (pc' := 22) (L' := [some (.ref 0), some (.int (iz row)), some (.int (iz 4)), some (.int (iz ((((row / 10) / 10) / 10) / 10))), some (.int (iz (orB (orB (orB (orB 0 (row % 10)) ((row / 10) % 10)) (((row / 10) / 10) % 10)) ((((row / 10) / 10) / 10) % 10)))), some (.int (iz (-1)))]) (st' := [.int (iz (-1))]) (h' := cmH z zl (uf f 22 (iu (iu (iu (iu od 3 (row % 10)) 2 ((row / 10) % 10)) 1 (((row / 10) / 10) % 10)) 0 ((((row / 10) / 10) / 10) % 10))) fl tx) rfl ?_
                    refine Rx.lt1 rfl rfl ⟨by omega, by omega⟩ (fun b35 => ?_) (fun b35 => by omega)
                    refine Rx.walk 1 (pc' := 90) (L' := [some (.ref 0), some (.int (iz row)), some (.int (iz 4)), some (.int (iz ((((row / 10) / 10) / 10) / 10))), some (.int (iz (orB (orB (orB (orB 0 (row % 10)) ((row / 10) % 10)) (((row / 10) / 10) % 10)) ((((row / 10) / 10) / 10) % 10)))), some (.int (iz (-1)))]) (st' := [.int (iz ((((row / 10) / 10) / 10) / 10))]) (h' := cmH z zl (uf f 22 (iu (iu (iu (iu od 3 (row % 10)) 2 ((row / 10) % 10)) 1 (((row / 10) / 10) % 10)) 0 ((((row / 10) / 10) / 10) % 10))) fl tx) rfl ?_
                    refine Rx.ne1 rfl rfl ⟨by omega, by omega⟩ (fun b36 => ?_) (fun b36 => ?_)
                    · refine Rx.walk 1 (pc' := 98) (L' := [some (.ref 0), some (.int (iz row)), some (.int (iz 4)), some (.int (iz ((((row / 10) / 10) / 10) / 10))), some (.int (iz (orB (orB (orB (orB 0 (row % 10)) ((row / 10) % 10)) (((row / 10) / 10) % 10)) ((((row / 10) / 10) / 10) % 10)))), some (.int (iz (-1)))]) (st' := [.int (iz 0)]) (h' := cmH z zl (uf f 22 (iu (iu (iu (iu od 3 (row % 10)) 2 ((row / 10) % 10)) 1 (((row / 10) / 10) % 10)) 0 ((((row / 10) / 10) / 10) % 10))) fl tx) rfl ?_
                      refine Rx.ret rfl ?_
                      refine ⟨_, _, rfl, rfl, Or.inr ⟨rfl, ?_⟩⟩
                      rintro ⟨-, h2, h3, h4, h5⟩
                      have h3 : row < 10000 := h3
                      simp only [ordL, List.mem_cons, List.not_mem_nil, or_false, forall_eq_or_imp, forall_eq] at h4
                      omega
                    · refine Rx.walk 2 (pc' := 98) (L' := [some (.ref 0), some (.int (iz row)), some (.int (iz 4)), some (.int (iz ((((row / 10) / 10) / 10) / 10))), some (.int (iz (orB (orB (orB (orB 0 (row % 10)) ((row / 10) % 10)) (((row / 10) / 10) % 10)) ((((row / 10) / 10) / 10) % 10)))), some (.int (iz (-1)))]) (st' := [.int (iz 1)]) (h' := cmH z zl (uf f 22 (iu (iu (iu (iu od 3 (row % 10)) 2 ((row / 10) % 10)) 1 (((row / 10) / 10) % 10)) 0 ((((row / 10) / 10) / 10) % 10))) fl tx) rfl ?_
                      refine Rx.ret rfl ?_
                      have e1 := (not_congr (hb1 (show 0 ≤ (row % 10) by omega) (show (row % 10) < 4 by omega) (show 0 ≤ ((row / 10) % 10) by omega) (show ((row / 10) % 10) < 4 by omega))).mp (show ¬ hb (orB 0 (row % 10)) ((row / 10) % 10) = 1 by omega)
                      have e2 := (not_congr (hb2 (show 0 ≤ (row % 10) by omega) (show (row % 10) < 4 by omega) (show 0 ≤ ((row / 10) % 10) by omega) (show ((row / 10) % 10) < 4 by omega) (show 0 ≤ (((row / 10) / 10) % 10) by omega) (show (((row / 10) / 10) % 10) < 4 by omega))).mp (show ¬ hb (orB (orB 0 (row % 10)) ((row / 10) % 10)) (((row / 10) / 10) % 10) = 1 by omega)
                      have e3 := (not_congr (hb3 (show 0 ≤ (row % 10) by omega) (show (row % 10) < 4 by omega) (show 0 ≤ ((row / 10) % 10) by omega) (show ((row / 10) % 10) < 4 by omega) (show 0 ≤ (((row / 10) / 10) % 10) by omega) (show (((row / 10) / 10) % 10) < 4 by omega) (show 0 ≤ ((((row / 10) / 10) / 10) % 10) by omega) (show ((((row / 10) / 10) / 10) % 10) < 4 by omega))).mp (show ¬ hb (orB (orB (orB 0 (row % 10)) ((row / 10) % 10)) (((row / 10) / 10) % 10)) ((((row / 10) / 10) / 10) % 10) = 1 by omega)
                      refine ⟨_, _, rfl, rfl, Or.inl ⟨rfl, ⟨by omega, by omega, by show row < 10000; omega, ?_, ?_⟩, ?_⟩⟩
                      · simp only [ordL, List.mem_cons, List.not_mem_nil, or_false, forall_eq_or_imp, forall_eq]; omega
                      · simp only [ordL, List.pairwise_cons, List.mem_cons, List.not_mem_nil, or_false, forall_eq_or_imp, forall_eq, false_imp_iff, implies_true, and_true, List.Pairwise.nil]; omega
                      · show [_, _, _, _] = [_, _, _, _]; simp [iu]
                  · refine Rx.walk 1 (pc' := 68) (L' := [some (.ref 0), some (.int (iz row)), some (.int (iz 4)), some (.int (iz ((((row / 10) / 10) / 10) / 10))), some (.int (iz (orB (orB (orB 0 (row % 10)) ((row / 10) % 10)) (((row / 10) / 10) % 10)))), some (.int (iz 0))]) (st' := [.int (iz 0)]) (h' := cmH z zl (uf f 22 (iu (iu (iu (iu od 3 (row % 10)) 2 ((row / 10) % 10)) 1 (((row / 10) / 10) % 10)) 0 ((((row / 10) / 10) / 10) % 10))) fl tx) rfl ?_
                    refine Rx.ret rfl ?_
                    refine ⟨_, _, rfl, rfl, Or.inr ⟨rfl, ?_⟩⟩
                    rintro ⟨-, h2, h3, h4, h5⟩
                    have e := (hb3 (show 0 ≤ (row % 10) by omega) (show (row % 10) < 4 by omega) (show 0 ≤ ((row / 10) % 10) by omega) (show ((row / 10) % 10) < 4 by omega) (show 0 ≤ (((row / 10) / 10) % 10) by omega) (show (((row / 10) / 10) % 10) < 4 by omega) (show 0 ≤ ((((row / 10) / 10) / 10) % 10) by omega) (show ((((row / 10) / 10) / 10) % 10) < 4 by omega)).mp (show hb (orB (orB (orB 0 (row % 10)) ((row / 10) % 10)) (((row / 10) / 10) % 10)) ((((row / 10) / 10) / 10) % 10) = 1 by omega)
                    simp only [ordL, List.pairwise_cons, List.mem_cons, List.not_mem_nil, or_false, forall_eq_or_imp, forall_eq, false_imp_iff, implies_true, and_true, List.Pairwise.nil] at h5
                    omega
              · refine Rx.walk 1 (pc' := 68) (L' := [some (.ref 0), some (.int (iz row)), some (.int (iz 4)), some (.int (iz (((row / 10) / 10) / 10))), some (.int (iz (orB (orB 0 (row % 10)) ((row / 10) % 10)))), some (.int (iz 1))]) (st' := [.int (iz 0)]) (h' := cmH z zl (uf f 22 (iu (iu (iu od 3 (row % 10)) 2 ((row / 10) % 10)) 1 (((row / 10) / 10) % 10))) fl tx) rfl ?_
                refine Rx.ret rfl ?_
                refine ⟨_, _, rfl, rfl, Or.inr ⟨rfl, ?_⟩⟩
                rintro ⟨-, h2, h3, h4, h5⟩
                have e := (hb2 (show 0 ≤ (row % 10) by omega) (show (row % 10) < 4 by omega) (show 0 ≤ ((row / 10) % 10) by omega) (show ((row / 10) % 10) < 4 by omega) (show 0 ≤ (((row / 10) / 10) % 10) by omega) (show (((row / 10) / 10) % 10) < 4 by omega)).mp (show hb (orB (orB 0 (row % 10)) ((row / 10) % 10)) (((row / 10) / 10) % 10) = 1 by omega)
                simp only [ordL, List.pairwise_cons, List.mem_cons, List.not_mem_nil, or_false, forall_eq_or_imp, forall_eq, false_imp_iff, implies_true, and_true, List.Pairwise.nil] at h5
                omega
          · refine Rx.walk 1 (pc' := 68) (L' := [some (.ref 0), some (.int (iz row)), some (.int (iz 4)), some (.int (iz ((row / 10) / 10))), some (.int (iz (orB 0 (row % 10)))), some (.int (iz 2))]) (st' := [.int (iz 0)]) (h' := cmH z zl (uf f 22 (iu (iu od 3 (row % 10)) 2 ((row / 10) % 10))) fl tx) rfl ?_
            refine Rx.ret rfl ?_
            refine ⟨_, _, rfl, rfl, Or.inr ⟨rfl, ?_⟩⟩
            rintro ⟨-, h2, h3, h4, h5⟩
            have e := (hb1 (show 0 ≤ (row % 10) by omega) (show (row % 10) < 4 by omega) (show 0 ≤ ((row / 10) % 10) by omega) (show ((row / 10) % 10) < 4 by omega)).mp (show hb (orB 0 (row % 10)) ((row / 10) % 10) = 1 by omega)
            simp only [ordL, List.pairwise_cons, List.mem_cons, List.not_mem_nil, or_false, forall_eq_or_imp, forall_eq, false_imp_iff, implies_true, and_true, List.Pairwise.nil] at h5
            omega
      · refine Rx.walk 1 (pc' := 68) (L' := [some (.ref 0), some (.int (iz row)), some (.int (iz 4)), some (.int (iz (row / 10))), some (.int (iz 0)), some (.int (iz 3))]) (st' := [.int (iz 0)]) (h' := cmH z zl (uf f 22 (iu od 3 (row % 10))) fl tx) rfl ?_
        refine Rx.ret rfl ?_
        refine ⟨_, _, rfl, rfl, Or.inr ⟨rfl, ?_⟩⟩
        rintro ⟨-, h2, h3, h4, h5⟩
        have := hb0 (row % 10)
        omega
set_option maxRecDepth 100000 in
set_option maxHeartbeats 4000000 in
theorem m_layOrder (d : Nat) (z : Nat → Int) (zl : Nat → Int) (f : Nat → Int → Int) (fl : Nat → Int → Int) (tx : Nat)  (row : Int) (many : Int) (od : Int → Int) (hr : bI row) (h0 : 0 ≤ many ∧ many ≤ 4) : Rx (d + 1) m_X12_layOrder 0 (am_ent [.ref 0, .int (iz row), .int (iz many)] 6) [] (cmH z zl (uf f 22 od) fl tx) (fun rv h => ∃ r : Int, ∃ od' : Int → Int, rv = some (.int (iz r)) ∧ h = cmH z zl (uf f 22 od') fl tx ∧ ((r = 1 ∧ ordOK many.toNat row ∧ lsI many.toNat od' = ordL many.toNat row) ∨ (r = 0 ∧ ¬ ordOK many.toNat row))) := by
  obtain ⟨hr0, hr1⟩ := id hr
  rcases (show many = 0 ∨ many = 1 ∨ many = 2 ∨ many = 3 ∨ many = 4 by omega) with rfl | rfl | rfl | rfl | rfl
  · refine Rx.walk 0 (pc' := 0) (L' := [some (.ref 0), some (.int (iz row)), some (.int (iz 0)), none, none, none]) (st' := []) (h' := cmH z zl (uf f 22 od) fl tx) rfl ?_
    refine Rx.walk 1 (pc' := 1) (L' := [some (.ref 0), some (.int (iz row)), some (.int (iz 0)), none, none, none]) (st' := [.int (iz row)]) (h' := cmH z zl (uf f 22 od) fl tx) rfl ?_
    refine Rx.lt1 rfl rfl ⟨by omega, by omega⟩ (fun b1 => ?_) (fun b1 => ?_)
    · refine Rx.walk 1 (pc' := 9) (L' := [some (.ref 0), some (.int (iz row)), some (.int (iz 0)), none, none, none]) (st' := [.int (iz 0)]) (h' := cmH z zl (uf f 22 od) fl tx) rfl ?_
      refine Rx.ret rfl ?_
      exact ⟨_, _, rfl, rfl, Or.inr ⟨rfl, fun q => absurd q.1 (by decide)⟩⟩
    · refine Rx.walk 1 (pc' := 5) (L' := [some (.ref 0), some (.int (iz row)), some (.int (iz 0)), none, none, none]) (st' := [.int (iz 0)]) (h' := cmH z zl (uf f 22 od) fl tx) rfl ?_
      refine Rx.ne1 rfl rfl ⟨by omega, by omega⟩ (fun b2 => by omega) (fun b2 => ?_)
      refine Rx.walk 1 (pc' := 9) (L' := [some (.ref 0), some (.int (iz row)), some (.int (iz 0)), none, none, none]) (st' := [.int (iz 0)]) (h' := cmH z zl (uf f 22 od) fl tx) rfl ?_
      refine Rx.ret rfl ?_
      exact ⟨_, _, rfl, rfl, Or.inr ⟨rfl, fun q => absurd q.1 (by decide)⟩⟩
  · exact m_layOrder1 d z zl f fl tx row od hr
  · exact m_layOrder2 d z zl f fl tx row od hr
  · exact m_layOrder3 d z zl f fl tx row od hr
  · exact m_layOrder4 d z zl f fl tx row od hr

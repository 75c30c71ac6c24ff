/-! rules read by the class: emit, letterOf, comparison, readsAtom, readsTerm, readsSum (printed by wip/whole/genrul.py) -/
set_option maxRecDepth 100000 in
set_option maxHeartbeats 4000000 in
theorem x_emit (d : Nat) (z : Nat → Nat → Int) (f : Nat → Int → Int) (C : Nat → CuR) (T : Nat → TsR) (rc : Nat → Nat) (tl : AmH)  (x : Int) (sz : Int) (cd : Int → Int) (hs : 0 ≤ sz ∧ sz ≤ 161) : Rx (d) m_X6_emit 0 (am_ent [.ref 12, .int (iz x)] 2) [] (cxW (u2 z 12 1 sz) (uf f 13 cd) C T rc tl) (fun rv h => ∃ sz' : Int, ∃ cd' : Int → Int, rv = none ∧ h = cxW (u2 z 12 1 sz') (uf f 13 cd') C T rc tl ∧ ((sz < 161 ∧ sz' = sz + 1 ∧ lsI sz'.toNat cd' = lsI sz.toNat cd ++ [x]) ∨ (sz = 161 ∧ sz' = 161))) := by
  refine Rx.walk 0 (pc' := 0) (L' := [some (.ref 12), some (.int (iz x))]) (st' := []) (h' := cxW (u2 z 12 1 sz) (uf f 13 cd) C T rc tl) rfl ?_
  refine Rx.walk 5 (pc' := 9) (L' := [some (.ref 12), some (.int (iz x))]) (st' := [.int (iz 161), .int (iz sz)]) (h' := cxW (u2 z 12 1 sz) (uf f 13 cd) C T rc tl) rfl ?_
  refine Rx.ge2 rfl rfl ⟨by omega, by omega⟩ ⟨by omega, by omega⟩ (fun b1 => ?_) (fun b1 => ?_)
  · refine Rx.ret rfl ?_
    exact ⟨_, _, rfl, rfl, Or.inr ⟨by omega, by omega⟩⟩
  · refine Rx.walk 5 (pc' := 21) (L' := [some (.ref 12), some (.int (iz x))]) (st' := [.int (iz x), .int (iz sz), .ref 13]) (h' := cxW (u2 z 12 1 sz) (uf f 13 cd) C T rc tl) rfl ?_
    refine Rx.ias (g := cd) (h' := cxW (u2 z 12 1 sz) (uf f 13 (iu cd sz x)) C T rc tl) rfl rfl (by omega) (by omega) (by omega) rfl ?_
    refine Rx.walk 4 (pc' := 28) (L' := [some (.ref 12), some (.int (iz x))]) (st' := [.int (iz 1), .int (iz sz), .ref 12]) (h' := cxW (u2 z 12 1 sz) (uf f 13 (iu cd sz x)) C T rc tl) rfl ?_
    refine Rx.iadd rfl ?_
    refine Rx.walk 1 (pc' := 32) (L' := [some (.ref 12), some (.int (iz x))]) (st' := []) (h' := cxW (u2 z 12 1 (sz + 1)) (uf f 13 (iu cd sz x)) C T rc tl) rfl ?_
    refine Rx.ret rfl ?_
    refine ⟨_, _, rfl, rfl, Or.inl ⟨by omega, rfl, ?_⟩⟩
    obtain ⟨m, rfl⟩ := Int.eq_ofNat_of_zero_le hs.1
    exact lsI_push rfl
set_option maxRecDepth 100000 in
set_option maxHeartbeats 4000000 in
theorem n_letterOf (d : Nat) (h0 : AmH)  (e : Int) (he : -1 ≤ e ∧ e ≤ 255) : Rx (d) m_X6_letterOf 0 (am_ent [.int (iz e)] 1) [] (h0) (fun rv h => ∃ r : Int, rv = some (.int (iz r)) ∧ h0 = h ∧ r = ltr e) := by
  refine Rx.walk 0 (pc' := 0) (L' := [some (.int (iz e))]) (st' := []) (h' := h0) rfl ?_
  refine Rx.walk 1 (pc' := 1) (L' := [some (.int (iz e))]) (st' := [.int (iz e)]) (h' := h0) rfl ?_
  rcases (show e = 105 ∨ e = 106 ∨ e = 107 ∨ e = 108 ∨ e = 109 ∨ e = 110 ∨ e = 111 ∨ e = 112 ∨ e = 113 ∨ e = 114 ∨ e = 115 ∨ e = 116 ∨ e = 117 ∨ e = 118 ∨ (e < 105 ∨ 118 < e) by omega) with s1 | s1 | s1 | s1 | s1 | s1 | s1 | s1 | s1 | s1 | s1 | s1 | s1 | s1 | s1
  · rw [s1]
    subst s1
    refine Rx.walk 1 (pc' := 78) (L' := [some (.int (iz 105))]) (st' := []) (h' := h0) rfl ?_
    refine Rx.walk 1 (pc' := 79) (L' := [some (.int (iz 105))]) (st' := [.int (iz 3)]) (h' := h0) rfl ?_
    refine Rx.ret rfl ?_
    exact ⟨_, rfl, rfl, (by first | rfl | decide | (unfold ltr; rw [if_neg (by omega), if_neg (by omega), if_neg (by omega), if_neg (by omega), if_neg (by omega), if_neg (by omega)]))⟩
  · rw [s1]
    subst s1
    refine Rx.walk 1 (pc' := 84) (L' := [some (.int (iz 106))]) (st' := []) (h' := h0) rfl ?_
    refine Rx.walk 1 (pc' := 85) (L' := [some (.int (iz 106))]) (st' := [.int (iz (-1))]) (h' := h0) rfl ?_
    refine Rx.ret rfl ?_
    exact ⟨_, rfl, rfl, (by first | rfl | decide | (unfold ltr; rw [if_neg (by omega), if_neg (by omega), if_neg (by omega), if_neg (by omega), if_neg (by omega), if_neg (by omega)]))⟩
  · rw [s1]
    subst s1
    refine Rx.walk 1 (pc' := 84) (L' := [some (.int (iz 107))]) (st' := []) (h' := h0) rfl ?_
    refine Rx.walk 1 (pc' := 85) (L' := [some (.int (iz 107))]) (st' := [.int (iz (-1))]) (h' := h0) rfl ?_
    refine Rx.ret rfl ?_
    exact ⟨_, rfl, rfl, (by first | rfl | decide | (unfold ltr; rw [if_neg (by omega), if_neg (by omega), if_neg (by omega), if_neg (by omega), if_neg (by omega), if_neg (by omega)]))⟩
  · rw [s1]
    subst s1
    refine Rx.walk 1 (pc' := 84) (L' := [some (.int (iz 108))]) (st' := []) (h' := h0) rfl ?_
    refine Rx.walk 1 (pc' := 85) (L' := [some (.int (iz 108))]) (st' := [.int (iz (-1))]) (h' := h0) rfl ?_
    refine Rx.ret rfl ?_
    exact ⟨_, rfl, rfl, (by first | rfl | decide | (unfold ltr; rw [if_neg (by omega), if_neg (by omega), if_neg (by omega), if_neg (by omega), if_neg (by omega), if_neg (by omega)]))⟩
  · rw [s1]
    subst s1
    refine Rx.walk 1 (pc' := 84) (L' := [some (.int (iz 109))]) (st' := []) (h' := h0) rfl ?_
    refine Rx.walk 1 (pc' := 85) (L' := [some (.int (iz 109))]) (st' := [.int (iz (-1))]) (h' := h0) rfl ?_
    refine Rx.ret rfl ?_
    exact ⟨_, rfl, rfl, (by first | rfl | decide | (unfold ltr; rw [if_neg (by omega), if_neg (by omega), if_neg (by omega), if_neg (by omega), if_neg (by omega), if_neg (by omega)]))⟩
  · rw [s1]
    subst s1
    refine Rx.walk 1 (pc' := 76) (L' := [some (.int (iz 110))]) (st' := []) (h' := h0) rfl ?_
    refine Rx.walk 1 (pc' := 77) (L' := [some (.int (iz 110))]) (st' := [.int (iz 2)]) (h' := h0) rfl ?_
    refine Rx.ret rfl ?_
    exact ⟨_, rfl, rfl, (by first | rfl | decide | (unfold ltr; rw [if_neg (by omega), if_neg (by omega), if_neg (by omega), if_neg (by omega), if_neg (by omega), if_neg (by omega)]))⟩
  · rw [s1]
    subst s1
    refine Rx.walk 1 (pc' := 82) (L' := [some (.int (iz 111))]) (st' := []) (h' := h0) rfl ?_
    refine Rx.walk 1 (pc' := 83) (L' := [some (.int (iz 111))]) (st' := [.int (iz 5)]) (h' := h0) rfl ?_
    refine Rx.ret rfl ?_
    exact ⟨_, rfl, rfl, (by first | rfl | decide | (unfold ltr; rw [if_neg (by omega), if_neg (by omega), if_neg (by omega), if_neg (by omega), if_neg (by omega), if_neg (by omega)]))⟩
  · rw [s1]
    subst s1
    refine Rx.walk 1 (pc' := 84) (L' := [some (.int (iz 112))]) (st' := []) (h' := h0) rfl ?_
    refine Rx.walk 1 (pc' := 85) (L' := [some (.int (iz 112))]) (st' := [.int (iz (-1))]) (h' := h0) rfl ?_
    refine Rx.ret rfl ?_
    exact ⟨_, rfl, rfl, (by first | rfl | decide | (unfold ltr; rw [if_neg (by omega), if_neg (by omega), if_neg (by omega), if_neg (by omega), if_neg (by omega), if_neg (by omega)]))⟩
  · rw [s1]
    subst s1
    refine Rx.walk 1 (pc' := 84) (L' := [some (.int (iz 113))]) (st' := []) (h' := h0) rfl ?_
    refine Rx.walk 1 (pc' := 85) (L' := [some (.int (iz 113))]) (st' := [.int (iz (-1))]) (h' := h0) rfl ?_
    refine Rx.ret rfl ?_
    exact ⟨_, rfl, rfl, (by first | rfl | decide | (unfold ltr; rw [if_neg (by omega), if_neg (by omega), if_neg (by omega), if_neg (by omega), if_neg (by omega), if_neg (by omega)]))⟩
  · rw [s1]
    subst s1
    refine Rx.walk 1 (pc' := 84) (L' := [some (.int (iz 114))]) (st' := []) (h' := h0) rfl ?_
    refine Rx.walk 1 (pc' := 85) (L' := [some (.int (iz 114))]) (st' := [.int (iz (-1))]) (h' := h0) rfl ?_
    refine Rx.ret rfl ?_
    exact ⟨_, rfl, rfl, (by first | rfl | decide | (unfold ltr; rw [if_neg (by omega), if_neg (by omega), if_neg (by omega), if_neg (by omega), if_neg (by omega), if_neg (by omega)]))⟩
  · rw [s1]
    subst s1
    refine Rx.walk 1 (pc' := 80) (L' := [some (.int (iz 115))]) (st' := []) (h' := h0) rfl ?_
    refine Rx.walk 1 (pc' := 81) (L' := [some (.int (iz 115))]) (st' := [.int (iz 4)]) (h' := h0) rfl ?_
    refine Rx.ret rfl ?_
    exact ⟨_, rfl, rfl, (by first | rfl | decide | (unfold ltr; rw [if_neg (by omega), if_neg (by omega), if_neg (by omega), if_neg (by omega), if_neg (by omega), if_neg (by omega)]))⟩
  · rw [s1]
    subst s1
    refine Rx.walk 1 (pc' := 74) (L' := [some (.int (iz 116))]) (st' := []) (h' := h0) rfl ?_
    refine Rx.walk 1 (pc' := 75) (L' := [some (.int (iz 116))]) (st' := [.int (iz 1)]) (h' := h0) rfl ?_
    refine Rx.ret rfl ?_
    exact ⟨_, rfl, rfl, (by first | rfl | decide | (unfold ltr; rw [if_neg (by omega), if_neg (by omega), if_neg (by omega), if_neg (by omega), if_neg (by omega), if_neg (by omega)]))⟩
  · rw [s1]
    subst s1
    refine Rx.walk 1 (pc' := 84) (L' := [some (.int (iz 117))]) (st' := []) (h' := h0) rfl ?_
    refine Rx.walk 1 (pc' := 85) (L' := [some (.int (iz 117))]) (st' := [.int (iz (-1))]) (h' := h0) rfl ?_
    refine Rx.ret rfl ?_
    exact ⟨_, rfl, rfl, (by first | rfl | decide | (unfold ltr; rw [if_neg (by omega), if_neg (by omega), if_neg (by omega), if_neg (by omega), if_neg (by omega), if_neg (by omega)]))⟩
  · rw [s1]
    subst s1
    refine Rx.walk 1 (pc' := 72) (L' := [some (.int (iz 118))]) (st' := []) (h' := h0) rfl ?_
    refine Rx.walk 1 (pc' := 73) (L' := [some (.int (iz 118))]) (st' := [.int (iz 0)]) (h' := h0) rfl ?_
    refine Rx.ret rfl ?_
    exact ⟨_, rfl, rfl, (by first | rfl | decide | (unfold ltr; rw [if_neg (by omega), if_neg (by omega), if_neg (by omega), if_neg (by omega), if_neg (by omega), if_neg (by omega)]))⟩
  · refine Rx.tsd rfl rfl ⟨by omega, by omega⟩ (by omega) ?_
    refine Rx.walk 1 (pc' := 85) (L' := [some (.int (iz e))]) (st' := [.int (iz (-1))]) (h' := h0) rfl ?_
    refine Rx.ret rfl ?_
    exact ⟨_, rfl, rfl, (by first | rfl | decide | (unfold ltr; rw [if_neg (by omega), if_neg (by omega), if_neg (by omega), if_neg (by omega), if_neg (by omega), if_neg (by omega)]))⟩
set_option maxRecDepth 100000 in
set_option maxHeartbeats 4000000 in
theorem n_cmp (d : Nat) (h0 : AmH)  (e : Int) (he : -1 ≤ e ∧ e ≤ 255) : Rx (d) m_X6_comparison 0 (am_ent [.int (iz e)] 1) [] (h0) (fun rv h => ∃ r : Int, rv = some (.int (iz r)) ∧ h0 = h ∧ r = cmpS e) := by
  refine Rx.walk 0 (pc' := 0) (L' := [some (.int (iz e))]) (st' := []) (h' := h0) rfl ?_
  refine Rx.walk 2 (pc' := 3) (L' := [some (.int (iz e))]) (st' := [.int (iz 61), .int (iz e)]) (h' := h0) rfl ?_
  refine Rx.ne2 rfl rfl ⟨by omega, by omega⟩ ⟨by omega, by omega⟩ (fun b1 => ?_) (fun b1 => ?_)
  · refine Rx.walk 2 (pc' := 14) (L' := [some (.int (iz e))]) (st' := [.int (iz 60), .int (iz e)]) (h' := h0) rfl ?_
    refine Rx.ne2 rfl rfl ⟨by omega, by omega⟩ ⟨by omega, by omega⟩ (fun b2 => ?_) (fun b2 => ?_)
    · refine Rx.walk 2 (pc' := 25) (L' := [some (.int (iz e))]) (st' := [.int (iz 62), .int (iz e)]) (h' := h0) rfl ?_
      refine Rx.ne2 rfl rfl ⟨by omega, by omega⟩ ⟨by omega, by omega⟩ (fun b3 => ?_) (fun b3 => ?_)
      · refine Rx.walk 1 (pc' := 34) (L' := [some (.int (iz e))]) (st' := [.int (iz 0)]) (h' := h0) rfl ?_
        refine Rx.ret rfl ?_
        exact ⟨_, rfl, rfl, by unfold cmpS; rw [if_neg (by omega), if_neg (by omega), if_neg (by omega)]⟩
      · refine Rx.walk 2 (pc' := 34) (L' := [some (.int (iz e))]) (st' := [.int (iz (-7))]) (h' := h0) rfl ?_
        refine Rx.ret rfl ?_
        exact ⟨_, rfl, rfl, by unfold cmpS; rw [if_neg (by omega), if_neg (by omega), if_pos (by omega)]⟩
    · refine Rx.walk 2 (pc' := 34) (L' := [some (.int (iz e))]) (st' := [.int (iz (-6))]) (h' := h0) rfl ?_
      refine Rx.ret rfl ?_
      exact ⟨_, rfl, rfl, by unfold cmpS; rw [if_neg (by omega), if_pos (by omega)]⟩
  · refine Rx.walk 2 (pc' := 34) (L' := [some (.int (iz e))]) (st' := [.int (iz (-5))]) (h' := h0) rfl ?_
    refine Rx.ret rfl ?_
    exact ⟨_, rfl, rfl, by unfold cmpS; rw [if_pos (by omega)]⟩
set_option maxRecDepth 100000 in
set_option maxHeartbeats 4000000 in
theorem x_rAtom0 (d : Nat) (z : Nat → Nat → Int) (f : Nat → Int → Int) (C : Nat → CuR) (T : Nat → TsR) (rc : Nat → Nat) (tl : AmH)  (dp : Int) (n : Int) (a : Int) (b : Int → Int) (sz : Int) (cd : Int → Int) (hT : tOK n b) (ha : 0 ≤ a ∧ a ≤ n) (hs : 0 ≤ sz ∧ sz ≤ a) (hdp : dp = 6) : Rx (d + 3) m_X6_readsAtom 0 (am_ent [.ref 12, .ref 1, .int (iz dp)] 6) [] (cxW (u2 (u2 (u2 z 1 1 n) 1 2 a) 12 1 sz) (uf (uf f 2 b) 13 cd) C T rc tl) (fun rv h => ∃ r : Int, ∃ a' : Int, ∃ sz' : Int, ∃ cd' : Int → Int, rv = some (.int (iz r)) ∧ h = cxW (u2 (u2 (u2 z 1 1 n) 1 2 a') 12 1 sz') (uf (uf f 2 b) 13 cd') C T rc tl ∧ rdR n b (atomR n b 0 a) sz cd r a' sz' cd' ∧ ((r = 0 ∨ r = 1) ∧ (a ≤ a' ∧ a' ≤ n) ∧ (0 ≤ sz' ∧ sz' ≤ 161))) := by
  obtain ⟨hT1, hT2, hT3⟩ := id hT
  refine Rx.walk 0 (pc' := 0) (L' := [some (.ref 12), some (.ref 1), some (.int (iz dp)), none, none, none]) (st' := []) (h' := cxW (u2 (u2 (u2 z 1 1 n) 1 2 a) 12 1 sz) (uf (uf f 2 b) 13 cd) C T rc tl) rfl ?_
  refine Rx.walk 1 (pc' := 1) (L' := [some (.ref 12), some (.ref 1), some (.int (iz dp)), none, none, none]) (st' := [.ref 1]) (h' := cxW (u2 (u2 (u2 z 1 1 n) 1 2 a) 12 1 sz) (uf (uf f 2 b) 13 cd) C T rc tl) rfl ?_
  refine Rx.callx (m' := m_X8_sign) (as := [.ref 1]) (rest := []) rfl (x_sgn _ (u2 (u2 (u2 z 1 1 n) 1 2 a) 12 1 sz) (uf (uf f 2 b) 13 cd) C T rc tl  n a b hT ha) (fun v7 h8 q9 => ?_)
  obtain ⟨r_1, a_2, rfl, rfl, f3, f4, f5, f6⟩ := q9
  refine Rx.walk 0 (pc' := 4) (L' := [some (.ref 12), some (.ref 1), some (.int (iz dp)), none, none, none]) (st' := [.int (iz r_1)]) (h' := cxW (u2 (u2 (u2 z 1 1 n) 1 2 a_2) 12 1 sz) (uf (uf f 2 b) 13 cd) C T rc tl) rfl ?_
  refine Rx.walk 3 (pc' := 8) (L' := [some (.ref 12), some (.ref 1), some (.int (iz dp)), some (.int (iz r_1)), none, none]) (st' := [.int (iz 91), .int (iz r_1)]) (h' := cxW (u2 (u2 (u2 z 1 1 n) 1 2 a_2) 12 1 sz) (uf (uf f 2 b) 13 cd) C T rc tl) rfl ?_
  refine Rx.ne2 rfl rfl ⟨by omega, by omega⟩ ⟨by omega, by omega⟩ (fun b10 => ?_) (fun b10 => ?_)
  · refine Rx.walk 1 (pc' := 56) (L' := [some (.ref 12), some (.ref 1), some (.int (iz dp)), some (.int (iz r_1)), none, none]) (st' := [.int (iz r_1)]) (h' := cxW (u2 (u2 (u2 z 1 1 n) 1 2 a_2) 12 1 sz) (uf (uf f 2 b) 13 cd) C T rc tl) rfl ?_
    refine Rx.callx (m' := m_X6_letterOf) (as := [.int (iz r_1)]) (rest := []) rfl (n_letterOf _ (cxW (u2 (u2 (u2 z 1 1 n) 1 2 a_2) 12 1 sz) (uf (uf f 2 b) 13 cd) C T rc tl)  r_1 (by first | assumption | omega)) (fun v13 h14 q15 => ?_)
    obtain ⟨r_11, rfl, rfl, f12⟩ := q15
    refine Rx.walk 0 (pc' := 59) (L' := [some (.ref 12), some (.ref 1), some (.int (iz dp)), some (.int (iz r_1)), none, none]) (st' := [.int (iz r_11)]) (h' := cxW (u2 (u2 (u2 z 1 1 n) 1 2 a_2) 12 1 sz) (uf (uf f 2 b) 13 cd) C T rc tl) rfl ?_
    have hlb := ltr_b r_1
    rw [← f12] at hlb
    refine Rx.walk 3 (pc' := 64) (L' := [some (.ref 12), some (.ref 1), some (.int (iz dp)), some (.int (iz r_1)), some (.int (iz r_11)), none]) (st' := [.int (iz (-1)), .int (iz r_11)]) (h' := cxW (u2 (u2 (u2 z 1 1 n) 1 2 a_2) 12 1 sz) (uf (uf f 2 b) 13 cd) C T rc tl) rfl ?_
    refine Rx.eq2 rfl rfl ⟨by omega, by omega⟩ ⟨by omega, by omega⟩ (fun b16 => ?_) (fun b16 => ?_)
    · refine Rx.walk 2 (pc' := 90) (L' := [some (.ref 12), some (.ref 1), some (.int (iz dp)), some (.int (iz r_1)), some (.int (iz r_11)), none]) (st' := [.int (iz 4), .ref 1]) (h' := cxW (u2 (u2 (u2 z 1 1 n) 1 2 a_2) 12 1 sz) (uf (uf f 2 b) 13 cd) C T rc tl) rfl ?_
      refine Rx.callx (m' := m_X8_digits) (as := [.ref 1, .int (iz 4)]) (rest := []) rfl (x_dgt4 _ (u2 (u2 (u2 z 1 1 n) 1 2 a_2) 12 1 sz) (uf (uf f 2 b) 13 cd) C T rc tl  n a_2 b hT ⟨by omega, by omega⟩) (fun v22 h23 q24 => ?_)
      obtain ⟨r_17, a_18, rfl, rfl, f19, f20, f21⟩ := q24
      refine Rx.walk 0 (pc' := 93) (L' := [some (.ref 12), some (.ref 1), some (.int (iz dp)), some (.int (iz r_1)), some (.int (iz r_11)), none]) (st' := [.int (iz r_17)]) (h' := cxW (u2 (u2 (u2 z 1 1 n) 1 2 a_18) 12 1 sz) (uf (uf f 2 b) 13 cd) C T rc tl) rfl ?_
      refine Rx.walk 3 (pc' := 98) (L' := [some (.ref 12), some (.ref 1), some (.int (iz dp)), some (.int (iz r_1)), some (.int (iz r_11)), some (.int (iz r_17))]) (st' := [.int (iz (-1)), .int (iz r_17)]) (h' := cxW (u2 (u2 (u2 z 1 1 n) 1 2 a_18) 12 1 sz) (uf (uf f 2 b) 13 cd) C T rc tl) rfl ?_
      refine Rx.ne2 rfl rfl ⟨by omega, by omega⟩ ⟨by omega, by omega⟩ (fun b25 => ?_) (fun b25 => ?_)
      · refine Rx.walk 2 (pc' := 106) (L' := [some (.ref 12), some (.ref 1), some (.int (iz dp)), some (.int (iz r_1)), some (.int (iz r_11)), some (.int (iz r_17))]) (st' := [.int (iz r_17), .ref 12]) (h' := cxW (u2 (u2 (u2 z 1 1 n) 1 2 a_18) 12 1 sz) (uf (uf f 2 b) 13 cd) C T rc tl) rfl ?_
        refine Rx.callx (m' := m_X6_emit) (as := [.ref 12, .int (iz r_17)]) (rest := []) rfl (x_emit _ (u2 (u2 (u2 z 1 1 n) 1 2 a_18) 12 1 sz) (uf (uf f 2 b) 13 cd) C T rc tl  r_17 sz cd (by first | assumption | omega)) (fun v29 h30 q31 => ?_)
        obtain ⟨sz_26, cd_27, rfl, rfl, f28⟩ := q31
        refine Rx.walk 0 (pc' := 109) (L' := [some (.ref 12), some (.ref 1), some (.int (iz dp)), some (.int (iz r_1)), some (.int (iz r_11)), some (.int (iz r_17))]) (st' := []) (h' := cxW (u2 (u2 (u2 z 1 1 n) 1 2 a_18) 12 1 sz_26) (uf (uf f 2 b) 13 cd_27) C T rc tl) rfl ?_
        have heb : 0 ≤ sz_26 ∧ sz_26 ≤ 161 := by rcases f28 with z | z <;> omega
        refine Rx.walk 1 (pc' := 110) (L' := [some (.ref 12), some (.ref 1), some (.int (iz dp)), some (.int (iz r_1)), some (.int (iz r_11)), some (.int (iz r_17))]) (st' := [.int (iz 1)]) (h' := cxW (u2 (u2 (u2 z 1 1 n) 1 2 a_18) 12 1 sz_26) (uf (uf f 2 b) 13 cd_27) C T rc tl) rfl ?_
        refine Rx.ret rfl ?_
        have ec : sg n b (sks n b a) = r_1 := by rw [← f3, ← f4]
        have el : r_11 = ltr (sg n b (sks n b a)) := by rw [ec]; exact f12
        have esk : sks n b a_2 = sks n b a := by rw [f3, sks_sks]
        obtain ⟨z1, z2, z3⟩ : isD n b (sks n b a) = true ∧ r_17 = (dg n b 4 (sks n b a) 0).2 ∧ a_18 = (dg n b 4 (sks n b a) 0).1 := by rcases f19 with z | z; (rw [esk] at z; exact z); (exfalso; omega)
        cases hn : isD n b (dg n b 4 (sks n b a) 0).1 with
        | true =>
          rw [show atomR n b 0 a = atomG n b none a from rfl, atomG_e (n := n) (b := b) (a := a) (by omega) (by omega) z1 hn]
          exact ⟨_, _, _, _, rfl, rfl, Or.inr ⟨rfl, z3, by rcases f28 with z | z <;> omega, Or.inr ⟨rfl, by rw [z3]; exact hn⟩⟩, Or.inr rfl, by omega, by rcases f28 with z | z <;> omega⟩
        | false =>
          rw [show atomR n b 0 a = atomG n b none a from rfl, atomG_d (n := n) (b := b) (a := a) (by omega) (by omega) z1 hn]
          refine ⟨_, _, _, _, rfl, rfl, Or.inl ⟨rfl, rfl, z3, ?_, ?_⟩, Or.inr rfl, by omega, by rcases f28 with z | z <;> omega⟩
          · show _ = sz + ((1 : Nat) : Int); rcases f28 with z | z <;> omega
          · rcases f28 with z | z
            · rw [z.2.2, z2]
            · exfalso; omega
      · refine Rx.walk 1 (pc' := 102) (L' := [some (.ref 12), some (.ref 1), some (.int (iz dp)), some (.int (iz r_1)), some (.int (iz r_11)), some (.int (iz r_17))]) (st' := [.int (iz 0)]) (h' := cxW (u2 (u2 (u2 z 1 1 n) 1 2 a_18) 12 1 sz) (uf (uf f 2 b) 13 cd) C T rc tl) rfl ?_
        refine Rx.ret rfl ?_
        have ec : sg n b (sks n b a) = r_1 := by rw [← f3, ← f4]
        have el : r_11 = ltr (sg n b (sks n b a)) := by rw [ec]; exact f12
        have esk : sks n b a_2 = sks n b a := by rw [f3, sks_sks]
        rw [show atomR n b 0 a = atomG n b none a from rfl, atomG_z (n := n) (b := b) (a := a) (by omega) (by omega) (by rcases f19 with z | z; (exfalso; have := dg_props (n := n) (b := b) 4 (sks n b a_2) 0 (by rw [esk]; omega) (by omega); have z3 := z.2.1; omega); (rw [← esk]; exact z.1))]
        exact ⟨_, _, _, _, rfl, rfl, Or.inr ⟨rfl, by rcases f19 with z | z; (exfalso; have := dg_props (n := n) (b := b) 4 (sks n b a_2) 0 (by rw [esk]; omega) (by omega); have z3 := z.2.1; omega); (rw [z.2.2, esk]; rfl), by omega, Or.inl rfl⟩, Or.inl rfl, by omega, by omega⟩
    · have hlt : a_2 < n := by rcases Int.lt_or_le a_2 n with q | q; exact q; (exfalso; have e1 : r_1 = -1 := (by rw [f4]; exact sg_ge q); have e2 := f12; rw [e1] at e2; have e3 : ltr (-1) = -1 := rfl; omega)
      refine Rx.walk 4 (pc' := 73) (L' := [some (.ref 12), some (.ref 1), some (.int (iz dp)), some (.int (iz r_1)), some (.int (iz r_11)), none]) (st' := [.int (iz 1), .int (iz a_2), .ref 1]) (h' := cxW (u2 (u2 (u2 z 1 1 n) 1 2 a_2) 12 1 sz) (uf (uf f 2 b) 13 cd) C T rc tl) rfl ?_
      refine Rx.iadd rfl ?_
      refine Rx.walk 4 (pc' := 82) (L' := [some (.ref 12), some (.ref 1), some (.int (iz dp)), some (.int (iz r_1)), some (.int (iz r_11)), none]) (st' := [.int (iz r_11), .int (iz (-13)), .ref 12]) (h' := cxW (u2 (u2 (u2 z 1 1 n) 1 2 (a_2 + 1)) 12 1 sz) (uf (uf f 2 b) 13 cd) C T rc tl) rfl ?_
      refine Rx.isub rfl ?_
      refine Rx.callx (m' := m_X6_emit) (as := [.ref 12, .int (iz ((-13) - r_11))]) (rest := []) rfl (x_emit _ (u2 (u2 (u2 z 1 1 n) 1 2 (a_2 + 1)) 12 1 sz) (uf (uf f 2 b) 13 cd) C T rc tl  ((-13) - r_11) sz cd (by first | assumption | omega)) (fun v35 h36 q37 => ?_)
      obtain ⟨sz_32, cd_33, rfl, rfl, f34⟩ := q37
      refine Rx.walk 0 (pc' := 86) (L' := [some (.ref 12), some (.ref 1), some (.int (iz dp)), some (.int (iz r_1)), some (.int (iz r_11)), none]) (st' := []) (h' := cxW (u2 (u2 (u2 z 1 1 n) 1 2 (a_2 + 1)) 12 1 sz_32) (uf (uf f 2 b) 13 cd_33) C T rc tl) rfl ?_
      have heb : 0 ≤ sz_32 ∧ sz_32 ≤ 161 := by rcases f34 with z | z <;> omega
      refine Rx.walk 1 (pc' := 87) (L' := [some (.ref 12), some (.ref 1), some (.int (iz dp)), some (.int (iz r_1)), some (.int (iz r_11)), none]) (st' := [.int (iz 1)]) (h' := cxW (u2 (u2 (u2 z 1 1 n) 1 2 (a_2 + 1)) 12 1 sz_32) (uf (uf f 2 b) 13 cd_33) C T rc tl) rfl ?_
      refine Rx.ret rfl ?_
      have ec : sg n b (sks n b a) = r_1 := by rw [← f3, ← f4]
      have el : r_11 = ltr (sg n b (sks n b a)) := by rw [ec]; exact f12
      rw [show atomR n b 0 a = atomG n b none a from rfl, atomG_l (n := n) (b := b) (a := a) (by omega) (by omega)]
      refine ⟨_, _, _, _, rfl, rfl, Or.inl ⟨rfl, rfl, by rw [← f3], ?_, ?_⟩, Or.inr rfl, by omega, by omega⟩
      · show _ = sz + ((1 : Nat) : Int); rcases f34 with z | z <;> omega
      · rcases f34 with z | z
        · rw [z.2.2, el]
        · exfalso; omega
  · refine Rx.walk 2 (pc' := 14) (L' := [some (.ref 12), some (.ref 1), some (.int (iz dp)), some (.int (iz r_1)), none, none]) (st' := [.int (iz 6), .int (iz dp)]) (h' := cxW (u2 (u2 (u2 z 1 1 n) 1 2 a_2) 12 1 sz) (uf (uf f 2 b) 13 cd) C T rc tl) rfl ?_
    refine Rx.lt2 rfl rfl ⟨by omega, by omega⟩ ⟨by omega, by omega⟩ (fun b38 => by omega) (fun b38 => ?_)
    refine Rx.walk 1 (pc' := 18) (L' := [some (.ref 12), some (.ref 1), some (.int (iz dp)), some (.int (iz r_1)), none, none]) (st' := [.int (iz 0)]) (h' := cxW (u2 (u2 (u2 z 1 1 n) 1 2 a_2) 12 1 sz) (uf (uf f 2 b) 13 cd) C T rc tl) rfl ?_
    refine Rx.ret rfl ?_
    have ec : sg n b (sks n b a) = r_1 := by rw [← f3, ← f4]
    rw [show atomR n b 0 a = rsF (sks n b a) from atomG_n (by omega)]
    exact ⟨_, _, _, _, rfl, rfl, Or.inr ⟨rfl, f3, by omega, Or.inl rfl⟩, Or.inl rfl, by omega, by omega⟩
set_option maxRecDepth 100000 in
set_option maxHeartbeats 4000000 in
theorem x_rAtom1 (d : Nat) (z : Nat → Nat → Int) (f : Nat → Int → Int) (C : Nat → CuR) (T : Nat → TsR) (rc : Nat → Nat) (tl : AmH) (D rr : Nat) (hS : ∀ (d : Nat) (z : Nat → Nat → Int) (f : Nat → Int → Int) (C : Nat → CuR) (T : Nat → TsR) (rc : Nat → Nat) (tl : AmH)  (dp : Int) (n : Int) (a : Int) (b : Int → Int) (sz : Int) (cd : Int → Int) (hT : tOK n b) (ha : 0 ≤ a ∧ a ≤ n) (hs : 0 ≤ sz ∧ sz ≤ a) (hdp : 0 ≤ dp ∧ dp = 6 - (rr : Int)), Rx (d + (D + 2)) m_X6_readsSum 0 (am_ent [.ref 12, .ref 1, .int (iz dp)] 5) [] (cxW (u2 (u2 (u2 z 1 1 n) 1 2 a) 12 1 sz) (uf (uf f 2 b) 13 cd) C T rc tl) (fun rv h => ∃ r : Int, ∃ a' : Int, ∃ sz' : Int, ∃ cd' : Int → Int, rv = some (.int (iz r)) ∧ h = cxW (u2 (u2 (u2 z 1 1 n) 1 2 a') 12 1 sz') (uf (uf f 2 b) 13 cd') C T rc tl ∧ rdR n b (sumR n b rr a) sz cd r a' sz' cd' ∧ ((r = 0 ∨ r = 1) ∧ (a ≤ a' ∧ a' ≤ n) ∧ (0 ≤ sz' ∧ sz' ≤ 161)))) (dp : Int) (n : Int) (a : Int) (b : Int → Int) (sz : Int) (cd : Int → Int) (hT : tOK n b) (ha : 0 ≤ a ∧ a ≤ n) (hs : 0 ≤ sz ∧ sz ≤ a) (hdp : 0 ≤ dp ∧ dp = 5 - (rr : Int)) : Rx (d + (D + 3)) m_X6_readsAtom 0 (am_ent [.ref 12, .ref 1, .int (iz dp)] 6) [] (cxW (u2 (u2 (u2 z 1 1 n) 1 2 a) 12 1 sz) (uf (uf f 2 b) 13 cd) C T rc tl) (fun rv h => ∃ r : Int, ∃ a' : Int, ∃ sz' : Int, ∃ cd' : Int → Int, rv = some (.int (iz r)) ∧ h = cxW (u2 (u2 (u2 z 1 1 n) 1 2 a') 12 1 sz') (uf (uf f 2 b) 13 cd') C T rc tl ∧ rdR n b (atomR n b (rr + 1) a) sz cd r a' sz' cd' ∧ ((r = 0 ∨ r = 1) ∧ (a ≤ a' ∧ a' ≤ n) ∧ (0 ≤ sz' ∧ sz' ≤ 161))) := by
  obtain ⟨hT1, hT2, hT3⟩ := id hT
  have hrr : 0 ≤ (rr : Int) := by omega
  refine Rx.walk 0 (pc' := 0) (L' := [some (.ref 12), some (.ref 1), some (.int (iz dp)), none, none, none]) (st' := []) (h' := cxW (u2 (u2 (u2 z 1 1 n) 1 2 a) 12 1 sz) (uf (uf f 2 b) 13 cd) C T rc tl) rfl ?_
  refine Rx.walk 1 (pc' := 1) (L' := [some (.ref 12), some (.ref 1), some (.int (iz dp)), none, none, none]) (st' := [.ref 1]) (h' := cxW (u2 (u2 (u2 z 1 1 n) 1 2 a) 12 1 sz) (uf (uf f 2 b) 13 cd) C T rc tl) rfl ?_
  refine Rx.callx (m' := m_X8_sign) (as := [.ref 1]) (rest := []) rfl (x_sgn _ (u2 (u2 (u2 z 1 1 n) 1 2 a) 12 1 sz) (uf (uf f 2 b) 13 cd) C T rc tl  n a b hT ha) (fun v7 h8 q9 => ?_)
  obtain ⟨r_1, a_2, rfl, rfl, f3, f4, f5, f6⟩ := q9
  refine Rx.walk 0 (pc' := 4) (L' := [some (.ref 12), some (.ref 1), some (.int (iz dp)), none, none, none]) (st' := [.int (iz r_1)]) (h' := cxW (u2 (u2 (u2 z 1 1 n) 1 2 a_2) 12 1 sz) (uf (uf f 2 b) 13 cd) C T rc tl) rfl ?_
  refine Rx.walk 3 (pc' := 8) (L' := [some (.ref 12), some (.ref 1), some (.int (iz dp)), some (.int (iz r_1)), none, none]) (st' := [.int (iz 91), .int (iz r_1)]) (h' := cxW (u2 (u2 (u2 z 1 1 n) 1 2 a_2) 12 1 sz) (uf (uf f 2 b) 13 cd) C T rc tl) rfl ?_
  refine Rx.ne2 rfl rfl ⟨by omega, by omega⟩ ⟨by omega, by omega⟩ (fun b10 => ?_) (fun b10 => ?_)
  · refine Rx.walk 1 (pc' := 56) (L' := [some (.ref 12), some (.ref 1), some (.int (iz dp)), some (.int (iz r_1)), none, none]) (st' := [.int (iz r_1)]) (h' := cxW (u2 (u2 (u2 z 1 1 n) 1 2 a_2) 12 1 sz) (uf (uf f 2 b) 13 cd) C T rc tl) rfl ?_
    refine Rx.callx (m' := m_X6_letterOf) (as := [.int (iz r_1)]) (rest := []) rfl (n_letterOf _ (cxW (u2 (u2 (u2 z 1 1 n) 1 2 a_2) 12 1 sz) (uf (uf f 2 b) 13 cd) C T rc tl)  r_1 (by first | assumption | omega)) (fun v13 h14 q15 => ?_)
    obtain ⟨r_11, rfl, rfl, f12⟩ := q15
    refine Rx.walk 0 (pc' := 59) (L' := [some (.ref 12), some (.ref 1), some (.int (iz dp)), some (.int (iz r_1)), none, none]) (st' := [.int (iz r_11)]) (h' := cxW (u2 (u2 (u2 z 1 1 n) 1 2 a_2) 12 1 sz) (uf (uf f 2 b) 13 cd) C T rc tl) rfl ?_
    have hlb := ltr_b r_1
    rw [← f12] at hlb
    refine Rx.walk 3 (pc' := 64) (L' := [some (.ref 12), some (.ref 1), some (.int (iz dp)), some (.int (iz r_1)), some (.int (iz r_11)), none]) (st' := [.int (iz (-1)), .int (iz r_11)]) (h' := cxW (u2 (u2 (u2 z 1 1 n) 1 2 a_2) 12 1 sz) (uf (uf f 2 b) 13 cd) C T rc tl) rfl ?_
    refine Rx.eq2 rfl rfl ⟨by omega, by omega⟩ ⟨by omega, by omega⟩ (fun b16 => ?_) (fun b16 => ?_)
    · refine Rx.walk 2 (pc' := 90) (L' := [some (.ref 12), some (.ref 1), some (.int (iz dp)), some (.int (iz r_1)), some (.int (iz r_11)), none]) (st' := [.int (iz 4), .ref 1]) (h' := cxW (u2 (u2 (u2 z 1 1 n) 1 2 a_2) 12 1 sz) (uf (uf f 2 b) 13 cd) C T rc tl) rfl ?_
      refine Rx.callx (m' := m_X8_digits) (as := [.ref 1, .int (iz 4)]) (rest := []) rfl (x_dgt4 _ (u2 (u2 (u2 z 1 1 n) 1 2 a_2) 12 1 sz) (uf (uf f 2 b) 13 cd) C T rc tl  n a_2 b hT ⟨by omega, by omega⟩) (fun v22 h23 q24 => ?_)
      obtain ⟨r_17, a_18, rfl, rfl, f19, f20, f21⟩ := q24
      refine Rx.walk 0 (pc' := 93) (L' := [some (.ref 12), some (.ref 1), some (.int (iz dp)), some (.int (iz r_1)), some (.int (iz r_11)), none]) (st' := [.int (iz r_17)]) (h' := cxW (u2 (u2 (u2 z 1 1 n) 1 2 a_18) 12 1 sz) (uf (uf f 2 b) 13 cd) C T rc tl) rfl ?_
      refine Rx.walk 3 (pc' := 98) (L' := [some (.ref 12), some (.ref 1), some (.int (iz dp)), some (.int (iz r_1)), some (.int (iz r_11)), some (.int (iz r_17))]) (st' := [.int (iz (-1)), .int (iz r_17)]) (h' := cxW (u2 (u2 (u2 z 1 1 n) 1 2 a_18) 12 1 sz) (uf (uf f 2 b) 13 cd) C T rc tl) rfl ?_
      refine Rx.ne2 rfl rfl ⟨by omega, by omega⟩ ⟨by omega, by omega⟩ (fun b25 => ?_) (fun b25 => ?_)
      · refine Rx.walk 2 (pc' := 106) (L' := [some (.ref 12), some (.ref 1), some (.int (iz dp)), some (.int (iz r_1)), some (.int (iz r_11)), some (.int (iz r_17))]) (st' := [.int (iz r_17), .ref 12]) (h' := cxW (u2 (u2 (u2 z 1 1 n) 1 2 a_18) 12 1 sz) (uf (uf f 2 b) 13 cd) C T rc tl) rfl ?_
        refine Rx.callx (m' := m_X6_emit) (as := [.ref 12, .int (iz r_17)]) (rest := []) rfl (x_emit _ (u2 (u2 (u2 z 1 1 n) 1 2 a_18) 12 1 sz) (uf (uf f 2 b) 13 cd) C T rc tl  r_17 sz cd (by first | assumption | omega)) (fun v29 h30 q31 => ?_)
        obtain ⟨sz_26, cd_27, rfl, rfl, f28⟩ := q31
        refine Rx.walk 0 (pc' := 109) (L' := [some (.ref 12), some (.ref 1), some (.int (iz dp)), some (.int (iz r_1)), some (.int (iz r_11)), some (.int (iz r_17))]) (st' := []) (h' := cxW (u2 (u2 (u2 z 1 1 n) 1 2 a_18) 12 1 sz_26) (uf (uf f 2 b) 13 cd_27) C T rc tl) rfl ?_
        have heb : 0 ≤ sz_26 ∧ sz_26 ≤ 161 := by rcases f28 with z | z <;> omega
        refine Rx.walk 1 (pc' := 110) (L' := [some (.ref 12), some (.ref 1), some (.int (iz dp)), some (.int (iz r_1)), some (.int (iz r_11)), some (.int (iz r_17))]) (st' := [.int (iz 1)]) (h' := cxW (u2 (u2 (u2 z 1 1 n) 1 2 a_18) 12 1 sz_26) (uf (uf f 2 b) 13 cd_27) C T rc tl) rfl ?_
        refine Rx.ret rfl ?_
        have ec : sg n b (sks n b a) = r_1 := by rw [← f3, ← f4]
        have el : r_11 = ltr (sg n b (sks n b a)) := by rw [ec]; exact f12
        have esk : sks n b a_2 = sks n b a := by rw [f3, sks_sks]
        obtain ⟨z1, z2, z3⟩ : isD n b (sks n b a) = true ∧ r_17 = (dg n b 4 (sks n b a) 0).2 ∧ a_18 = (dg n b 4 (sks n b a) 0).1 := by rcases f19 with z | z; (rw [esk] at z; exact z); (exfalso; omega)
        cases hn : isD n b (dg n b 4 (sks n b a) 0).1 with
        | true =>
          rw [show atomR n b (rr + 1) a = atomG n b (some (sumR n b rr)) a from rfl, atomG_e (n := n) (b := b) (a := a) (by omega) (by omega) z1 hn]
          exact ⟨_, _, _, _, rfl, rfl, Or.inr ⟨rfl, z3, by rcases f28 with z | z <;> omega, Or.inr ⟨rfl, by rw [z3]; exact hn⟩⟩, Or.inr rfl, by omega, by rcases f28 with z | z <;> omega⟩
        | false =>
          rw [show atomR n b (rr + 1) a = atomG n b (some (sumR n b rr)) a from rfl, atomG_d (n := n) (b := b) (a := a) (by omega) (by omega) z1 hn]
          refine ⟨_, _, _, _, rfl, rfl, Or.inl ⟨rfl, rfl, z3, ?_, ?_⟩, Or.inr rfl, by omega, by rcases f28 with z | z <;> omega⟩
          · show _ = sz + ((1 : Nat) : Int); rcases f28 with z | z <;> omega
          · rcases f28 with z | z
            · rw [z.2.2, z2]
            · exfalso; omega
      · refine Rx.walk 1 (pc' := 102) (L' := [some (.ref 12), some (.ref 1), some (.int (iz dp)), some (.int (iz r_1)), some (.int (iz r_11)), some (.int (iz r_17))]) (st' := [.int (iz 0)]) (h' := cxW (u2 (u2 (u2 z 1 1 n) 1 2 a_18) 12 1 sz) (uf (uf f 2 b) 13 cd) C T rc tl) rfl ?_
        refine Rx.ret rfl ?_
        have ec : sg n b (sks n b a) = r_1 := by rw [← f3, ← f4]
        have el : r_11 = ltr (sg n b (sks n b a)) := by rw [ec]; exact f12
        have esk : sks n b a_2 = sks n b a := by rw [f3, sks_sks]
        rw [show atomR n b (rr + 1) a = atomG n b (some (sumR n b rr)) a from rfl, atomG_z (n := n) (b := b) (a := a) (by omega) (by omega) (by rcases f19 with z | z; (exfalso; have := dg_props (n := n) (b := b) 4 (sks n b a_2) 0 (by rw [esk]; omega) (by omega); have z3 := z.2.1; omega); (rw [← esk]; exact z.1))]
        exact ⟨_, _, _, _, rfl, rfl, Or.inr ⟨rfl, by rcases f19 with z | z; (exfalso; have := dg_props (n := n) (b := b) 4 (sks n b a_2) 0 (by rw [esk]; omega) (by omega); have z3 := z.2.1; omega); (rw [z.2.2, esk]; rfl), by omega, Or.inl rfl⟩, Or.inl rfl, by omega, by omega⟩
    · have hlt : a_2 < n := by rcases Int.lt_or_le a_2 n with q | q; exact q; (exfalso; have e1 : r_1 = -1 := (by rw [f4]; exact sg_ge q); have e2 := f12; rw [e1] at e2; have e3 : ltr (-1) = -1 := rfl; omega)
      refine Rx.walk 4 (pc' := 73) (L' := [some (.ref 12), some (.ref 1), some (.int (iz dp)), some (.int (iz r_1)), some (.int (iz r_11)), none]) (st' := [.int (iz 1), .int (iz a_2), .ref 1]) (h' := cxW (u2 (u2 (u2 z 1 1 n) 1 2 a_2) 12 1 sz) (uf (uf f 2 b) 13 cd) C T rc tl) rfl ?_
      refine Rx.iadd rfl ?_
      refine Rx.walk 4 (pc' := 82) (L' := [some (.ref 12), some (.ref 1), some (.int (iz dp)), some (.int (iz r_1)), some (.int (iz r_11)), none]) (st' := [.int (iz r_11), .int (iz (-13)), .ref 12]) (h' := cxW (u2 (u2 (u2 z 1 1 n) 1 2 (a_2 + 1)) 12 1 sz) (uf (uf f 2 b) 13 cd) C T rc tl) rfl ?_
      refine Rx.isub rfl ?_
      refine Rx.callx (m' := m_X6_emit) (as := [.ref 12, .int (iz ((-13) - r_11))]) (rest := []) rfl (x_emit _ (u2 (u2 (u2 z 1 1 n) 1 2 (a_2 + 1)) 12 1 sz) (uf (uf f 2 b) 13 cd) C T rc tl  ((-13) - r_11) sz cd (by first | assumption | omega)) (fun v35 h36 q37 => ?_)
      obtain ⟨sz_32, cd_33, rfl, rfl, f34⟩ := q37
      refine Rx.walk 0 (pc' := 86) (L' := [some (.ref 12), some (.ref 1), some (.int (iz dp)), some (.int (iz r_1)), some (.int (iz r_11)), none]) (st' := []) (h' := cxW (u2 (u2 (u2 z 1 1 n) 1 2 (a_2 + 1)) 12 1 sz_32) (uf (uf f 2 b) 13 cd_33) C T rc tl) rfl ?_
      have heb : 0 ≤ sz_32 ∧ sz_32 ≤ 161 := by rcases f34 with z | z <;> omega
      refine Rx.walk 1 (pc' := 87) (L' := [some (.ref 12), some (.ref 1), some (.int (iz dp)), some (.int (iz r_1)), some (.int (iz r_11)), none]) (st' := [.int (iz 1)]) (h' := cxW (u2 (u2 (u2 z 1 1 n) 1 2 (a_2 + 1)) 12 1 sz_32) (uf (uf f 2 b) 13 cd_33) C T rc tl) rfl ?_
      refine Rx.ret rfl ?_
      have ec : sg n b (sks n b a) = r_1 := by rw [← f3, ← f4]
      have el : r_11 = ltr (sg n b (sks n b a)) := by rw [ec]; exact f12
      rw [show atomR n b (rr + 1) a = atomG n b (some (sumR n b rr)) a from rfl, atomG_l (n := n) (b := b) (a := a) (by omega) (by omega)]
      refine ⟨_, _, _, _, rfl, rfl, Or.inl ⟨rfl, rfl, by rw [← f3], ?_, ?_⟩, Or.inr rfl, by omega, by omega⟩
      · show _ = sz + ((1 : Nat) : Int); rcases f34 with z | z <;> omega
      · rcases f34 with z | z
        · rw [z.2.2, el]
        · exfalso; omega
  · refine Rx.walk 2 (pc' := 14) (L' := [some (.ref 12), some (.ref 1), some (.int (iz dp)), some (.int (iz r_1)), none, none]) (st' := [.int (iz 6), .int (iz dp)]) (h' := cxW (u2 (u2 (u2 z 1 1 n) 1 2 a_2) 12 1 sz) (uf (uf f 2 b) 13 cd) C T rc tl) rfl ?_
    refine Rx.lt2 rfl rfl ⟨by omega, by omega⟩ ⟨by omega, by omega⟩ (fun b38 => ?_) (fun b38 => by omega)
    have hlt : a_2 < n := by rcases Int.lt_or_le a_2 n with q | q; exact q; (exfalso; rw [sg_ge q] at f4; omega)
    refine Rx.walk 4 (pc' := 25) (L' := [some (.ref 12), some (.ref 1), some (.int (iz dp)), some (.int (iz r_1)), none, none]) (st' := [.int (iz 1), .int (iz a_2), .ref 1]) (h' := cxW (u2 (u2 (u2 z 1 1 n) 1 2 a_2) 12 1 sz) (uf (uf f 2 b) 13 cd) C T rc tl) rfl ?_
    refine Rx.iadd rfl ?_
    refine Rx.walk 5 (pc' := 33) (L' := [some (.ref 12), some (.ref 1), some (.int (iz dp)), some (.int (iz r_1)), none, none]) (st' := [.int (iz 1), .int (iz dp), .ref 1, .ref 12]) (h' := cxW (u2 (u2 (u2 z 1 1 n) 1 2 (a_2 + 1)) 12 1 sz) (uf (uf f 2 b) 13 cd) C T rc tl) rfl ?_
    refine Rx.iadd rfl ?_
    refine Rx.callx (m' := m_X6_readsSum) (as := [.ref 12, .ref 1, .int (iz (dp + 1))]) (rest := []) rfl (hS _ (u2 (u2 (u2 z 1 1 n) 1 2 (a_2 + 1)) 12 1 sz) (uf (uf f 2 b) 13 cd) C T rc tl  (dp + 1) n (a_2 + 1) b sz cd hT ⟨by omega, by omega⟩ ⟨by omega, by omega⟩ (by first | assumption | omega)) (fun v45 h46 q47 => ?_)
    obtain ⟨r_39, a_40, sz_41, cd_42, rfl, rfl, f43, f44⟩ := q47
    refine Rx.walk 0 (pc' := 37) (L' := [some (.ref 12), some (.ref 1), some (.int (iz dp)), some (.int (iz r_1)), none, none]) (st' := [.int (iz r_39)]) (h' := cxW (u2 (u2 (u2 z 1 1 n) 1 2 a_40) 12 1 sz_41) (uf (uf f 2 b) 13 cd_42) C T rc tl) rfl ?_
    obtain ⟨hq1, hq2, hq3⟩ := id f44
    refine Rx.eq1 rfl rfl ⟨by omega, by omega⟩ (fun b48 => ?_) (fun b48 => ?_)
    · refine Rx.walk 1 (pc' := 54) (L' := [some (.ref 12), some (.ref 1), some (.int (iz dp)), some (.int (iz r_1)), none, none]) (st' := [.int (iz 0)]) (h' := cxW (u2 (u2 (u2 z 1 1 n) 1 2 a_40) 12 1 sz_41) (uf (uf f 2 b) 13 cd_42) C T rc tl) rfl ?_
      refine Rx.ret rfl ?_
      have ec : sg n b (sks n b a) = r_1 := by rw [← f3, ← f4]
      have hq : rdR n b (sumR n b rr (sks n b a + 1)) sz cd r_39 a_40 sz_41 cd_42 := by have z := f43; rw [f3] at z; exact z
      rcases hq with ⟨q1, q2, -⟩ | ⟨q1, q2, q3, q4⟩
      · exfalso; omega
      · rw [show atomR n b (rr + 1) a = rsF (sumR n b rr (sks n b a + 1)).2.1 from atomG_f (by omega) q1]
        exact ⟨_, _, _, _, rfl, rfl, Or.inr ⟨rfl, q2, q3, Or.inl rfl⟩, Or.inl rfl, by omega, by omega⟩
    · refine Rx.walk 2 (pc' := 43) (L' := [some (.ref 12), some (.ref 1), some (.int (iz dp)), some (.int (iz r_1)), none, none]) (st' := [.int (iz 93), .ref 1]) (h' := cxW (u2 (u2 (u2 z 1 1 n) 1 2 a_40) 12 1 sz_41) (uf (uf f 2 b) 13 cd_42) C T rc tl) rfl ?_
      refine Rx.callx (m' := m_X8_accepts) (as := [.ref 1, .int (iz 93)]) (rest := []) rfl (x_acc _ (u2 (u2 (u2 z 1 1 n) 1 2 a_40) 12 1 sz_41) (uf (uf f 2 b) 13 cd_42) C T rc tl  93 n a_40 b hT ⟨by omega, by omega⟩ (by first | assumption | omega)) (fun v53 h54 q55 => ?_)
      obtain ⟨r_49, a_50, rfl, rfl, f51, f52⟩ := q55
      refine Rx.walk 0 (pc' := 46) (L' := [some (.ref 12), some (.ref 1), some (.int (iz dp)), some (.int (iz r_1)), none, none]) (st' := [.int (iz r_49)]) (h' := cxW (u2 (u2 (u2 z 1 1 n) 1 2 a_50) 12 1 sz_41) (uf (uf f 2 b) 13 cd_42) C T rc tl) rfl ?_
      refine Rx.eq1 rfl rfl ⟨by omega, by omega⟩ (fun b56 => ?_) (fun b56 => ?_)
      · refine Rx.walk 1 (pc' := 54) (L' := [some (.ref 12), some (.ref 1), some (.int (iz dp)), some (.int (iz r_1)), none, none]) (st' := [.int (iz 0)]) (h' := cxW (u2 (u2 (u2 z 1 1 n) 1 2 a_50) 12 1 sz_41) (uf (uf f 2 b) 13 cd_42) C T rc tl) rfl ?_
        refine Rx.ret rfl ?_
        have ec : sg n b (sks n b a) = r_1 := by rw [← f3, ← f4]
        have hq : rdR n b (sumR n b rr (sks n b a + 1)) sz cd r_39 a_40 sz_41 cd_42 := by have z := f43; rw [f3] at z; exact z
        rcases hq with ⟨q1, q2, q3, q4, q5⟩ | ⟨q1, q2, q3, q4⟩
        · rw [show atomR n b (rr + 1) a = atomG n b (some (sumR n b rr)) a from rfl, atomG_c (n := n) (b := b) (a := a) (by omega) q1 (by rw [← q3]; rcases f51 with z | z; (exfalso; omega); exact z.2.1)]
          exact ⟨_, _, _, _, rfl, rfl, Or.inr ⟨rfl, by rcases f51 with z | z; (exfalso; omega); (rw [z.2.2, q3]; rfl), by omega, Or.inl rfl⟩, Or.inl rfl, by omega, by omega⟩
        · have hdg := q4.elim (fun z => absurd z (by omega)) (fun z => z.2)
          have hsk : sks n b a_40 = a_40 := sks_at (by have := (isD_t.mp hdg); omega)
          rw [show atomR n b (rr + 1) a = rsF (sumR n b rr (sks n b a + 1)).2.1 from atomG_f (by omega) q1]
          exact ⟨_, _, _, _, rfl, rfl, Or.inr ⟨rfl, by rcases f51 with z | z; (exfalso; omega); (rw [z.2.2, hsk]; exact q2), by omega, Or.inl rfl⟩, Or.inl rfl, by omega, by omega⟩
      · refine Rx.walk 2 (pc' := 54) (L' := [some (.ref 12), some (.ref 1), some (.int (iz dp)), some (.int (iz r_1)), none, none]) (st' := [.int (iz 1)]) (h' := cxW (u2 (u2 (u2 z 1 1 n) 1 2 a_50) 12 1 sz_41) (uf (uf f 2 b) 13 cd_42) C T rc tl) rfl ?_
        refine Rx.ret rfl ?_
        have ec : sg n b (sks n b a) = r_1 := by rw [← f3, ← f4]
        have hq : rdR n b (sumR n b rr (sks n b a + 1)) sz cd r_39 a_40 sz_41 cd_42 := by have z := f43; rw [f3] at z; exact z
        rcases hq with ⟨q1, q2, q3, q4, q5⟩ | ⟨q1, q2, q3, q4⟩
        · rw [show atomR n b (rr + 1) a = atomG n b (some (sumR n b rr)) a from rfl, atomG_o (n := n) (b := b) (a := a) (by omega) q1 (by rw [← q3]; rcases f51 with z | z; exact z.2.1; (exfalso; omega))]
          exact ⟨_, _, _, _, rfl, rfl, Or.inl ⟨rfl, rfl, by rcases f51 with z | z; (rw [z.2.2, q3]); (exfalso; omega), q4, q5⟩, Or.inr rfl, by omega, by omega⟩
        · exfalso
          have hdg := q4.elim (fun z => absurd z (by omega)) (fun z => z.2)
          have hdx := isD_sg.mp hdg
          have hsk : sks n b a_40 = a_40 := sks_at (by have := (isD_t.mp hdg); omega)
          rcases f51 with z | z
          · rw [hsk] at z; omega
          · omega
set_option maxRecDepth 100000 in
set_option maxHeartbeats 4000000 in
theorem x_rTerm_l (d : Nat) (z : Nat → Nat → Int) (f : Nat → Int → Int) (C : Nat → CuR) (T : Nat → TsR) (rc : Nat → Nat) (tl : AmH) (D rr : Nat) (hA : ∀ (d : Nat) (z : Nat → Nat → Int) (f : Nat → Int → Int) (C : Nat → CuR) (T : Nat → TsR) (rc : Nat → Nat) (tl : AmH)  (dp : Int) (n : Int) (a : Int) (b : Int → Int) (sz : Int) (cd : Int → Int) (hT : tOK n b) (ha : 0 ≤ a ∧ a ≤ n) (hs : 0 ≤ sz ∧ sz ≤ a) (hdp : 0 ≤ dp ∧ dp = 6 - (rr : Int)), Rx (d + (D + 2)) m_X6_readsAtom 0 (am_ent [.ref 12, .ref 1, .int (iz dp)] 6) [] (cxW (u2 (u2 (u2 z 1 1 n) 1 2 a) 12 1 sz) (uf (uf f 2 b) 13 cd) C T rc tl) (fun rv h => ∃ r : Int, ∃ a' : Int, ∃ sz' : Int, ∃ cd' : Int → Int, rv = some (.int (iz r)) ∧ h = cxW (u2 (u2 (u2 z 1 1 n) 1 2 a') 12 1 sz') (uf (uf f 2 b) 13 cd') C T rc tl ∧ rdR n b (atomR n b rr a) sz cd r a' sz' cd' ∧ ((r = 0 ∨ r = 1) ∧ (a ≤ a' ∧ a' ≤ n) ∧ (0 ≤ sz' ∧ sz' ≤ 161)))) (dp : Int) (n : Int) (b : Int → Int) (sz0 : Int) (cd0 : Int → Int) (a0 : Int) (Rt : RsT) (hT : tOK n b) (hdp : 0 ≤ dp ∧ dp = 6 - (rr : Int)) (hz0 : 0 ≤ sz0 ∧ sz0 ≤ a0) (hA0 : rdOK n (atomR n b rr)) (P : Option Value → AmH → Prop) (hx0 : ∀ (r : Int) (a' : Int) (sz' : Int) (cd' : Int → Int), (rdR n b Rt sz0 cd0 r a' sz' cd') → ((r = 0 ∨ r = 1) ∧ (a0 ≤ a' ∧ a' ≤ n) ∧ (0 ≤ sz' ∧ sz' ≤ 161)) → P (some (.int (iz r))) (cxW (u2 (u2 (u2 z 1 1 n) 1 2 a') 12 1 sz') (uf (uf f 2 b) 13 cd') C T rc tl)) : ∀ (kF : Nat) (i : Int) (a : Int) (sz : Int) (cd : Int → Int) (acc : RsT) (w4 : Option Value), (0 ≤ a ∧ a ≤ n) → (a0 ≤ a) → (0 ≤ i ∧ i ≤ 160 ∧ i ≤ a) → (0 ≤ sz ∧ sz ≤ 161) → (rdR n b acc sz0 cd0 1 a sz cd) → (acc.1 = true → sz ≤ a) → (Rt = opL n b 42 47 (-3) (-4) (atomR n b rr) (161 - i).toNat acc) → (160 - i) < (kF : Int) → Rx (d + (D + 3)) m_X6_readsTerm 13 [some (.ref 12), some (.ref 1), some (.int (iz dp)), some (.int (iz i)), w4] [] (cxW (u2 (u2 (u2 z 1 1 n) 1 2 a) 12 1 sz) (uf (uf f 2 b) 13 cd) C T rc tl) P := by
  obtain ⟨hT1, hT2, hT3⟩ := id hT
  have hrr : 0 ≤ (rr : Int) := by omega
  intro kF
  induction kF with
  | zero =>
    intro i a sz cd acc w4 ha ha0 hi hs hR hsa hE hk
    exfalso; omega
  | succ kF ih =>
    intro i a sz cd acc w4 ha ha0 hi hs hR hsa hE hk
    refine Rx.walk 2 (pc' := 17) (L' := [some (.ref 12), some (.ref 1), some (.int (iz dp)), some (.int (iz i)), w4]) (st' := [.int (iz 160), .int (iz i)]) (h' := cxW (u2 (u2 (u2 z 1 1 n) 1 2 a) 12 1 sz) (uf (uf f 2 b) 13 cd) C T rc tl) rfl ?_
    refine Rx.ge2 rfl rfl ⟨by omega, by omega⟩ ⟨by omega, by omega⟩ (fun b1 => ?_) (fun b1 => ?_)
    · refine Rx.walk 1 (pc' := 88) (L' := [some (.ref 12), some (.ref 1), some (.int (iz dp)), some (.int (iz i)), w4]) (st' := [.int (iz 1)]) (h' := cxW (u2 (u2 (u2 z 1 1 n) 1 2 a) 12 1 sz) (uf (uf f 2 b) 13 cd) C T rc tl) rfl ?_
      refine Rx.ret rfl ?_
      exact hx0 _ _ _ _ (by rcases hR with ⟨z1, z2, z3, z4, z5⟩ | ⟨z1, z2, z3, z4⟩; (have en : sks n b acc.2.1 = acc.2.1 := (sks_at (by omega)); rw [hE, show (161 - i).toNat = 0 + 1 by omega, opL_e z1 (by rw [en, sg_ge (by omega)]; decide) (by rw [en, sg_ge (by omega)]; decide)]; exact Or.inl ⟨rfl, rfl, by rw [en]; exact z3, z4, z5⟩); (exfalso; have hdg := isD_t.mp (z4.elim (fun z => absurd z (by decide)) (fun z => z.2)); have := hT.2.1; omega)) ⟨Or.inr rfl, by omega, by omega⟩
    · refine Rx.walk 1 (pc' := 21) (L' := [some (.ref 12), some (.ref 1), some (.int (iz dp)), some (.int (iz i)), w4]) (st' := [.ref 1]) (h' := cxW (u2 (u2 (u2 z 1 1 n) 1 2 a) 12 1 sz) (uf (uf f 2 b) 13 cd) C T rc tl) rfl ?_
      refine Rx.callx (m' := m_X8_sign) (as := [.ref 1]) (rest := []) rfl (x_sgn _ (u2 (u2 (u2 z 1 1 n) 1 2 a) 12 1 sz) (uf (uf f 2 b) 13 cd) C T rc tl  n a b hT ha) (fun v8 h9 q10 => ?_)
      obtain ⟨r_2, a_3, rfl, rfl, f4, f5, f6, f7⟩ := q10
      refine Rx.walk 0 (pc' := 24) (L' := [some (.ref 12), some (.ref 1), some (.int (iz dp)), some (.int (iz i)), w4]) (st' := [.int (iz r_2)]) (h' := cxW (u2 (u2 (u2 z 1 1 n) 1 2 a_3) 12 1 sz) (uf (uf f 2 b) 13 cd) C T rc tl) rfl ?_
      refine Rx.walk 3 (pc' := 30) (L' := [some (.ref 12), some (.ref 1), some (.int (iz dp)), some (.int (iz i)), some (.int (iz r_2))]) (st' := [.int (iz 42), .int (iz r_2)]) (h' := cxW (u2 (u2 (u2 z 1 1 n) 1 2 a_3) 12 1 sz) (uf (uf f 2 b) 13 cd) C T rc tl) rfl ?_
      refine Rx.eq2 rfl rfl ⟨by omega, by omega⟩ ⟨by omega, by omega⟩ (fun b11 => ?_) (fun b11 => ?_)
      · have hok : acc.1 = true ∧ a = acc.2.1 ∧ sz = sz0 + acc.2.2.1.length ∧ lsI sz.toNat cd = lsI sz0.toNat cd0 ++ acc.2.2.1 := by
          rcases hR with ⟨z1, z2, z3, z4, z5⟩ | ⟨z1, z2, z3, z4⟩
          · exact ⟨z1, z3, z4, z5⟩
          · exfalso
            have hdg := z4.elim (fun z => absurd z (by decide)) (fun z => z.2)
            have hdx := isD_sg.mp hdg
            have hsk : sks n b a = a := sks_at (by have := (isD_t.mp hdg); omega)
            rw [hsk] at f4
            rw [f4] at f5
            omega
        obtain ⟨hok1, hok2, hok3, hok4⟩ := hok
        have hlt : a_3 < n := by rcases Int.lt_or_le a_3 n with q | q; exact q; (exfalso; rw [sg_ge q] at f5; omega)
        have hsz := hsa hok1
        have hqo := hA0 (a_3 + 1) (by omega) (by omega)
        have ec : sg n b (sks n b acc.2.1) = r_2 := by rw [← hok2, ← f4]; exact f5.symm
        have eA : (atomR n b rr) (sks n b acc.2.1 + 1) = (atomR n b rr) (a_3 + 1) := by rw [← hok2, ← f4]
        have hE2 : Rt = opL n b 42 47 (-3) (-4) (atomR n b rr) (160 - i).toNat (opN acc ((atomR n b rr) (a_3 + 1)) (if sg n b (sks n b acc.2.1) = 42 then (-3) else (-4))) := by rw [hE, show (161 - i).toNat = (160 - i).toNat + 1 by omega, opL_n hok1 (by omega), eA]
        refine Rx.walk 4 (pc' := 48) (L' := [some (.ref 12), some (.ref 1), some (.int (iz dp)), some (.int (iz i)), some (.int (iz r_2))]) (st' := [.int (iz 1), .int (iz a_3), .ref 1]) (h' := cxW (u2 (u2 (u2 z 1 1 n) 1 2 a_3) 12 1 sz) (uf (uf f 2 b) 13 cd) C T rc tl) rfl ?_
        refine Rx.iadd rfl ?_
        refine Rx.walk 4 (pc' := 55) (L' := [some (.ref 12), some (.ref 1), some (.int (iz dp)), some (.int (iz i)), some (.int (iz r_2))]) (st' := [.int (iz dp), .ref 1, .ref 12]) (h' := cxW (u2 (u2 (u2 z 1 1 n) 1 2 (a_3 + 1)) 12 1 sz) (uf (uf f 2 b) 13 cd) C T rc tl) rfl ?_
        refine Rx.callx (m' := m_X6_readsAtom) (as := [.ref 12, .ref 1, .int (iz dp)]) (rest := []) rfl (hA _ (u2 (u2 (u2 z 1 1 n) 1 2 (a_3 + 1)) 12 1 sz) (uf (uf f 2 b) 13 cd) C T rc tl  dp n (a_3 + 1) b sz cd hT ⟨by omega, by omega⟩ ⟨by omega, by omega⟩ hdp) (fun v18 h19 q20 => ?_)
        obtain ⟨r_12, a_13, sz_14, cd_15, rfl, rfl, f16, f17⟩ := q20
        refine Rx.walk 0 (pc' := 58) (L' := [some (.ref 12), some (.ref 1), some (.int (iz dp)), some (.int (iz i)), some (.int (iz r_2))]) (st' := [.int (iz r_12)]) (h' := cxW (u2 (u2 (u2 z 1 1 n) 1 2 a_13) 12 1 sz_14) (uf (uf f 2 b) 13 cd_15) C T rc tl) rfl ?_
        obtain ⟨hq1, hq2, hq3⟩ := id f17
        refine Rx.ne1 rfl rfl ⟨by omega, by omega⟩ (fun b21 => ?_) (fun b21 => ?_)
        · refine Rx.walk 3 (pc' := 68) (L' := [some (.ref 12), some (.ref 1), some (.int (iz dp)), some (.int (iz i)), some (.int (iz r_2))]) (st' := [.int (iz 42), .int (iz r_2), .ref 12]) (h' := cxW (u2 (u2 (u2 z 1 1 n) 1 2 a_13) 12 1 sz_14) (uf (uf f 2 b) 13 cd_15) C T rc tl) rfl ?_
          refine Rx.ne2 rfl rfl ⟨by omega, by omega⟩ ⟨by omega, by omega⟩ (fun b22 => ?_) (fun b22 => ?_)
          · refine Rx.walk 1 (pc' := 78) (L' := [some (.ref 12), some (.ref 1), some (.int (iz dp)), some (.int (iz i)), some (.int (iz r_2))]) (st' := [.int (iz (-4)), .ref 12]) (h' := cxW (u2 (u2 (u2 z 1 1 n) 1 2 a_13) 12 1 sz_14) (uf (uf f 2 b) 13 cd_15) C T rc tl) rfl ?_
            refine Rx.callx (m' := m_X6_emit) (as := [.ref 12, .int (iz (-4))]) (rest := []) rfl (x_emit _ (u2 (u2 (u2 z 1 1 n) 1 2 a_13) 12 1 sz_14) (uf (uf f 2 b) 13 cd_15) C T rc tl  (-4) sz_14 cd_15 (by first | assumption | omega)) (fun v26 h27 q28 => ?_)
            obtain ⟨sz_23, cd_24, rfl, rfl, f25⟩ := q28
            refine Rx.walk 0 (pc' := 81) (L' := [some (.ref 12), some (.ref 1), some (.int (iz dp)), some (.int (iz i)), some (.int (iz r_2))]) (st' := []) (h' := cxW (u2 (u2 (u2 z 1 1 n) 1 2 a_13) 12 1 sz_23) (uf (uf f 2 b) 13 cd_24) C T rc tl) rfl ?_
            have heb : 0 ≤ sz_23 ∧ sz_23 ≤ 161 := by rcases f25 with z | z <;> omega
            refine Rx.iinc (b := 1) rfl rfl rfl ?_
            refine Rx.walk 0 (pc' := 84) (L' := [some (.ref 12), some (.ref 1), some (.int (iz dp)), some (.int (iz (i + 1))), some (.int (iz r_2))]) (st' := []) (h' := cxW (u2 (u2 (u2 z 1 1 n) 1 2 a_13) 12 1 sz_23) (uf (uf f 2 b) 13 cd_24) C T rc tl) rfl ?_
            refine Rx.walk 1 (pc' := 13) (L' := [some (.ref 12), some (.ref 1), some (.int (iz dp)), some (.int (iz (i + 1))), some (.int (iz r_2))]) (st' := []) (h' := cxW (u2 (u2 (u2 z 1 1 n) 1 2 a_13) 12 1 sz_23) (uf (uf f 2 b) 13 cd_24) C T rc tl) rfl ?_
            exact ih (i + 1) a_13 sz_23 cd_24 (opN acc ((atomR n b rr) (a_3 + 1)) (-4)) (some (.int (iz r_2))) ⟨by omega, by omega⟩ (by first | assumption | omega) ⟨by omega, by omega, by omega⟩ ⟨by omega, by omega⟩ (rdR_op (op := -4) hz0.1 hok3 hok4 (by have z := f16; rw [show r_12 = 1 by omega] at z; exact z) f25 (fun z => by rcases f16 with y | y; (have := hqo.2.2 z; have := y.2.2.2.1; omega); exact absurd (z.symm.trans y.1) (by decide))) (fun z => by have hq : ((atomR n b rr) (a_3 + 1)).1 = true := (by unfold opN at z; split at z; assumption; exact absurd z (by simp [rsF])); have := hqo.2.2 hq; rcases f16 with y | y; (have := y.2.2.2.1; have := y.2.2.1; rcases f25 with x | x <;> omega); exact absurd (hq.symm.trans y.1) (by decide)) (by rw [hE2, if_neg (by omega), show (161 - (i + 1)).toNat = (160 - i).toNat by omega]) (by first | assumption | omega) 
          · refine Rx.walk 2 (pc' := 78) (L' := [some (.ref 12), some (.ref 1), some (.int (iz dp)), some (.int (iz i)), some (.int (iz r_2))]) (st' := [.int (iz (-3)), .ref 12]) (h' := cxW (u2 (u2 (u2 z 1 1 n) 1 2 a_13) 12 1 sz_14) (uf (uf f 2 b) 13 cd_15) C T rc tl) rfl ?_
            refine Rx.callx (m' := m_X6_emit) (as := [.ref 12, .int (iz (-3))]) (rest := []) rfl (x_emit _ (u2 (u2 (u2 z 1 1 n) 1 2 a_13) 12 1 sz_14) (uf (uf f 2 b) 13 cd_15) C T rc tl  (-3) sz_14 cd_15 (by first | assumption | omega)) (fun v32 h33 q34 => ?_)
            obtain ⟨sz_29, cd_30, rfl, rfl, f31⟩ := q34
            refine Rx.walk 0 (pc' := 81) (L' := [some (.ref 12), some (.ref 1), some (.int (iz dp)), some (.int (iz i)), some (.int (iz r_2))]) (st' := []) (h' := cxW (u2 (u2 (u2 z 1 1 n) 1 2 a_13) 12 1 sz_29) (uf (uf f 2 b) 13 cd_30) C T rc tl) rfl ?_
            have heb : 0 ≤ sz_29 ∧ sz_29 ≤ 161 := by rcases f31 with z | z <;> omega
            refine Rx.iinc (b := 1) rfl rfl rfl ?_
            refine Rx.walk 0 (pc' := 84) (L' := [some (.ref 12), some (.ref 1), some (.int (iz dp)), some (.int (iz (i + 1))), some (.int (iz r_2))]) (st' := []) (h' := cxW (u2 (u2 (u2 z 1 1 n) 1 2 a_13) 12 1 sz_29) (uf (uf f 2 b) 13 cd_30) C T rc tl) rfl ?_
            refine Rx.walk 1 (pc' := 13) (L' := [some (.ref 12), some (.ref 1), some (.int (iz dp)), some (.int (iz (i + 1))), some (.int (iz r_2))]) (st' := []) (h' := cxW (u2 (u2 (u2 z 1 1 n) 1 2 a_13) 12 1 sz_29) (uf (uf f 2 b) 13 cd_30) C T rc tl) rfl ?_
            exact ih (i + 1) a_13 sz_29 cd_30 (opN acc ((atomR n b rr) (a_3 + 1)) (-3)) (some (.int (iz r_2))) ⟨by omega, by omega⟩ (by first | assumption | omega) ⟨by omega, by omega, by omega⟩ ⟨by omega, by omega⟩ (rdR_op (op := -3) hz0.1 hok3 hok4 (by have z := f16; rw [show r_12 = 1 by omega] at z; exact z) f31 (fun z => by rcases f16 with y | y; (have := hqo.2.2 z; have := y.2.2.2.1; omega); exact absurd (z.symm.trans y.1) (by decide))) (fun z => by have hq : ((atomR n b rr) (a_3 + 1)).1 = true := (by unfold opN at z; split at z; assumption; exact absurd z (by simp [rsF])); have := hqo.2.2 hq; rcases f16 with y | y; (have := y.2.2.2.1; have := y.2.2.1; rcases f31 with x | x <;> omega); exact absurd (hq.symm.trans y.1) (by decide)) (by rw [hE2, if_pos (by omega), show (161 - (i + 1)).toNat = (160 - i).toNat by omega]) (by first | assumption | omega) 
        · refine Rx.walk 1 (pc' := 62) (L' := [some (.ref 12), some (.ref 1), some (.int (iz dp)), some (.int (iz i)), some (.int (iz r_2))]) (st' := [.int (iz 0)]) (h' := cxW (u2 (u2 (u2 z 1 1 n) 1 2 a_13) 12 1 sz_14) (uf (uf f 2 b) 13 cd_15) C T rc tl) rfl ?_
          refine Rx.ret rfl ?_
          exact hx0 _ _ _ _ (by rcases f16 with z | ⟨z1, z2, z3, z4⟩; (exfalso; have := z.2.1; omega); (rw [hE2]; have e : (opN acc ((atomR n b rr) (a_3 + 1)) (if sg n b (sks n b acc.2.1) = 42 then (-3) else (-4))) = rsF ((atomR n b rr) (a_3 + 1)).2.1 := (by unfold opN; rw [if_neg (by rw [z1]; decide)]); rw [e, opL_f rfl]; exact Or.inr ⟨rfl, z2, z3, Or.inl rfl⟩)) ⟨Or.inl rfl, by omega, by omega⟩
      · refine Rx.walk 2 (pc' := 37) (L' := [some (.ref 12), some (.ref 1), some (.int (iz dp)), some (.int (iz i)), some (.int (iz r_2))]) (st' := [.int (iz 47), .int (iz r_2)]) (h' := cxW (u2 (u2 (u2 z 1 1 n) 1 2 a_3) 12 1 sz) (uf (uf f 2 b) 13 cd) C T rc tl) rfl ?_
        refine Rx.eq2 rfl rfl ⟨by omega, by omega⟩ ⟨by omega, by omega⟩ (fun b35 => ?_) (fun b35 => ?_)
        · have hok : acc.1 = true ∧ a = acc.2.1 ∧ sz = sz0 + acc.2.2.1.length ∧ lsI sz.toNat cd = lsI sz0.toNat cd0 ++ acc.2.2.1 := by
            rcases hR with ⟨z1, z2, z3, z4, z5⟩ | ⟨z1, z2, z3, z4⟩
            · exact ⟨z1, z3, z4, z5⟩
            · exfalso
              have hdg := z4.elim (fun z => absurd z (by decide)) (fun z => z.2)
              have hdx := isD_sg.mp hdg
              have hsk : sks n b a = a := sks_at (by have := (isD_t.mp hdg); omega)
              rw [hsk] at f4
              rw [f4] at f5
              omega
          obtain ⟨hok1, hok2, hok3, hok4⟩ := hok
          have hlt : a_3 < n := by rcases Int.lt_or_le a_3 n with q | q; exact q; (exfalso; rw [sg_ge q] at f5; omega)
          have hsz := hsa hok1
          have hqo := hA0 (a_3 + 1) (by omega) (by omega)
          have ec : sg n b (sks n b acc.2.1) = r_2 := by rw [← hok2, ← f4]; exact f5.symm
          have eA : (atomR n b rr) (sks n b acc.2.1 + 1) = (atomR n b rr) (a_3 + 1) := by rw [← hok2, ← f4]
          have hE2 : Rt = opL n b 42 47 (-3) (-4) (atomR n b rr) (160 - i).toNat (opN acc ((atomR n b rr) (a_3 + 1)) (if sg n b (sks n b acc.2.1) = 42 then (-3) else (-4))) := by rw [hE, show (161 - i).toNat = (160 - i).toNat + 1 by omega, opL_n hok1 (by omega), eA]
          refine Rx.walk 4 (pc' := 48) (L' := [some (.ref 12), some (.ref 1), some (.int (iz dp)), some (.int (iz i)), some (.int (iz r_2))]) (st' := [.int (iz 1), .int (iz a_3), .ref 1]) (h' := cxW (u2 (u2 (u2 z 1 1 n) 1 2 a_3) 12 1 sz) (uf (uf f 2 b) 13 cd) C T rc tl) rfl ?_
          refine Rx.iadd rfl ?_
          refine Rx.walk 4 (pc' := 55) (L' := [some (.ref 12), some (.ref 1), some (.int (iz dp)), some (.int (iz i)), some (.int (iz r_2))]) (st' := [.int (iz dp), .ref 1, .ref 12]) (h' := cxW (u2 (u2 (u2 z 1 1 n) 1 2 (a_3 + 1)) 12 1 sz) (uf (uf f 2 b) 13 cd) C T rc tl) rfl ?_
          refine Rx.callx (m' := m_X6_readsAtom) (as := [.ref 12, .ref 1, .int (iz dp)]) (rest := []) rfl (hA _ (u2 (u2 (u2 z 1 1 n) 1 2 (a_3 + 1)) 12 1 sz) (uf (uf f 2 b) 13 cd) C T rc tl  dp n (a_3 + 1) b sz cd hT ⟨by omega, by omega⟩ ⟨by omega, by omega⟩ hdp) (fun v42 h43 q44 => ?_)
          obtain ⟨r_36, a_37, sz_38, cd_39, rfl, rfl, f40, f41⟩ := q44
          refine Rx.walk 0 (pc' := 58) (L' := [some (.ref 12), some (.ref 1), some (.int (iz dp)), some (.int (iz i)), some (.int (iz r_2))]) (st' := [.int (iz r_36)]) (h' := cxW (u2 (u2 (u2 z 1 1 n) 1 2 a_37) 12 1 sz_38) (uf (uf f 2 b) 13 cd_39) C T rc tl) rfl ?_
          obtain ⟨hq1, hq2, hq3⟩ := id f41
          refine Rx.ne1 rfl rfl ⟨by omega, by omega⟩ (fun b45 => ?_) (fun b45 => ?_)
          · refine Rx.walk 3 (pc' := 68) (L' := [some (.ref 12), some (.ref 1), some (.int (iz dp)), some (.int (iz i)), some (.int (iz r_2))]) (st' := [.int (iz 42), .int (iz r_2), .ref 12]) (h' := cxW (u2 (u2 (u2 z 1 1 n) 1 2 a_37) 12 1 sz_38) (uf (uf f 2 b) 13 cd_39) C T rc tl) rfl ?_
            refine Rx.ne2 rfl rfl ⟨by omega, by omega⟩ ⟨by omega, by omega⟩ (fun b46 => ?_) (fun b46 => ?_)
            · refine Rx.walk 1 (pc' := 78) (L' := [some (.ref 12), some (.ref 1), some (.int (iz dp)), some (.int (iz i)), some (.int (iz r_2))]) (st' := [.int (iz (-4)), .ref 12]) (h' := cxW (u2 (u2 (u2 z 1 1 n) 1 2 a_37) 12 1 sz_38) (uf (uf f 2 b) 13 cd_39) C T rc tl) rfl ?_
              refine Rx.callx (m' := m_X6_emit) (as := [.ref 12, .int (iz (-4))]) (rest := []) rfl (x_emit _ (u2 (u2 (u2 z 1 1 n) 1 2 a_37) 12 1 sz_38) (uf (uf f 2 b) 13 cd_39) C T rc tl  (-4) sz_38 cd_39 (by first | assumption | omega)) (fun v50 h51 q52 => ?_)
              obtain ⟨sz_47, cd_48, rfl, rfl, f49⟩ := q52
              refine Rx.walk 0 (pc' := 81) (L' := [some (.ref 12), some (.ref 1), some (.int (iz dp)), some (.int (iz i)), some (.int (iz r_2))]) (st' := []) (h' := cxW (u2 (u2 (u2 z 1 1 n) 1 2 a_37) 12 1 sz_47) (uf (uf f 2 b) 13 cd_48) C T rc tl) rfl ?_
              have heb : 0 ≤ sz_47 ∧ sz_47 ≤ 161 := by rcases f49 with z | z <;> omega
              refine Rx.iinc (b := 1) rfl rfl rfl ?_
              refine Rx.walk 0 (pc' := 84) (L' := [some (.ref 12), some (.ref 1), some (.int (iz dp)), some (.int (iz (i + 1))), some (.int (iz r_2))]) (st' := []) (h' := cxW (u2 (u2 (u2 z 1 1 n) 1 2 a_37) 12 1 sz_47) (uf (uf f 2 b) 13 cd_48) C T rc tl) rfl ?_
              refine Rx.walk 1 (pc' := 13) (L' := [some (.ref 12), some (.ref 1), some (.int (iz dp)), some (.int (iz (i + 1))), some (.int (iz r_2))]) (st' := []) (h' := cxW (u2 (u2 (u2 z 1 1 n) 1 2 a_37) 12 1 sz_47) (uf (uf f 2 b) 13 cd_48) C T rc tl) rfl ?_
              exact ih (i + 1) a_37 sz_47 cd_48 (opN acc ((atomR n b rr) (a_3 + 1)) (-4)) (some (.int (iz r_2))) ⟨by omega, by omega⟩ (by first | assumption | omega) ⟨by omega, by omega, by omega⟩ ⟨by omega, by omega⟩ (rdR_op (op := -4) hz0.1 hok3 hok4 (by have z := f40; rw [show r_36 = 1 by omega] at z; exact z) f49 (fun z => by rcases f40 with y | y; (have := hqo.2.2 z; have := y.2.2.2.1; omega); exact absurd (z.symm.trans y.1) (by decide))) (fun z => by have hq : ((atomR n b rr) (a_3 + 1)).1 = true := (by unfold opN at z; split at z; assumption; exact absurd z (by simp [rsF])); have := hqo.2.2 hq; rcases f40 with y | y; (have := y.2.2.2.1; have := y.2.2.1; rcases f49 with x | x <;> omega); exact absurd (hq.symm.trans y.1) (by decide)) (by rw [hE2, if_neg (by omega), show (161 - (i + 1)).toNat = (160 - i).toNat by omega]) (by first | assumption | omega) 
            · refine Rx.walk 2 (pc' := 78) (L' := [some (.ref 12), some (.ref 1), some (.int (iz dp)), some (.int (iz i)), some (.int (iz r_2))]) (st' := [.int (iz (-3)), .ref 12]) (h' := cxW (u2 (u2 (u2 z 1 1 n) 1 2 a_37) 12 1 sz_38) (uf (uf f 2 b) 13 cd_39) C T rc tl) rfl ?_
              refine Rx.callx (m' := m_X6_emit) (as := [.ref 12, .int (iz (-3))]) (rest := []) rfl (x_emit _ (u2 (u2 (u2 z 1 1 n) 1 2 a_37) 12 1 sz_38) (uf (uf f 2 b) 13 cd_39) C T rc tl  (-3) sz_38 cd_39 (by first | assumption | omega)) (fun v56 h57 q58 => ?_)
              obtain ⟨sz_53, cd_54, rfl, rfl, f55⟩ := q58
              refine Rx.walk 0 (pc' := 81) (L' := [some (.ref 12), some (.ref 1), some (.int (iz dp)), some (.int (iz i)), some (.int (iz r_2))]) (st' := []) (h' := cxW (u2 (u2 (u2 z 1 1 n) 1 2 a_37) 12 1 sz_53) (uf (uf f 2 b) 13 cd_54) C T rc tl) rfl ?_
              have heb : 0 ≤ sz_53 ∧ sz_53 ≤ 161 := by rcases f55 with z | z <;> omega
              refine Rx.iinc (b := 1) rfl rfl rfl ?_
              refine Rx.walk 0 (pc' := 84) (L' := [some (.ref 12), some (.ref 1), some (.int (iz dp)), some (.int (iz (i + 1))), some (.int (iz r_2))]) (st' := []) (h' := cxW (u2 (u2 (u2 z 1 1 n) 1 2 a_37) 12 1 sz_53) (uf (uf f 2 b) 13 cd_54) C T rc tl) rfl ?_
              refine Rx.walk 1 (pc' := 13) (L' := [some (.ref 12), some (.ref 1), some (.int (iz dp)), some (.int (iz (i + 1))), some (.int (iz r_2))]) (st' := []) (h' := cxW (u2 (u2 (u2 z 1 1 n) 1 2 a_37) 12 1 sz_53) (uf (uf f 2 b) 13 cd_54) C T rc tl) rfl ?_
              exact ih (i + 1) a_37 sz_53 cd_54 (opN acc ((atomR n b rr) (a_3 + 1)) (-3)) (some (.int (iz r_2))) ⟨by omega, by omega⟩ (by first | assumption | omega) ⟨by omega, by omega, by omega⟩ ⟨by omega, by omega⟩ (rdR_op (op := -3) hz0.1 hok3 hok4 (by have z := f40; rw [show r_36 = 1 by omega] at z; exact z) f55 (fun z => by rcases f40 with y | y; (have := hqo.2.2 z; have := y.2.2.2.1; omega); exact absurd (z.symm.trans y.1) (by decide))) (fun z => by have hq : ((atomR n b rr) (a_3 + 1)).1 = true := (by unfold opN at z; split at z; assumption; exact absurd z (by simp [rsF])); have := hqo.2.2 hq; rcases f40 with y | y; (have := y.2.2.2.1; have := y.2.2.1; rcases f55 with x | x <;> omega); exact absurd (hq.symm.trans y.1) (by decide)) (by rw [hE2, if_pos (by omega), show (161 - (i + 1)).toNat = (160 - i).toNat by omega]) (by first | assumption | omega) 
          · refine Rx.walk 1 (pc' := 62) (L' := [some (.ref 12), some (.ref 1), some (.int (iz dp)), some (.int (iz i)), some (.int (iz r_2))]) (st' := [.int (iz 0)]) (h' := cxW (u2 (u2 (u2 z 1 1 n) 1 2 a_37) 12 1 sz_38) (uf (uf f 2 b) 13 cd_39) C T rc tl) rfl ?_
            refine Rx.ret rfl ?_
            exact hx0 _ _ _ _ (by rcases f40 with z | ⟨z1, z2, z3, z4⟩; (exfalso; have := z.2.1; omega); (rw [hE2]; have e : (opN acc ((atomR n b rr) (a_3 + 1)) (if sg n b (sks n b acc.2.1) = 42 then (-3) else (-4))) = rsF ((atomR n b rr) (a_3 + 1)).2.1 := (by unfold opN; rw [if_neg (by rw [z1]; decide)]); rw [e, opL_f rfl]; exact Or.inr ⟨rfl, z2, z3, Or.inl rfl⟩)) ⟨Or.inl rfl, by omega, by omega⟩
        · refine Rx.walk 1 (pc' := 41) (L' := [some (.ref 12), some (.ref 1), some (.int (iz dp)), some (.int (iz i)), some (.int (iz r_2))]) (st' := [.int (iz 1)]) (h' := cxW (u2 (u2 (u2 z 1 1 n) 1 2 a_3) 12 1 sz) (uf (uf f 2 b) 13 cd) C T rc tl) rfl ?_
          refine Rx.ret rfl ?_
          exact hx0 _ _ _ _ (by rcases hR with ⟨z1, z2, z3, z4, z5⟩ | ⟨z1, z2, z3, z4⟩; (have ec : sg n b (sks n b acc.2.1) = r_2 := (by rw [← z3, ← f4]; exact f5.symm); rw [hE, show (161 - i).toNat = (160 - i).toNat + 1 by omega, opL_e z1 (by omega) (by omega)]; exact Or.inl ⟨rfl, rfl, by rw [← z3]; exact f4, z4, z5⟩); (have hdg := z4.elim (fun z => absurd z (by decide)) (fun z => z.2); have hsk : sks n b a = a := sks_at (by have := (isD_t.mp hdg); omega); rw [hE, opL_f z1]; exact Or.inr ⟨z1, by rw [f4, hsk]; exact z2, z3, Or.inr ⟨rfl, by rw [f4, hsk]; exact hdg⟩⟩)) ⟨Or.inr rfl, by omega, by omega⟩
set_option maxRecDepth 100000 in
set_option maxHeartbeats 4000000 in
theorem x_rTerm (d : Nat) (z : Nat → Nat → Int) (f : Nat → Int → Int) (C : Nat → CuR) (T : Nat → TsR) (rc : Nat → Nat) (tl : AmH) (D rr : Nat) (hA : ∀ (d : Nat) (z : Nat → Nat → Int) (f : Nat → Int → Int) (C : Nat → CuR) (T : Nat → TsR) (rc : Nat → Nat) (tl : AmH)  (dp : Int) (n : Int) (a : Int) (b : Int → Int) (sz : Int) (cd : Int → Int) (hT : tOK n b) (ha : 0 ≤ a ∧ a ≤ n) (hs : 0 ≤ sz ∧ sz ≤ a) (hdp : 0 ≤ dp ∧ dp = 6 - (rr : Int)), Rx (d + (D + 2)) m_X6_readsAtom 0 (am_ent [.ref 12, .ref 1, .int (iz dp)] 6) [] (cxW (u2 (u2 (u2 z 1 1 n) 1 2 a) 12 1 sz) (uf (uf f 2 b) 13 cd) C T rc tl) (fun rv h => ∃ r : Int, ∃ a' : Int, ∃ sz' : Int, ∃ cd' : Int → Int, rv = some (.int (iz r)) ∧ h = cxW (u2 (u2 (u2 z 1 1 n) 1 2 a') 12 1 sz') (uf (uf f 2 b) 13 cd') C T rc tl ∧ rdR n b (atomR n b rr a) sz cd r a' sz' cd' ∧ ((r = 0 ∨ r = 1) ∧ (a ≤ a' ∧ a' ≤ n) ∧ (0 ≤ sz' ∧ sz' ≤ 161)))) (dp : Int) (n : Int) (a : Int) (b : Int → Int) (sz : Int) (cd : Int → Int) (hT : tOK n b) (ha : 0 ≤ a ∧ a ≤ n) (hs : 0 ≤ sz ∧ sz ≤ a) (hdp : 0 ≤ dp ∧ dp = 6 - (rr : Int)) : Rx (d + (D + 3)) m_X6_readsTerm 0 (am_ent [.ref 12, .ref 1, .int (iz dp)] 5) [] (cxW (u2 (u2 (u2 z 1 1 n) 1 2 a) 12 1 sz) (uf (uf f 2 b) 13 cd) C T rc tl) (fun rv h => ∃ r : Int, ∃ a' : Int, ∃ sz' : Int, ∃ cd' : Int → Int, rv = some (.int (iz r)) ∧ h = cxW (u2 (u2 (u2 z 1 1 n) 1 2 a') 12 1 sz') (uf (uf f 2 b) 13 cd') C T rc tl ∧ rdR n b (termG n b (atomR n b rr) a) sz cd r a' sz' cd' ∧ ((r = 0 ∨ r = 1) ∧ (a ≤ a' ∧ a' ≤ n) ∧ (0 ≤ sz' ∧ sz' ≤ 161))) := by
  obtain ⟨hT1, hT2, hT3⟩ := id hT
  have hrr : 0 ≤ (rr : Int) := by omega
  refine Rx.walk 0 (pc' := 0) (L' := [some (.ref 12), some (.ref 1), some (.int (iz dp)), none, none]) (st' := []) (h' := cxW (u2 (u2 (u2 z 1 1 n) 1 2 a) 12 1 sz) (uf (uf f 2 b) 13 cd) C T rc tl) rfl ?_
  refine Rx.walk 3 (pc' := 3) (L' := [some (.ref 12), some (.ref 1), some (.int (iz dp)), none, none]) (st' := [.int (iz dp), .ref 1, .ref 12]) (h' := cxW (u2 (u2 (u2 z 1 1 n) 1 2 a) 12 1 sz) (uf (uf f 2 b) 13 cd) C T rc tl) rfl ?_
  refine Rx.callx (m' := m_X6_readsAtom) (as := [.ref 12, .ref 1, .int (iz dp)]) (rest := []) rfl (hA _ (u2 (u2 (u2 z 1 1 n) 1 2 a) 12 1 sz) (uf (uf f 2 b) 13 cd) C T rc tl  dp n a b sz cd hT ha hs hdp) (fun v7 h8 q9 => ?_)
  obtain ⟨r_1, a_2, sz_3, cd_4, rfl, rfl, f5, f6⟩ := q9
  refine Rx.walk 0 (pc' := 6) (L' := [some (.ref 12), some (.ref 1), some (.int (iz dp)), none, none]) (st' := [.int (iz r_1)]) (h' := cxW (u2 (u2 (u2 z 1 1 n) 1 2 a_2) 12 1 sz_3) (uf (uf f 2 b) 13 cd_4) C T rc tl) rfl ?_
  obtain ⟨hq1, hq2, hq3⟩ := id f6
  refine Rx.ne1 rfl rfl ⟨by omega, by omega⟩ (fun b10 => ?_) (fun b10 => ?_)
  · refine Rx.walk 2 (pc' := 13) (L' := [some (.ref 12), some (.ref 1), some (.int (iz dp)), some (.int (iz 0)), none]) (st' := []) (h' := cxW (u2 (u2 (u2 z 1 1 n) 1 2 a_2) 12 1 sz_3) (uf (uf f 2 b) 13 cd_4) C T rc tl) rfl ?_
    have hok : rdOK n (atomR n b rr) := atomR_ok (n := n) (b := b) rr
    have hqo := hok a ha.1 ha.2
    refine x_rTerm_l _ (u2 (u2 (u2 z 1 1 n) 1 2 a_2) 12 1 sz_3) (uf (uf f 2 b) 13 cd_4) C T rc tl D rr hA dp n b sz cd a (termG n b (atomR n b rr) a) hT hdp hs hok _ ?_ ((160 - 0) + 1 : Int).toNat 0 a_2 sz_3 cd_4 ((atomR n b rr) a) none ⟨by omega, by omega⟩ (by omega) ⟨by omega, by omega, by omega⟩ ⟨by omega, by omega⟩ (by have z := f5; rw [show r_1 = 1 by omega] at z; exact z) (fun z => by rcases f5 with y | y; (have := hqo.2.2 z; have := y.2.2.2.1; have := y.2.2.1; omega); exact absurd (z.symm.trans y.1) (by decide)) rfl (by omega) 
    intro r_11 a_12 sz_13 cd_14 f15 f16
    show (fun (rv : Option Value) (h : AmH) => ∃ r : Int, ∃ a' : Int, ∃ sz' : Int, ∃ cd' : Int → Int, rv = some (.int (iz r)) ∧ h = cxW (u2 (u2 (u2 z 1 1 n) 1 2 a') 12 1 sz') (uf (uf f 2 b) 13 cd') C T rc tl ∧ rdR n b (termG n b (atomR n b rr) a) sz cd r a' sz' cd' ∧ ((r = 0 ∨ r = 1) ∧ (a ≤ a' ∧ a' ≤ n) ∧ (0 ≤ sz' ∧ sz' ≤ 161))) (some (Value.int (iz r_11))) (cxW (u2 (u2 (u2 z 1 1 n) 1 2 a_12) 12 1 sz_13) (uf (uf f 2 b) 13 cd_14) C T rc tl)
    exact ⟨_, _, _, _, rfl, rfl, f15, f16⟩
  · refine Rx.walk 1 (pc' := 10) (L' := [some (.ref 12), some (.ref 1), some (.int (iz dp)), none, none]) (st' := [.int (iz 0)]) (h' := cxW (u2 (u2 (u2 z 1 1 n) 1 2 a_2) 12 1 sz_3) (uf (uf f 2 b) 13 cd_4) C T rc tl) rfl ?_
    refine Rx.ret rfl ?_
    refine ⟨_, _, _, _, rfl, rfl, ?_, Or.inl rfl, by omega, by omega⟩
    rcases f5 with z | ⟨z1, z2, z3, z4⟩
    · exfalso; have := z.2.1; omega
    · rw [show termG n b (atomR n b rr) a = (atomR n b rr) a from opL_f z1]
      exact Or.inr ⟨z1, z2, z3, Or.inl rfl⟩
set_option maxRecDepth 100000 in
set_option maxHeartbeats 4000000 in
theorem x_rSum_l (d : Nat) (z : Nat → Nat → Int) (f : Nat → Int → Int) (C : Nat → CuR) (T : Nat → TsR) (rc : Nat → Nat) (tl : AmH) (D rr : Nat) (hT_ : ∀ (d : Nat) (z : Nat → Nat → Int) (f : Nat → Int → Int) (C : Nat → CuR) (T : Nat → TsR) (rc : Nat → Nat) (tl : AmH)  (dp : Int) (n : Int) (a : Int) (b : Int → Int) (sz : Int) (cd : Int → Int) (hT : tOK n b) (ha : 0 ≤ a ∧ a ≤ n) (hs : 0 ≤ sz ∧ sz ≤ a) (hdp : 0 ≤ dp ∧ dp = 6 - (rr : Int)), Rx (d + (D + 2)) m_X6_readsTerm 0 (am_ent [.ref 12, .ref 1, .int (iz dp)] 5) [] (cxW (u2 (u2 (u2 z 1 1 n) 1 2 a) 12 1 sz) (uf (uf f 2 b) 13 cd) C T rc tl) (fun rv h => ∃ r : Int, ∃ a' : Int, ∃ sz' : Int, ∃ cd' : Int → Int, rv = some (.int (iz r)) ∧ h = cxW (u2 (u2 (u2 z 1 1 n) 1 2 a') 12 1 sz') (uf (uf f 2 b) 13 cd') C T rc tl ∧ rdR n b (termG n b (atomR n b rr) a) sz cd r a' sz' cd' ∧ ((r = 0 ∨ r = 1) ∧ (a ≤ a' ∧ a' ≤ n) ∧ (0 ≤ sz' ∧ sz' ≤ 161)))) (dp : Int) (n : Int) (b : Int → Int) (sz0 : Int) (cd0 : Int → Int) (a0 : Int) (Rt : RsT) (hT : tOK n b) (hdp : 0 ≤ dp ∧ dp = 6 - (rr : Int)) (hz0 : 0 ≤ sz0 ∧ sz0 ≤ a0) (hA0 : rdOK n (termG n b (atomR n b rr))) (P : Option Value → AmH → Prop) (hx0 : ∀ (r : Int) (a' : Int) (sz' : Int) (cd' : Int → Int), (rdR n b Rt sz0 cd0 r a' sz' cd') → ((r = 0 ∨ r = 1) ∧ (a0 ≤ a' ∧ a' ≤ n) ∧ (0 ≤ sz' ∧ sz' ≤ 161)) → P (some (.int (iz r))) (cxW (u2 (u2 (u2 z 1 1 n) 1 2 a') 12 1 sz') (uf (uf f 2 b) 13 cd') C T rc tl)) : ∀ (kF : Nat) (i : Int) (a : Int) (sz : Int) (cd : Int → Int) (acc : RsT) (w4 : Option Value), (0 ≤ a ∧ a ≤ n) → (a0 ≤ a) → (0 ≤ i ∧ i ≤ 160 ∧ i ≤ a) → (0 ≤ sz ∧ sz ≤ 161) → (rdR n b acc sz0 cd0 1 a sz cd) → (acc.1 = true → sz ≤ a) → (Rt = opL n b 43 45 (-1) (-2) (termG n b (atomR n b rr)) (161 - i).toNat acc) → (160 - i) < (kF : Int) → Rx (d + (D + 3)) m_X6_readsSum 13 [some (.ref 12), some (.ref 1), some (.int (iz dp)), some (.int (iz i)), w4] [] (cxW (u2 (u2 (u2 z 1 1 n) 1 2 a) 12 1 sz) (uf (uf f 2 b) 13 cd) C T rc tl) P := by
  obtain ⟨hT1, hT2, hT3⟩ := id hT
  have hrr : 0 ≤ (rr : Int) := by omega
  intro kF
  induction kF with
  | zero =>
    intro i a sz cd acc w4 ha ha0 hi hs hR hsa hE hk
    exfalso; omega
  | succ kF ih =>
    intro i a sz cd acc w4 ha ha0 hi hs hR hsa hE hk
    refine Rx.walk 2 (pc' := 17) (L' := [some (.ref 12), some (.ref 1), some (.int (iz dp)), some (.int (iz i)), w4]) (st' := [.int (iz 160), .int (iz i)]) (h' := cxW (u2 (u2 (u2 z 1 1 n) 1 2 a) 12 1 sz) (uf (uf f 2 b) 13 cd) C T rc tl) rfl ?_
    refine Rx.ge2 rfl rfl ⟨by omega, by omega⟩ ⟨by omega, by omega⟩ (fun b1 => ?_) (fun b1 => ?_)
    · refine Rx.walk 1 (pc' := 87) (L' := [some (.ref 12), some (.ref 1), some (.int (iz dp)), some (.int (iz i)), w4]) (st' := [.int (iz 1)]) (h' := cxW (u2 (u2 (u2 z 1 1 n) 1 2 a) 12 1 sz) (uf (uf f 2 b) 13 cd) C T rc tl) rfl ?_
      refine Rx.ret rfl ?_
      exact hx0 _ _ _ _ (by rcases hR with ⟨z1, z2, z3, z4, z5⟩ | ⟨z1, z2, z3, z4⟩; (have en : sks n b acc.2.1 = acc.2.1 := (sks_at (by omega)); rw [hE, show (161 - i).toNat = 0 + 1 by omega, opL_e z1 (by rw [en, sg_ge (by omega)]; decide) (by rw [en, sg_ge (by omega)]; decide)]; exact Or.inl ⟨rfl, rfl, by rw [en]; exact z3, z4, z5⟩); (exfalso; have hdg := isD_t.mp (z4.elim (fun z => absurd z (by decide)) (fun z => z.2)); have := hT.2.1; omega)) ⟨Or.inr rfl, by omega, by omega⟩
    · refine Rx.walk 1 (pc' := 21) (L' := [some (.ref 12), some (.ref 1), some (.int (iz dp)), some (.int (iz i)), w4]) (st' := [.ref 1]) (h' := cxW (u2 (u2 (u2 z 1 1 n) 1 2 a) 12 1 sz) (uf (uf f 2 b) 13 cd) C T rc tl) rfl ?_
      refine Rx.callx (m' := m_X8_sign) (as := [.ref 1]) (rest := []) rfl (x_sgn _ (u2 (u2 (u2 z 1 1 n) 1 2 a) 12 1 sz) (uf (uf f 2 b) 13 cd) C T rc tl  n a b hT ha) (fun v8 h9 q10 => ?_)
      obtain ⟨r_2, a_3, rfl, rfl, f4, f5, f6, f7⟩ := q10
      refine Rx.walk 0 (pc' := 24) (L' := [some (.ref 12), some (.ref 1), some (.int (iz dp)), some (.int (iz i)), w4]) (st' := [.int (iz r_2)]) (h' := cxW (u2 (u2 (u2 z 1 1 n) 1 2 a_3) 12 1 sz) (uf (uf f 2 b) 13 cd) C T rc tl) rfl ?_
      refine Rx.walk 3 (pc' := 30) (L' := [some (.ref 12), some (.ref 1), some (.int (iz dp)), some (.int (iz i)), some (.int (iz r_2))]) (st' := [.int (iz 43), .int (iz r_2)]) (h' := cxW (u2 (u2 (u2 z 1 1 n) 1 2 a_3) 12 1 sz) (uf (uf f 2 b) 13 cd) C T rc tl) rfl ?_
      refine Rx.eq2 rfl rfl ⟨by omega, by omega⟩ ⟨by omega, by omega⟩ (fun b11 => ?_) (fun b11 => ?_)
      · have hok : acc.1 = true ∧ a = acc.2.1 ∧ sz = sz0 + acc.2.2.1.length ∧ lsI sz.toNat cd = lsI sz0.toNat cd0 ++ acc.2.2.1 := by
          rcases hR with ⟨z1, z2, z3, z4, z5⟩ | ⟨z1, z2, z3, z4⟩
          · exact ⟨z1, z3, z4, z5⟩
          · exfalso
            have hdg := z4.elim (fun z => absurd z (by decide)) (fun z => z.2)
            have hdx := isD_sg.mp hdg
            have hsk : sks n b a = a := sks_at (by have := (isD_t.mp hdg); omega)
            rw [hsk] at f4
            rw [f4] at f5
            omega
        obtain ⟨hok1, hok2, hok3, hok4⟩ := hok
        have hlt : a_3 < n := by rcases Int.lt_or_le a_3 n with q | q; exact q; (exfalso; rw [sg_ge q] at f5; omega)
        have hsz := hsa hok1
        have hqo := hA0 (a_3 + 1) (by omega) (by omega)
        have ec : sg n b (sks n b acc.2.1) = r_2 := by rw [← hok2, ← f4]; exact f5.symm
        have eA : (termG n b (atomR n b rr)) (sks n b acc.2.1 + 1) = (termG n b (atomR n b rr)) (a_3 + 1) := by rw [← hok2, ← f4]
        have hE2 : Rt = opL n b 43 45 (-1) (-2) (termG n b (atomR n b rr)) (160 - i).toNat (opN acc ((termG n b (atomR n b rr)) (a_3 + 1)) (if sg n b (sks n b acc.2.1) = 43 then (-1) else (-2))) := by rw [hE, show (161 - i).toNat = (160 - i).toNat + 1 by omega, opL_n hok1 (by omega), eA]
        refine Rx.walk 4 (pc' := 48) (L' := [some (.ref 12), some (.ref 1), some (.int (iz dp)), some (.int (iz i)), some (.int (iz r_2))]) (st' := [.int (iz 1), .int (iz a_3), .ref 1]) (h' := cxW (u2 (u2 (u2 z 1 1 n) 1 2 a_3) 12 1 sz) (uf (uf f 2 b) 13 cd) C T rc tl) rfl ?_
        refine Rx.iadd rfl ?_
        refine Rx.walk 4 (pc' := 55) (L' := [some (.ref 12), some (.ref 1), some (.int (iz dp)), some (.int (iz i)), some (.int (iz r_2))]) (st' := [.int (iz dp), .ref 1, .ref 12]) (h' := cxW (u2 (u2 (u2 z 1 1 n) 1 2 (a_3 + 1)) 12 1 sz) (uf (uf f 2 b) 13 cd) C T rc tl) rfl ?_
        refine Rx.callx (m' := m_X6_readsTerm) (as := [.ref 12, .ref 1, .int (iz dp)]) (rest := []) rfl (hT_ _ (u2 (u2 (u2 z 1 1 n) 1 2 (a_3 + 1)) 12 1 sz) (uf (uf f 2 b) 13 cd) C T rc tl  dp n (a_3 + 1) b sz cd hT ⟨by omega, by omega⟩ ⟨by omega, by omega⟩ hdp) (fun v18 h19 q20 => ?_)
        obtain ⟨r_12, a_13, sz_14, cd_15, rfl, rfl, f16, f17⟩ := q20
        refine Rx.walk 0 (pc' := 58) (L' := [some (.ref 12), some (.ref 1), some (.int (iz dp)), some (.int (iz i)), some (.int (iz r_2))]) (st' := [.int (iz r_12)]) (h' := cxW (u2 (u2 (u2 z 1 1 n) 1 2 a_13) 12 1 sz_14) (uf (uf f 2 b) 13 cd_15) C T rc tl) rfl ?_
        obtain ⟨hq1, hq2, hq3⟩ := id f17
        refine Rx.ne1 rfl rfl ⟨by omega, by omega⟩ (fun b21 => ?_) (fun b21 => ?_)
        · refine Rx.walk 3 (pc' := 68) (L' := [some (.ref 12), some (.ref 1), some (.int (iz dp)), some (.int (iz i)), some (.int (iz r_2))]) (st' := [.int (iz 43), .int (iz r_2), .ref 12]) (h' := cxW (u2 (u2 (u2 z 1 1 n) 1 2 a_13) 12 1 sz_14) (uf (uf f 2 b) 13 cd_15) C T rc tl) rfl ?_
          refine Rx.ne2 rfl rfl ⟨by omega, by omega⟩ ⟨by omega, by omega⟩ (fun b22 => ?_) (fun b22 => ?_)
          · refine Rx.walk 1 (pc' := 77) (L' := [some (.ref 12), some (.ref 1), some (.int (iz dp)), some (.int (iz i)), some (.int (iz r_2))]) (st' := [.int (iz (-2)), .ref 12]) (h' := cxW (u2 (u2 (u2 z 1 1 n) 1 2 a_13) 12 1 sz_14) (uf (uf f 2 b) 13 cd_15) C T rc tl) rfl ?_
            refine Rx.callx (m' := m_X6_emit) (as := [.ref 12, .int (iz (-2))]) (rest := []) rfl (x_emit _ (u2 (u2 (u2 z 1 1 n) 1 2 a_13) 12 1 sz_14) (uf (uf f 2 b) 13 cd_15) C T rc tl  (-2) sz_14 cd_15 (by first | assumption | omega)) (fun v26 h27 q28 => ?_)
            obtain ⟨sz_23, cd_24, rfl, rfl, f25⟩ := q28
            refine Rx.walk 0 (pc' := 80) (L' := [some (.ref 12), some (.ref 1), some (.int (iz dp)), some (.int (iz i)), some (.int (iz r_2))]) (st' := []) (h' := cxW (u2 (u2 (u2 z 1 1 n) 1 2 a_13) 12 1 sz_23) (uf (uf f 2 b) 13 cd_24) C T rc tl) rfl ?_
            have heb : 0 ≤ sz_23 ∧ sz_23 ≤ 161 := by rcases f25 with z | z <;> omega
            refine Rx.iinc (b := 1) rfl rfl rfl ?_
            refine Rx.walk 0 (pc' := 83) (L' := [some (.ref 12), some (.ref 1), some (.int (iz dp)), some (.int (iz (i + 1))), some (.int (iz r_2))]) (st' := []) (h' := cxW (u2 (u2 (u2 z 1 1 n) 1 2 a_13) 12 1 sz_23) (uf (uf f 2 b) 13 cd_24) C T rc tl) rfl ?_
            refine Rx.walk 1 (pc' := 13) (L' := [some (.ref 12), some (.ref 1), some (.int (iz dp)), some (.int (iz (i + 1))), some (.int (iz r_2))]) (st' := []) (h' := cxW (u2 (u2 (u2 z 1 1 n) 1 2 a_13) 12 1 sz_23) (uf (uf f 2 b) 13 cd_24) C T rc tl) rfl ?_
            exact ih (i + 1) a_13 sz_23 cd_24 (opN acc ((termG n b (atomR n b rr)) (a_3 + 1)) (-2)) (some (.int (iz r_2))) ⟨by omega, by omega⟩ (by first | assumption | omega) ⟨by omega, by omega, by omega⟩ ⟨by omega, by omega⟩ (rdR_op (op := -2) hz0.1 hok3 hok4 (by have z := f16; rw [show r_12 = 1 by omega] at z; exact z) f25 (fun z => by rcases f16 with y | y; (have := hqo.2.2 z; have := y.2.2.2.1; omega); exact absurd (z.symm.trans y.1) (by decide))) (fun z => by have hq : ((termG n b (atomR n b rr)) (a_3 + 1)).1 = true := (by unfold opN at z; split at z; assumption; exact absurd z (by simp [rsF])); have := hqo.2.2 hq; rcases f16 with y | y; (have := y.2.2.2.1; have := y.2.2.1; rcases f25 with x | x <;> omega); exact absurd (hq.symm.trans y.1) (by decide)) (by rw [hE2, if_neg (by omega), show (161 - (i + 1)).toNat = (160 - i).toNat by omega]) (by first | assumption | omega) 
          · refine Rx.walk 2 (pc' := 77) (L' := [some (.ref 12), some (.ref 1), some (.int (iz dp)), some (.int (iz i)), some (.int (iz r_2))]) (st' := [.int (iz (-1)), .ref 12]) (h' := cxW (u2 (u2 (u2 z 1 1 n) 1 2 a_13) 12 1 sz_14) (uf (uf f 2 b) 13 cd_15) C T rc tl) rfl ?_
            refine Rx.callx (m' := m_X6_emit) (as := [.ref 12, .int (iz (-1))]) (rest := []) rfl (x_emit _ (u2 (u2 (u2 z 1 1 n) 1 2 a_13) 12 1 sz_14) (uf (uf f 2 b) 13 cd_15) C T rc tl  (-1) sz_14 cd_15 (by first | assumption | omega)) (fun v32 h33 q34 => ?_)
            obtain ⟨sz_29, cd_30, rfl, rfl, f31⟩ := q34
            refine Rx.walk 0 (pc' := 80) (L' := [some (.ref 12), some (.ref 1), some (.int (iz dp)), some (.int (iz i)), some (.int (iz r_2))]) (st' := []) (h' := cxW (u2 (u2 (u2 z 1 1 n) 1 2 a_13) 12 1 sz_29) (uf (uf f 2 b) 13 cd_30) C T rc tl) rfl ?_
            have heb : 0 ≤ sz_29 ∧ sz_29 ≤ 161 := by rcases f31 with z | z <;> omega
            refine Rx.iinc (b := 1) rfl rfl rfl ?_
            refine Rx.walk 0 (pc' := 83) (L' := [some (.ref 12), some (.ref 1), some (.int (iz dp)), some (.int (iz (i + 1))), some (.int (iz r_2))]) (st' := []) (h' := cxW (u2 (u2 (u2 z 1 1 n) 1 2 a_13) 12 1 sz_29) (uf (uf f 2 b) 13 cd_30) C T rc tl) rfl ?_
            refine Rx.walk 1 (pc' := 13) (L' := [some (.ref 12), some (.ref 1), some (.int (iz dp)), some (.int (iz (i + 1))), some (.int (iz r_2))]) (st' := []) (h' := cxW (u2 (u2 (u2 z 1 1 n) 1 2 a_13) 12 1 sz_29) (uf (uf f 2 b) 13 cd_30) C T rc tl) rfl ?_
            exact ih (i + 1) a_13 sz_29 cd_30 (opN acc ((termG n b (atomR n b rr)) (a_3 + 1)) (-1)) (some (.int (iz r_2))) ⟨by omega, by omega⟩ (by first | assumption | omega) ⟨by omega, by omega, by omega⟩ ⟨by omega, by omega⟩ (rdR_op (op := -1) hz0.1 hok3 hok4 (by have z := f16; rw [show r_12 = 1 by omega] at z; exact z) f31 (fun z => by rcases f16 with y | y; (have := hqo.2.2 z; have := y.2.2.2.1; omega); exact absurd (z.symm.trans y.1) (by decide))) (fun z => by have hq : ((termG n b (atomR n b rr)) (a_3 + 1)).1 = true := (by unfold opN at z; split at z; assumption; exact absurd z (by simp [rsF])); have := hqo.2.2 hq; rcases f16 with y | y; (have := y.2.2.2.1; have := y.2.2.1; rcases f31 with x | x <;> omega); exact absurd (hq.symm.trans y.1) (by decide)) (by rw [hE2, if_pos (by omega), show (161 - (i + 1)).toNat = (160 - i).toNat by omega]) (by first | assumption | omega) 
        · refine Rx.walk 1 (pc' := 62) (L' := [some (.ref 12), some (.ref 1), some (.int (iz dp)), some (.int (iz i)), some (.int (iz r_2))]) (st' := [.int (iz 0)]) (h' := cxW (u2 (u2 (u2 z 1 1 n) 1 2 a_13) 12 1 sz_14) (uf (uf f 2 b) 13 cd_15) C T rc tl) rfl ?_
          refine Rx.ret rfl ?_
          exact hx0 _ _ _ _ (by rcases f16 with z | ⟨z1, z2, z3, z4⟩; (exfalso; have := z.2.1; omega); (rw [hE2]; have e : (opN acc ((termG n b (atomR n b rr)) (a_3 + 1)) (if sg n b (sks n b acc.2.1) = 43 then (-1) else (-2))) = rsF ((termG n b (atomR n b rr)) (a_3 + 1)).2.1 := (by unfold opN; rw [if_neg (by rw [z1]; decide)]); rw [e, opL_f rfl]; exact Or.inr ⟨rfl, z2, z3, Or.inl rfl⟩)) ⟨Or.inl rfl, by omega, by omega⟩
      · refine Rx.walk 2 (pc' := 37) (L' := [some (.ref 12), some (.ref 1), some (.int (iz dp)), some (.int (iz i)), some (.int (iz r_2))]) (st' := [.int (iz 45), .int (iz r_2)]) (h' := cxW (u2 (u2 (u2 z 1 1 n) 1 2 a_3) 12 1 sz) (uf (uf f 2 b) 13 cd) C T rc tl) rfl ?_
        refine Rx.eq2 rfl rfl ⟨by omega, by omega⟩ ⟨by omega, by omega⟩ (fun b35 => ?_) (fun b35 => ?_)
        · have hok : acc.1 = true ∧ a = acc.2.1 ∧ sz = sz0 + acc.2.2.1.length ∧ lsI sz.toNat cd = lsI sz0.toNat cd0 ++ acc.2.2.1 := by
            rcases hR with ⟨z1, z2, z3, z4, z5⟩ | ⟨z1, z2, z3, z4⟩
            · exact ⟨z1, z3, z4, z5⟩
            · exfalso
              have hdg := z4.elim (fun z => absurd z (by decide)) (fun z => z.2)
              have hdx := isD_sg.mp hdg
              have hsk : sks n b a = a := sks_at (by have := (isD_t.mp hdg); omega)
              rw [hsk] at f4
              rw [f4] at f5
              omega
          obtain ⟨hok1, hok2, hok3, hok4⟩ := hok
          have hlt : a_3 < n := by rcases Int.lt_or_le a_3 n with q | q; exact q; (exfalso; rw [sg_ge q] at f5; omega)
          have hsz := hsa hok1
          have hqo := hA0 (a_3 + 1) (by omega) (by omega)
          have ec : sg n b (sks n b acc.2.1) = r_2 := by rw [← hok2, ← f4]; exact f5.symm
          have eA : (termG n b (atomR n b rr)) (sks n b acc.2.1 + 1) = (termG n b (atomR n b rr)) (a_3 + 1) := by rw [← hok2, ← f4]
          have hE2 : Rt = opL n b 43 45 (-1) (-2) (termG n b (atomR n b rr)) (160 - i).toNat (opN acc ((termG n b (atomR n b rr)) (a_3 + 1)) (if sg n b (sks n b acc.2.1) = 43 then (-1) else (-2))) := by rw [hE, show (161 - i).toNat = (160 - i).toNat + 1 by omega, opL_n hok1 (by omega), eA]
          refine Rx.walk 4 (pc' := 48) (L' := [some (.ref 12), some (.ref 1), some (.int (iz dp)), some (.int (iz i)), some (.int (iz r_2))]) (st' := [.int (iz 1), .int (iz a_3), .ref 1]) (h' := cxW (u2 (u2 (u2 z 1 1 n) 1 2 a_3) 12 1 sz) (uf (uf f 2 b) 13 cd) C T rc tl) rfl ?_
          refine Rx.iadd rfl ?_
          refine Rx.walk 4 (pc' := 55) (L' := [some (.ref 12), some (.ref 1), some (.int (iz dp)), some (.int (iz i)), some (.int (iz r_2))]) (st' := [.int (iz dp), .ref 1, .ref 12]) (h' := cxW (u2 (u2 (u2 z 1 1 n) 1 2 (a_3 + 1)) 12 1 sz) (uf (uf f 2 b) 13 cd) C T rc tl) rfl ?_
          refine Rx.callx (m' := m_X6_readsTerm) (as := [.ref 12, .ref 1, .int (iz dp)]) (rest := []) rfl (hT_ _ (u2 (u2 (u2 z 1 1 n) 1 2 (a_3 + 1)) 12 1 sz) (uf (uf f 2 b) 13 cd) C T rc tl  dp n (a_3 + 1) b sz cd hT ⟨by omega, by omega⟩ ⟨by omega, by omega⟩ hdp) (fun v42 h43 q44 => ?_)
          obtain ⟨r_36, a_37, sz_38, cd_39, rfl, rfl, f40, f41⟩ := q44
          refine Rx.walk 0 (pc' := 58) (L' := [some (.ref 12), some (.ref 1), some (.int (iz dp)), some (.int (iz i)), some (.int (iz r_2))]) (st' := [.int (iz r_36)]) (h' := cxW (u2 (u2 (u2 z 1 1 n) 1 2 a_37) 12 1 sz_38) (uf (uf f 2 b) 13 cd_39) C T rc tl) rfl ?_
          obtain ⟨hq1, hq2, hq3⟩ := id f41
          refine Rx.ne1 rfl rfl ⟨by omega, by omega⟩ (fun b45 => ?_) (fun b45 => ?_)
          · refine Rx.walk 3 (pc' := 68) (L' := [some (.ref 12), some (.ref 1), some (.int (iz dp)), some (.int (iz i)), some (.int (iz r_2))]) (st' := [.int (iz 43), .int (iz r_2), .ref 12]) (h' := cxW (u2 (u2 (u2 z 1 1 n) 1 2 a_37) 12 1 sz_38) (uf (uf f 2 b) 13 cd_39) C T rc tl) rfl ?_
            refine Rx.ne2 rfl rfl ⟨by omega, by omega⟩ ⟨by omega, by omega⟩ (fun b46 => ?_) (fun b46 => ?_)
            · refine Rx.walk 1 (pc' := 77) (L' := [some (.ref 12), some (.ref 1), some (.int (iz dp)), some (.int (iz i)), some (.int (iz r_2))]) (st' := [.int (iz (-2)), .ref 12]) (h' := cxW (u2 (u2 (u2 z 1 1 n) 1 2 a_37) 12 1 sz_38) (uf (uf f 2 b) 13 cd_39) C T rc tl) rfl ?_
              refine Rx.callx (m' := m_X6_emit) (as := [.ref 12, .int (iz (-2))]) (rest := []) rfl (x_emit _ (u2 (u2 (u2 z 1 1 n) 1 2 a_37) 12 1 sz_38) (uf (uf f 2 b) 13 cd_39) C T rc tl  (-2) sz_38 cd_39 (by first | assumption | omega)) (fun v50 h51 q52 => ?_)
              obtain ⟨sz_47, cd_48, rfl, rfl, f49⟩ := q52
              refine Rx.walk 0 (pc' := 80) (L' := [some (.ref 12), some (.ref 1), some (.int (iz dp)), some (.int (iz i)), some (.int (iz r_2))]) (st' := []) (h' := cxW (u2 (u2 (u2 z 1 1 n) 1 2 a_37) 12 1 sz_47) (uf (uf f 2 b) 13 cd_48) C T rc tl) rfl ?_
              have heb : 0 ≤ sz_47 ∧ sz_47 ≤ 161 := by rcases f49 with z | z <;> omega
              refine Rx.iinc (b := 1) rfl rfl rfl ?_
              refine Rx.walk 0 (pc' := 83) (L' := [some (.ref 12), some (.ref 1), some (.int (iz dp)), some (.int (iz (i + 1))), some (.int (iz r_2))]) (st' := []) (h' := cxW (u2 (u2 (u2 z 1 1 n) 1 2 a_37) 12 1 sz_47) (uf (uf f 2 b) 13 cd_48) C T rc tl) rfl ?_
              refine Rx.walk 1 (pc' := 13) (L' := [some (.ref 12), some (.ref 1), some (.int (iz dp)), some (.int (iz (i + 1))), some (.int (iz r_2))]) (st' := []) (h' := cxW (u2 (u2 (u2 z 1 1 n) 1 2 a_37) 12 1 sz_47) (uf (uf f 2 b) 13 cd_48) C T rc tl) rfl ?_
              exact ih (i + 1) a_37 sz_47 cd_48 (opN acc ((termG n b (atomR n b rr)) (a_3 + 1)) (-2)) (some (.int (iz r_2))) ⟨by omega, by omega⟩ (by first | assumption | omega) ⟨by omega, by omega, by omega⟩ ⟨by omega, by omega⟩ (rdR_op (op := -2) hz0.1 hok3 hok4 (by have z := f40; rw [show r_36 = 1 by omega] at z; exact z) f49 (fun z => by rcases f40 with y | y; (have := hqo.2.2 z; have := y.2.2.2.1; omega); exact absurd (z.symm.trans y.1) (by decide))) (fun z => by have hq : ((termG n b (atomR n b rr)) (a_3 + 1)).1 = true := (by unfold opN at z; split at z; assumption; exact absurd z (by simp [rsF])); have := hqo.2.2 hq; rcases f40 with y | y; (have := y.2.2.2.1; have := y.2.2.1; rcases f49 with x | x <;> omega); exact absurd (hq.symm.trans y.1) (by decide)) (by rw [hE2, if_neg (by omega), show (161 - (i + 1)).toNat = (160 - i).toNat by omega]) (by first | assumption | omega) 
            · refine Rx.walk 2 (pc' := 77) (L' := [some (.ref 12), some (.ref 1), some (.int (iz dp)), some (.int (iz i)), some (.int (iz r_2))]) (st' := [.int (iz (-1)), .ref 12]) (h' := cxW (u2 (u2 (u2 z 1 1 n) 1 2 a_37) 12 1 sz_38) (uf (uf f 2 b) 13 cd_39) C T rc tl) rfl ?_
              refine Rx.callx (m' := m_X6_emit) (as := [.ref 12, .int (iz (-1))]) (rest := []) rfl (x_emit _ (u2 (u2 (u2 z 1 1 n) 1 2 a_37) 12 1 sz_38) (uf (uf f 2 b) 13 cd_39) C T rc tl  (-1) sz_38 cd_39 (by first | assumption | omega)) (fun v56 h57 q58 => ?_)
              obtain ⟨sz_53, cd_54, rfl, rfl, f55⟩ := q58
              refine Rx.walk 0 (pc' := 80) (L' := [some (.ref 12), some (.ref 1), some (.int (iz dp)), some (.int (iz i)), some (.int (iz r_2))]) (st' := []) (h' := cxW (u2 (u2 (u2 z 1 1 n) 1 2 a_37) 12 1 sz_53) (uf (uf f 2 b) 13 cd_54) C T rc tl) rfl ?_
              have heb : 0 ≤ sz_53 ∧ sz_53 ≤ 161 := by rcases f55 with z | z <;> omega
              refine Rx.iinc (b := 1) rfl rfl rfl ?_
              refine Rx.walk 0 (pc' := 83) (L' := [some (.ref 12), some (.ref 1), some (.int (iz dp)), some (.int (iz (i + 1))), some (.int (iz r_2))]) (st' := []) (h' := cxW (u2 (u2 (u2 z 1 1 n) 1 2 a_37) 12 1 sz_53) (uf (uf f 2 b) 13 cd_54) C T rc tl) rfl ?_
              refine Rx.walk 1 (pc' := 13) (L' := [some (.ref 12), some (.ref 1), some (.int (iz dp)), some (.int (iz (i + 1))), some (.int (iz r_2))]) (st' := []) (h' := cxW (u2 (u2 (u2 z 1 1 n) 1 2 a_37) 12 1 sz_53) (uf (uf f 2 b) 13 cd_54) C T rc tl) rfl ?_
              exact ih (i + 1) a_37 sz_53 cd_54 (opN acc ((termG n b (atomR n b rr)) (a_3 + 1)) (-1)) (some (.int (iz r_2))) ⟨by omega, by omega⟩ (by first | assumption | omega) ⟨by omega, by omega, by omega⟩ ⟨by omega, by omega⟩ (rdR_op (op := -1) hz0.1 hok3 hok4 (by have z := f40; rw [show r_36 = 1 by omega] at z; exact z) f55 (fun z => by rcases f40 with y | y; (have := hqo.2.2 z; have := y.2.2.2.1; omega); exact absurd (z.symm.trans y.1) (by decide))) (fun z => by have hq : ((termG n b (atomR n b rr)) (a_3 + 1)).1 = true := (by unfold opN at z; split at z; assumption; exact absurd z (by simp [rsF])); have := hqo.2.2 hq; rcases f40 with y | y; (have := y.2.2.2.1; have := y.2.2.1; rcases f55 with x | x <;> omega); exact absurd (hq.symm.trans y.1) (by decide)) (by rw [hE2, if_pos (by omega), show (161 - (i + 1)).toNat = (160 - i).toNat by omega]) (by first | assumption | omega) 
          · refine Rx.walk 1 (pc' := 62) (L' := [some (.ref 12), some (.ref 1), some (.int (iz dp)), some (.int (iz i)), some (.int (iz r_2))]) (st' := [.int (iz 0)]) (h' := cxW (u2 (u2 (u2 z 1 1 n) 1 2 a_37) 12 1 sz_38) (uf (uf f 2 b) 13 cd_39) C T rc tl) rfl ?_
            refine Rx.ret rfl ?_
            exact hx0 _ _ _ _ (by rcases f40 with z | ⟨z1, z2, z3, z4⟩; (exfalso; have := z.2.1; omega); (rw [hE2]; have e : (opN acc ((termG n b (atomR n b rr)) (a_3 + 1)) (if sg n b (sks n b acc.2.1) = 43 then (-1) else (-2))) = rsF ((termG n b (atomR n b rr)) (a_3 + 1)).2.1 := (by unfold opN; rw [if_neg (by rw [z1]; decide)]); rw [e, opL_f rfl]; exact Or.inr ⟨rfl, z2, z3, Or.inl rfl⟩)) ⟨Or.inl rfl, by omega, by omega⟩
        · refine Rx.walk 1 (pc' := 41) (L' := [some (.ref 12), some (.ref 1), some (.int (iz dp)), some (.int (iz i)), some (.int (iz r_2))]) (st' := [.int (iz 1)]) (h' := cxW (u2 (u2 (u2 z 1 1 n) 1 2 a_3) 12 1 sz) (uf (uf f 2 b) 13 cd) C T rc tl) rfl ?_
          refine Rx.ret rfl ?_
          exact hx0 _ _ _ _ (by rcases hR with ⟨z1, z2, z3, z4, z5⟩ | ⟨z1, z2, z3, z4⟩; (have ec : sg n b (sks n b acc.2.1) = r_2 := (by rw [← z3, ← f4]; exact f5.symm); rw [hE, show (161 - i).toNat = (160 - i).toNat + 1 by omega, opL_e z1 (by omega) (by omega)]; exact Or.inl ⟨rfl, rfl, by rw [← z3]; exact f4, z4, z5⟩); (have hdg := z4.elim (fun z => absurd z (by decide)) (fun z => z.2); have hsk : sks n b a = a := sks_at (by have := (isD_t.mp hdg); omega); rw [hE, opL_f z1]; exact Or.inr ⟨z1, by rw [f4, hsk]; exact z2, z3, Or.inr ⟨rfl, by rw [f4, hsk]; exact hdg⟩⟩)) ⟨Or.inr rfl, by omega, by omega⟩
set_option maxRecDepth 100000 in
set_option maxHeartbeats 4000000 in
theorem x_rSum (d : Nat) (z : Nat → Nat → Int) (f : Nat → Int → Int) (C : Nat → CuR) (T : Nat → TsR) (rc : Nat → Nat) (tl : AmH) (D rr : Nat) (hT_ : ∀ (d : Nat) (z : Nat → Nat → Int) (f : Nat → Int → Int) (C : Nat → CuR) (T : Nat → TsR) (rc : Nat → Nat) (tl : AmH)  (dp : Int) (n : Int) (a : Int) (b : Int → Int) (sz : Int) (cd : Int → Int) (hT : tOK n b) (ha : 0 ≤ a ∧ a ≤ n) (hs : 0 ≤ sz ∧ sz ≤ a) (hdp : 0 ≤ dp ∧ dp = 6 - (rr : Int)), Rx (d + (D + 2)) m_X6_readsTerm 0 (am_ent [.ref 12, .ref 1, .int (iz dp)] 5) [] (cxW (u2 (u2 (u2 z 1 1 n) 1 2 a) 12 1 sz) (uf (uf f 2 b) 13 cd) C T rc tl) (fun rv h => ∃ r : Int, ∃ a' : Int, ∃ sz' : Int, ∃ cd' : Int → Int, rv = some (.int (iz r)) ∧ h = cxW (u2 (u2 (u2 z 1 1 n) 1 2 a') 12 1 sz') (uf (uf f 2 b) 13 cd') C T rc tl ∧ rdR n b (termG n b (atomR n b rr) a) sz cd r a' sz' cd' ∧ ((r = 0 ∨ r = 1) ∧ (a ≤ a' ∧ a' ≤ n) ∧ (0 ≤ sz' ∧ sz' ≤ 161)))) (dp : Int) (n : Int) (a : Int) (b : Int → Int) (sz : Int) (cd : Int → Int) (hT : tOK n b) (ha : 0 ≤ a ∧ a ≤ n) (hs : 0 ≤ sz ∧ sz ≤ a) (hdp : 0 ≤ dp ∧ dp = 6 - (rr : Int)) : Rx (d + (D + 3)) m_X6_readsSum 0 (am_ent [.ref 12, .ref 1, .int (iz dp)] 5) [] (cxW (u2 (u2 (u2 z 1 1 n) 1 2 a) 12 1 sz) (uf (uf f 2 b) 13 cd) C T rc tl) (fun rv h => ∃ r : Int, ∃ a' : Int, ∃ sz' : Int, ∃ cd' : Int → Int, rv = some (.int (iz r)) ∧ h = cxW (u2 (u2 (u2 z 1 1 n) 1 2 a') 12 1 sz') (uf (uf f 2 b) 13 cd') C T rc tl ∧ rdR n b (sumG n b (atomR n b rr) a) sz cd r a' sz' cd' ∧ ((r = 0 ∨ r = 1) ∧ (a ≤ a' ∧ a' ≤ n) ∧ (0 ≤ sz' ∧ sz' ≤ 161))) := by
  obtain ⟨hT1, hT2, hT3⟩ := id hT
  have hrr : 0 ≤ (rr : Int) := by omega
  refine Rx.walk 0 (pc' := 0) (L' := [some (.ref 12), some (.ref 1), some (.int (iz dp)), none, none]) (st' := []) (h' := cxW (u2 (u2 (u2 z 1 1 n) 1 2 a) 12 1 sz) (uf (uf f 2 b) 13 cd) C T rc tl) rfl ?_
  refine Rx.walk 3 (pc' := 3) (L' := [some (.ref 12), some (.ref 1), some (.int (iz dp)), none, none]) (st' := [.int (iz dp), .ref 1, .ref 12]) (h' := cxW (u2 (u2 (u2 z 1 1 n) 1 2 a) 12 1 sz) (uf (uf f 2 b) 13 cd) C T rc tl) rfl ?_
  refine Rx.callx (m' := m_X6_readsTerm) (as := [.ref 12, .ref 1, .int (iz dp)]) (rest := []) rfl (hT_ _ (u2 (u2 (u2 z 1 1 n) 1 2 a) 12 1 sz) (uf (uf f 2 b) 13 cd) C T rc tl  dp n a b sz cd hT ha hs hdp) (fun v7 h8 q9 => ?_)
  obtain ⟨r_1, a_2, sz_3, cd_4, rfl, rfl, f5, f6⟩ := q9
  refine Rx.walk 0 (pc' := 6) (L' := [some (.ref 12), some (.ref 1), some (.int (iz dp)), none, none]) (st' := [.int (iz r_1)]) (h' := cxW (u2 (u2 (u2 z 1 1 n) 1 2 a_2) 12 1 sz_3) (uf (uf f 2 b) 13 cd_4) C T rc tl) rfl ?_
  obtain ⟨hq1, hq2, hq3⟩ := id f6
  refine Rx.ne1 rfl rfl ⟨by omega, by omega⟩ (fun b10 => ?_) (fun b10 => ?_)
  · refine Rx.walk 2 (pc' := 13) (L' := [some (.ref 12), some (.ref 1), some (.int (iz dp)), some (.int (iz 0)), none]) (st' := []) (h' := cxW (u2 (u2 (u2 z 1 1 n) 1 2 a_2) 12 1 sz_3) (uf (uf f 2 b) 13 cd_4) C T rc tl) rfl ?_
    have hok : rdOK n (termG n b (atomR n b rr)) := opG_ok (o1 := 42) (o2 := 47) (e1 := -3) (e2 := -4) (b := b) (atomR_ok (n := n) (b := b) rr) (by decide) (by decide)
    have hqo := hok a ha.1 ha.2
    refine x_rSum_l _ (u2 (u2 (u2 z 1 1 n) 1 2 a_2) 12 1 sz_3) (uf (uf f 2 b) 13 cd_4) C T rc tl D rr hT_ dp n b sz cd a (sumG n b (atomR n b rr) a) hT hdp hs hok _ ?_ ((160 - 0) + 1 : Int).toNat 0 a_2 sz_3 cd_4 ((termG n b (atomR n b rr)) a) none ⟨by omega, by omega⟩ (by omega) ⟨by omega, by omega, by omega⟩ ⟨by omega, by omega⟩ (by have z := f5; rw [show r_1 = 1 by omega] at z; exact z) (fun z => by rcases f5 with y | y; (have := hqo.2.2 z; have := y.2.2.2.1; have := y.2.2.1; omega); exact absurd (z.symm.trans y.1) (by decide)) rfl (by omega) 
    intro r_11 a_12 sz_13 cd_14 f15 f16
    show (fun (rv : Option Value) (h : AmH) => ∃ r : Int, ∃ a' : Int, ∃ sz' : Int, ∃ cd' : Int → Int, rv = some (.int (iz r)) ∧ h = cxW (u2 (u2 (u2 z 1 1 n) 1 2 a') 12 1 sz') (uf (uf f 2 b) 13 cd') C T rc tl ∧ rdR n b (sumG n b (atomR n b rr) a) sz cd r a' sz' cd' ∧ ((r = 0 ∨ r = 1) ∧ (a ≤ a' ∧ a' ≤ n) ∧ (0 ≤ sz' ∧ sz' ≤ 161))) (some (Value.int (iz r_11))) (cxW (u2 (u2 (u2 z 1 1 n) 1 2 a_12) 12 1 sz_13) (uf (uf f 2 b) 13 cd_14) C T rc tl)
    exact ⟨_, _, _, _, rfl, rfl, f15, f16⟩
  · refine Rx.walk 1 (pc' := 10) (L' := [some (.ref 12), some (.ref 1), some (.int (iz dp)), none, none]) (st' := [.int (iz 0)]) (h' := cxW (u2 (u2 (u2 z 1 1 n) 1 2 a_2) 12 1 sz_3) (uf (uf f 2 b) 13 cd_4) C T rc tl) rfl ?_
    refine Rx.ret rfl ?_
    refine ⟨_, _, _, _, rfl, rfl, ?_, Or.inl rfl, by omega, by omega⟩
    rcases f5 with z | ⟨z1, z2, z3, z4⟩
    · exfalso; have := z.2.1; omega
    · rw [show sumG n b (atomR n b rr) a = (termG n b (atomR n b rr)) a from opL_f z1]
      exact Or.inr ⟨z1, z2, z3, Or.inl rfl⟩

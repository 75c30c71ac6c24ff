/-! rules read by the model: units (printed by wip/whole/genmunt.py) -/
set_option maxRecDepth 100000 in
set_option maxHeartbeats 4000000 in
theorem m_rUnit0_1 (d : Nat) (z : Nat → Int) (zl : Nat → Int) (f : Nat → Int → Int) (fl : Nat → Int → Int) (tx : Nat) (D : Nat) (hK : ∀ (d : Nat) (z : Nat → Int) (zl : Nat → Int) (f : Nat → Int → Int) (fl : Nat → Int → Int) (tx : Nat)  (dp : Int) (n : Int) (a : Int) (bg : Int) (tb : Int → Int) (b : Int → Int) (lt : Int → Int) (hT : tOK n b) (hM : mOK n bg 160 tb b) (ha : 0 ≤ a ∧ a ≤ n) (hL : ∀ k : Int, 0 ≤ k → k < 128 → -1000000 ≤ lt k ∧ lt k ≤ 1000000) (hdp : 0 ≤ dp ∧ dp = 6 - ((0 : Nat) : Int)), Rx (d + (D + 2)) m_X12_compares 0 (am_ent [.ref 0, .int (iz 0), .int (iz 0)] 6) [] (cmH (u1 (u1 (u1 (u1 (u1 z 8 bg) 9 n) 10 a) 11 (-1)) 12 dp) zl (uf (uf f 1 tb) 4 lt) fl 1) (fun rv h => ∃ r : Int, ∃ a' : Int, ∃ fa' : Int, ∃ dp' : Int, rv = some (.int (iz r)) ∧ h = cmH (u1 (u1 (u1 (u1 (u1 z 8 bg) 9 n) 10 a') 11 fa') 12 dp') zl (uf (uf f 1 tb) 4 lt) fl 1 ∧ mdR (cmpG n b (sumR n b 0) (sumR n b 0 a)) (ltL lt) dp r a' fa' dp' ∧ ((a ≤ a' ∧ a' ≤ n) ∧ (fa' = -1 ∨ (0 ≤ fa' ∧ fa' ≤ 160)) ∧ (r = 0 ∨ r = 1)))) (dp : Int) (n : Int) (a : Int) (bg : Int) (tb : Int → Int) (b : Int → Int) (lt : Int → Int) (hT : tOK n b) (hM : mOK n bg 160 tb b) (ha : 0 ≤ a ∧ a ≤ n) (hL : ∀ k : Int, 0 ≤ k → k < 128 → -1000000 ≤ lt k ∧ lt k ≤ 1000000) (hdp : dp = 6) : Rx (d + (D + 3)) m_X12_unit 0 (am_ent [.ref 0] 3) [] (cmH (u1 (u1 (u1 (u1 (u1 z 8 bg) 9 n) 10 a) 11 (-1)) 12 dp) zl (uf (uf f 1 tb) 4 lt) fl 1) (fun rv h => ∃ r : Int, ∃ a' : Int, ∃ fa' : Int, ∃ dp' : Int, rv = some (.int (iz r)) ∧ h = cmH (u1 (u1 (u1 (u1 (u1 z 8 bg) 9 n) 10 a') 11 fa') 12 dp') zl (uf (uf f 1 tb) 4 lt) fl 1 ∧ mdR (unitR n b 0 a) (ltL lt) dp r a' fa' dp' ∧ ((a ≤ a' ∧ a' ≤ n) ∧ (fa' = -1 ∨ (0 ≤ fa' ∧ fa' ≤ 160)) ∧ (r = 0 ∨ r = 1))) := by
  obtain ⟨hT1, hT2, hT3⟩ := id hT
  have hbg := hM.1
  have hbz := hM.2.1
  refine Rx.walk 0 (pc' := 0) (L' := [some (.ref 0), none, none]) (st' := []) (h' := cmH (u1 (u1 (u1 (u1 (u1 z 8 bg) 9 n) 10 a) 11 (-1)) 12 dp) zl (uf (uf f 1 tb) 4 lt) fl 1) rfl ?_
  refine Rx.walk 1 (pc' := 1) (L' := [some (.ref 0), none, none]) (st' := [.ref 0]) (h' := cmH (u1 (u1 (u1 (u1 (u1 z 8 bg) 9 n) 10 a) 11 (-1)) 12 dp) zl (uf (uf f 1 tb) 4 lt) fl 1) rfl ?_
  refine Rx.callx (m' := m_X12_look) (as := [.ref 0]) (rest := []) rfl (m_look1 _ (u1 (u1 (u1 (u1 (u1 z 8 bg) 9 n) 10 a) 11 (-1)) 12 dp) zl (uf (uf f 1 tb) 4 lt) fl 1  n a bg (-1) tb b hT hM ha) (fun v7 h8 q9 => ?_)
  obtain ⟨r_1, a_2, rfl, rfl, f3, f4, f5, f6⟩ := q9
  refine Rx.walk 0 (pc' := 4) (L' := [some (.ref 0), none, none]) (st' := [.int (iz r_1)]) (h' := cmH (u1 (u1 (u1 (u1 (u1 z 8 bg) 9 n) 10 a_2) 11 (-1)) 12 dp) zl (uf (uf f 1 tb) 4 lt) fl 1) rfl ?_
  refine Rx.walk 3 (pc' := 8) (L' := [some (.ref 0), some (.int (iz r_1)), none]) (st' := [.int (iz 33), .int (iz r_1)]) (h' := cmH (u1 (u1 (u1 (u1 (u1 z 8 bg) 9 n) 10 a_2) 11 (-1)) 12 dp) zl (uf (uf f 1 tb) 4 lt) fl 1) rfl ?_
  refine Rx.ne2 rfl rfl ⟨by omega, by omega⟩ ⟨by omega, by omega⟩ (fun b10 => ?_) (fun b10 => ?_)
  · refine Rx.walk 2 (pc' := 48) (L' := [some (.ref 0), some (.int (iz r_1)), none]) (st' := [.int (iz 40), .int (iz r_1)]) (h' := cmH (u1 (u1 (u1 (u1 (u1 z 8 bg) 9 n) 10 a_2) 11 (-1)) 12 dp) zl (uf (uf f 1 tb) 4 lt) fl 1) rfl ?_
    refine Rx.ne2 rfl rfl ⟨by omega, by omega⟩ ⟨by omega, by omega⟩ (fun b11 => ?_) (fun b11 => ?_)
    · refine Rx.walk 3 (pc' := 93) (L' := [some (.ref 0), some (.int (iz r_1)), none]) (st' := [.int (iz 0), .int (iz 0), .ref 0]) (h' := cmH (u1 (u1 (u1 (u1 (u1 z 8 bg) 9 n) 10 a_2) 11 (-1)) 12 dp) zl (uf (uf f 1 tb) 4 lt) fl 1) rfl ?_
      refine Rx.callx (m' := m_X12_compares) (as := [.ref 0, .int (iz 0), .int (iz 0)]) (rest := []) rfl (hK _ (u1 (u1 (u1 (u1 (u1 z 8 bg) 9 n) 10 a_2) 11 (-1)) 12 dp) zl (uf (uf f 1 tb) 4 lt) fl 1  dp n a_2 bg tb b lt hT hM ⟨by omega, by omega⟩ hL ⟨by omega, by omega⟩) (fun v18 h19 q20 => ?_)
      obtain ⟨r_12, a_13, fa_14, dp_15, rfl, rfl, f16, f17⟩ := q20
      refine Rx.walk 0 (pc' := 96) (L' := [some (.ref 0), some (.int (iz r_1)), none]) (st' := [.int (iz r_12)]) (h' := cmH (u1 (u1 (u1 (u1 (u1 z 8 bg) 9 n) 10 a_13) 11 fa_14) 12 dp_15) zl (uf (uf f 1 tb) 4 lt) fl 1) rfl ?_
      obtain ⟨hsa, hsf, hsb⟩ := id f17
      refine Rx.retB rfl rfl (by omega) ?_
      have ec : sg n b (sks n b a) = r_1 := by rw [← f3]; exact f4.symm
      have hUe : unitR n b 0 a = cmpG n b (sumR n b 0) (sumR n b 0 (sks n b a)) := by show unitG n b none (fun a => rsF a) (sumR n b 0) a = cmpG n b (sumR n b 0) (sumR n b 0 (sks n b a)); unfold unitG; exact (if_neg (show ¬ sg n b (sks n b a) = 33 by omega)).trans (if_neg (show ¬ sg n b (sks n b a) = 40 by omega))
      rw [hUe, ← f3]
      exact ⟨_, _, _, _, rfl, rfl, f16, ⟨by omega, by omega⟩, hsf, hsb⟩
    · have hlt : a_2 < n := by rcases Int.lt_or_le a_2 n with q | q; exact q; (exfalso; have e9 := f4; rw [sg_ge q] at e9; omega)
      refine Rx.walk 1 (pc' := 52) (L' := [some (.ref 0), some (.int (iz r_1)), none]) (st' := [.ref 0]) (h' := cmH (u1 (u1 (u1 (u1 (u1 z 8 bg) 9 n) 10 a_2) 11 (-1)) 12 dp) zl (uf (uf f 1 tb) 4 lt) fl 1) rfl ?_
      refine Rx.callx (m' := m_X12_goesIn) (as := [.ref 0]) (rest := []) rfl (m_goesIn _ (u1 (u1 (u1 (u1 (u1 z 8 bg) 9 n) 10 a_2) 11 (-1)) 12 dp) zl (uf (uf f 1 tb) 4 lt) fl 1  a_2 dp ⟨by omega, by omega⟩ ⟨by omega, by omega⟩) (fun v26 h27 q28 => ?_)
      obtain ⟨r_21, a_22, fa_23, dp_24, rfl, rfl, f25⟩ := q28
      refine Rx.walk 0 (pc' := 55) (L' := [some (.ref 0), some (.int (iz r_1)), none]) (st' := [.int (iz r_21)]) (h' := cmH (u1 (u1 (u1 (u1 (u1 z 8 bg) 9 n) 10 a_22) 11 fa_23) 12 dp_24) zl (uf (uf f 1 tb) 4 lt) fl 1) rfl ?_
      refine Rx.ne1 rfl rfl ⟨by omega, by omega⟩ (fun b29 => by omega) (fun b29 => ?_)
      refine Rx.walk 1 (pc' := 59) (L' := [some (.ref 0), some (.int (iz r_1)), none]) (st' := [.int (iz 0)]) (h' := cmH (u1 (u1 (u1 (u1 (u1 z 8 bg) 9 n) 10 a_22) 11 fa_23) 12 dp_24) zl (uf (uf f 1 tb) 4 lt) fl 1) rfl ?_
      refine Rx.ret rfl ?_
      have ec : sg n b (sks n b a) = r_1 := by rw [← f3]; exact f4.symm
      have hUe : unitR n b 0 a = rsF (sks n b a) := by show unitG n b none (fun a => rsF a) (sumR n b 0) a = rsF (sks n b a); unfold unitG; exact (if_neg (show ¬ sg n b (sks n b a) = 33 by omega)).trans (if_pos (show sg n b (sks n b a) = 40 by omega))
      rw [hUe]
      refine ⟨_, _, _, _, rfl, rfl, Or.inr ⟨rfl, by rcases f25 with z | z; (rw [z.2.2.2.1]; exact f3); (exfalso; omega)⟩, ⟨by omega, by omega⟩, by omega, Or.inl rfl⟩
  · have hlt : a_2 < n := by rcases Int.lt_or_le a_2 n with q | q; exact q; (exfalso; have e9 := f4; rw [sg_ge q] at e9; omega)
    refine Rx.walk 1 (pc' := 12) (L' := [some (.ref 0), some (.int (iz r_1)), none]) (st' := [.ref 0]) (h' := cmH (u1 (u1 (u1 (u1 (u1 z 8 bg) 9 n) 10 a_2) 11 (-1)) 12 dp) zl (uf (uf f 1 tb) 4 lt) fl 1) rfl ?_
    refine Rx.callx (m' := m_X12_goesIn) (as := [.ref 0]) (rest := []) rfl (m_goesIn _ (u1 (u1 (u1 (u1 (u1 z 8 bg) 9 n) 10 a_2) 11 (-1)) 12 dp) zl (uf (uf f 1 tb) 4 lt) fl 1  a_2 dp ⟨by omega, by omega⟩ ⟨by omega, by omega⟩) (fun v35 h36 q37 => ?_)
    obtain ⟨r_30, a_31, fa_32, dp_33, rfl, rfl, f34⟩ := q37
    refine Rx.walk 0 (pc' := 15) (L' := [some (.ref 0), some (.int (iz r_1)), none]) (st' := [.int (iz r_30)]) (h' := cmH (u1 (u1 (u1 (u1 (u1 z 8 bg) 9 n) 10 a_31) 11 fa_32) 12 dp_33) zl (uf (uf f 1 tb) 4 lt) fl 1) rfl ?_
    refine Rx.ne1 rfl rfl ⟨by omega, by omega⟩ (fun b38 => by omega) (fun b38 => ?_)
    refine Rx.walk 1 (pc' := 19) (L' := [some (.ref 0), some (.int (iz r_1)), none]) (st' := [.int (iz 0)]) (h' := cmH (u1 (u1 (u1 (u1 (u1 z 8 bg) 9 n) 10 a_31) 11 fa_32) 12 dp_33) zl (uf (uf f 1 tb) 4 lt) fl 1) rfl ?_
    refine Rx.ret rfl ?_
    have ec : sg n b (sks n b a) = r_1 := by rw [← f3]; exact f4.symm
    have hUe : unitR n b 0 a = rsF (sks n b a) := by show unitG n b none (fun a => rsF a) (sumR n b 0) a = rsF (sks n b a); unfold unitG; exact if_pos (show sg n b (sks n b a) = 33 by omega)
    rw [hUe]
    refine ⟨_, _, _, _, rfl, rfl, Or.inr ⟨rfl, by rcases f34 with z | z; (rw [z.2.2.2.1]; exact f3); (exfalso; omega)⟩, ⟨by omega, by omega⟩, by omega, Or.inl rfl⟩
set_option maxRecDepth 100000 in
set_option maxHeartbeats 4000000 in
theorem m_rUnit1_1 (d : Nat) (z : Nat → Int) (zl : Nat → Int) (f : Nat → Int → Int) (fl : Nat → Int → Int) (tx : Nat) (D rr : Nat) (hK : ∀ (d : Nat) (z : Nat → Int) (zl : Nat → Int) (f : Nat → Int → Int) (fl : Nat → Int → Int) (tx : Nat)  (dp : Int) (n : Int) (a : Int) (bg : Int) (tb : Int → Int) (b : Int → Int) (lt : Int → Int) (hT : tOK n b) (hM : mOK n bg 160 tb b) (ha : 0 ≤ a ∧ a ≤ n) (hL : ∀ k : Int, 0 ≤ k → k < 128 → -1000000 ≤ lt k ∧ lt k ≤ 1000000) (hdp : 0 ≤ dp ∧ dp = 6 - ((rr + 1 : Nat) : Int)), Rx (d + (D + 2)) m_X12_compares 0 (am_ent [.ref 0, .int (iz 0), .int (iz 0)] 6) [] (cmH (u1 (u1 (u1 (u1 (u1 z 8 bg) 9 n) 10 a) 11 (-1)) 12 dp) zl (uf (uf f 1 tb) 4 lt) fl 1) (fun rv h => ∃ r : Int, ∃ a' : Int, ∃ fa' : Int, ∃ dp' : Int, rv = some (.int (iz r)) ∧ h = cmH (u1 (u1 (u1 (u1 (u1 z 8 bg) 9 n) 10 a') 11 fa') 12 dp') zl (uf (uf f 1 tb) 4 lt) fl 1 ∧ mdR (cmpG n b (sumR n b (rr + 1)) (sumR n b (rr + 1) a)) (ltL lt) dp r a' fa' dp' ∧ ((a ≤ a' ∧ a' ≤ n) ∧ (fa' = -1 ∨ (0 ≤ fa' ∧ fa' ≤ 160)) ∧ (r = 0 ∨ r = 1)))) (hU : ∀ (d : Nat) (z : Nat → Int) (zl : Nat → Int) (f : Nat → Int → Int) (fl : Nat → Int → Int) (tx : Nat)  (dp : Int) (n : Int) (a : Int) (bg : Int) (tb : Int → Int) (b : Int → Int) (lt : Int → Int) (hT : tOK n b) (hM : mOK n bg 160 tb b) (ha : 0 ≤ a ∧ a ≤ n) (hL : ∀ k : Int, 0 ≤ k → k < 128 → -1000000 ≤ lt k ∧ lt k ≤ 1000000) (hdp : 0 ≤ dp ∧ dp = 6 - (rr : Int)), Rx (d + (D + 2)) m_X12_unit 0 (am_ent [.ref 0] 3) [] (cmH (u1 (u1 (u1 (u1 (u1 z 8 bg) 9 n) 10 a) 11 (-1)) 12 dp) zl (uf (uf f 1 tb) 4 lt) fl 1) (fun rv h => ∃ r : Int, ∃ a' : Int, ∃ fa' : Int, ∃ dp' : Int, rv = some (.int (iz r)) ∧ h = cmH (u1 (u1 (u1 (u1 (u1 z 8 bg) 9 n) 10 a') 11 fa') 12 dp') zl (uf (uf f 1 tb) 4 lt) fl 1 ∧ mdR (unitR n b rr a) (ltL lt) dp r a' fa' dp' ∧ ((a ≤ a' ∧ a' ≤ n) ∧ (fa' = -1 ∨ (0 ≤ fa' ∧ fa' ≤ 160)) ∧ (r = 0 ∨ r = 1)))) (hC : ∀ (d : Nat) (z : Nat → Int) (zl : Nat → Int) (f : Nat → Int → Int) (fl : Nat → Int → Int) (tx : Nat)  (dp : Int) (n : Int) (a : Int) (bg : Int) (tb : Int → Int) (b : Int → Int) (lt : Int → Int) (hT : tOK n b) (hM : mOK n bg 160 tb b) (ha : 0 ≤ a ∧ a ≤ n) (hL : ∀ k : Int, 0 ≤ k → k < 128 → -1000000 ≤ lt k ∧ lt k ≤ 1000000) (hdp : 0 ≤ dp ∧ dp = 6 - (rr : Int)), Rx (d + (D + 2)) m_X12_condition 0 (am_ent [.ref 0, .int (iz 0), .int (iz 0)] 5) [] (cmH (u1 (u1 (u1 (u1 (u1 z 8 bg) 9 n) 10 a) 11 (-1)) 12 dp) zl (uf (uf f 1 tb) 4 lt) fl 1) (fun rv h => ∃ r : Int, ∃ a' : Int, ∃ fa' : Int, ∃ dp' : Int, rv = some (.int (iz r)) ∧ h = cmH (u1 (u1 (u1 (u1 (u1 z 8 bg) 9 n) 10 a') 11 fa') 12 dp') zl (uf (uf f 1 tb) 4 lt) fl 1 ∧ mdR (condG n b (unitR n b rr) a) (ltL lt) dp r a' fa' dp' ∧ ((a ≤ a' ∧ a' ≤ n) ∧ (fa' = -1 ∨ (0 ≤ fa' ∧ fa' ≤ 160)) ∧ (r = 0 ∨ r = 1)))) (dp : Int) (n : Int) (a : Int) (bg : Int) (tb : Int → Int) (b : Int → Int) (lt : Int → Int) (hT : tOK n b) (hM : mOK n bg 160 tb b) (ha : 0 ≤ a ∧ a ≤ n) (hL : ∀ k : Int, 0 ≤ k → k < 128 → -1000000 ≤ lt k ∧ lt k ≤ 1000000) (hdp : 0 ≤ dp ∧ dp = 5 - (rr : Int)) : Rx (d + (D + 3)) m_X12_unit 0 (am_ent [.ref 0] 3) [] (cmH (u1 (u1 (u1 (u1 (u1 z 8 bg) 9 n) 10 a) 11 (-1)) 12 dp) zl (uf (uf f 1 tb) 4 lt) fl 1) (fun rv h => ∃ r : Int, ∃ a' : Int, ∃ fa' : Int, ∃ dp' : Int, rv = some (.int (iz r)) ∧ h = cmH (u1 (u1 (u1 (u1 (u1 z 8 bg) 9 n) 10 a') 11 fa') 12 dp') zl (uf (uf f 1 tb) 4 lt) fl 1 ∧ mdR (unitR n b (rr + 1) a) (ltL lt) dp r a' fa' dp' ∧ ((a ≤ a' ∧ a' ≤ n) ∧ (fa' = -1 ∨ (0 ≤ fa' ∧ fa' ≤ 160)) ∧ (r = 0 ∨ r = 1))) := by
  obtain ⟨hT1, hT2, hT3⟩ := id hT
  have hbg := hM.1
  have hbz := hM.2.1
  have hrr : 0 ≤ (rr : Int) := by omega
  refine Rx.walk 0 (pc' := 0) (L' := [some (.ref 0), none, none]) (st' := []) (h' := cmH (u1 (u1 (u1 (u1 (u1 z 8 bg) 9 n) 10 a) 11 (-1)) 12 dp) zl (uf (uf f 1 tb) 4 lt) fl 1) rfl ?_
  refine Rx.walk 1 (pc' := 1) (L' := [some (.ref 0), none, none]) (st' := [.ref 0]) (h' := cmH (u1 (u1 (u1 (u1 (u1 z 8 bg) 9 n) 10 a) 11 (-1)) 12 dp) zl (uf (uf f 1 tb) 4 lt) fl 1) rfl ?_
  refine Rx.callx (m' := m_X12_look) (as := [.ref 0]) (rest := []) rfl (m_look1 _ (u1 (u1 (u1 (u1 (u1 z 8 bg) 9 n) 10 a) 11 (-1)) 12 dp) zl (uf (uf f 1 tb) 4 lt) fl 1  n a bg (-1) tb b hT hM ha) (fun v7 h8 q9 => ?_)
  obtain ⟨r_1, a_2, rfl, rfl, f3, f4, f5, f6⟩ := q9
  refine Rx.walk 0 (pc' := 4) (L' := [some (.ref 0), none, none]) (st' := [.int (iz r_1)]) (h' := cmH (u1 (u1 (u1 (u1 (u1 z 8 bg) 9 n) 10 a_2) 11 (-1)) 12 dp) zl (uf (uf f 1 tb) 4 lt) fl 1) rfl ?_
  refine Rx.walk 3 (pc' := 8) (L' := [some (.ref 0), some (.int (iz r_1)), none]) (st' := [.int (iz 33), .int (iz r_1)]) (h' := cmH (u1 (u1 (u1 (u1 (u1 z 8 bg) 9 n) 10 a_2) 11 (-1)) 12 dp) zl (uf (uf f 1 tb) 4 lt) fl 1) rfl ?_
  refine Rx.ne2 rfl rfl ⟨by omega, by omega⟩ ⟨by omega, by omega⟩ (fun b10 => ?_) (fun b10 => ?_)
  · refine Rx.walk 2 (pc' := 48) (L' := [some (.ref 0), some (.int (iz r_1)), none]) (st' := [.int (iz 40), .int (iz r_1)]) (h' := cmH (u1 (u1 (u1 (u1 (u1 z 8 bg) 9 n) 10 a_2) 11 (-1)) 12 dp) zl (uf (uf f 1 tb) 4 lt) fl 1) rfl ?_
    refine Rx.ne2 rfl rfl ⟨by omega, by omega⟩ ⟨by omega, by omega⟩ (fun b11 => ?_) (fun b11 => ?_)
    · refine Rx.walk 3 (pc' := 93) (L' := [some (.ref 0), some (.int (iz r_1)), none]) (st' := [.int (iz 0), .int (iz 0), .ref 0]) (h' := cmH (u1 (u1 (u1 (u1 (u1 z 8 bg) 9 n) 10 a_2) 11 (-1)) 12 dp) zl (uf (uf f 1 tb) 4 lt) fl 1) rfl ?_
      refine Rx.callx (m' := m_X12_compares) (as := [.ref 0, .int (iz 0), .int (iz 0)]) (rest := []) rfl (hK _ (u1 (u1 (u1 (u1 (u1 z 8 bg) 9 n) 10 a_2) 11 (-1)) 12 dp) zl (uf (uf f 1 tb) 4 lt) fl 1  dp n a_2 bg tb b lt hT hM ⟨by omega, by omega⟩ hL ⟨by omega, by omega⟩) (fun v18 h19 q20 => ?_)
      obtain ⟨r_12, a_13, fa_14, dp_15, rfl, rfl, f16, f17⟩ := q20
      refine Rx.walk 0 (pc' := 96) (L' := [some (.ref 0), some (.int (iz r_1)), none]) (st' := [.int (iz r_12)]) (h' := cmH (u1 (u1 (u1 (u1 (u1 z 8 bg) 9 n) 10 a_13) 11 fa_14) 12 dp_15) zl (uf (uf f 1 tb) 4 lt) fl 1) rfl ?_
      obtain ⟨hsa, hsf, hsb⟩ := id f17
      refine Rx.retB rfl rfl (by omega) ?_
      have ec : sg n b (sks n b a) = r_1 := by rw [← f3]; exact f4.symm
      have hUe : unitR n b (rr + 1) a = cmpG n b (sumR n b (rr + 1)) (sumR n b (rr + 1) (sks n b a)) := by show unitG n b (some (unitR n b rr)) (condG n b (unitR n b rr)) (sumR n b (rr + 1)) a = cmpG n b (sumR n b (rr + 1)) (sumR n b (rr + 1) (sks n b a)); unfold unitG; exact (if_neg (show ¬ sg n b (sks n b a) = 33 by omega)).trans (if_neg (show ¬ sg n b (sks n b a) = 40 by omega))
      rw [hUe, ← f3]
      exact ⟨_, _, _, _, rfl, rfl, f16, ⟨by omega, by omega⟩, hsf, hsb⟩
    · have hlt : a_2 < n := by rcases Int.lt_or_le a_2 n with q | q; exact q; (exfalso; have e9 := f4; rw [sg_ge q] at e9; omega)
      refine Rx.walk 1 (pc' := 52) (L' := [some (.ref 0), some (.int (iz r_1)), none]) (st' := [.ref 0]) (h' := cmH (u1 (u1 (u1 (u1 (u1 z 8 bg) 9 n) 10 a_2) 11 (-1)) 12 dp) zl (uf (uf f 1 tb) 4 lt) fl 1) rfl ?_
      refine Rx.callx (m' := m_X12_goesIn) (as := [.ref 0]) (rest := []) rfl (m_goesIn _ (u1 (u1 (u1 (u1 (u1 z 8 bg) 9 n) 10 a_2) 11 (-1)) 12 dp) zl (uf (uf f 1 tb) 4 lt) fl 1  a_2 dp ⟨by omega, by omega⟩ ⟨by omega, by omega⟩) (fun v26 h27 q28 => ?_)
      obtain ⟨r_21, a_22, fa_23, dp_24, rfl, rfl, f25⟩ := q28
      refine Rx.walk 0 (pc' := 55) (L' := [some (.ref 0), some (.int (iz r_1)), none]) (st' := [.int (iz r_21)]) (h' := cmH (u1 (u1 (u1 (u1 (u1 z 8 bg) 9 n) 10 a_22) 11 fa_23) 12 dp_24) zl (uf (uf f 1 tb) 4 lt) fl 1) rfl ?_
      refine Rx.ne1 rfl rfl ⟨by omega, by omega⟩ (fun b29 => ?_) (fun b29 => by omega)
      refine Rx.walk 3 (pc' := 63) (L' := [some (.ref 0), some (.int (iz r_1)), none]) (st' := [.int (iz 0), .int (iz 0), .ref 0]) (h' := cmH (u1 (u1 (u1 (u1 (u1 z 8 bg) 9 n) 10 a_22) 11 fa_23) 12 dp_24) zl (uf (uf f 1 tb) 4 lt) fl 1) rfl ?_
      obtain rfl : fa_23 = -1 := by rcases f25 with z | z <;> omega
      refine Rx.callx (m' := m_X12_condition) (as := [.ref 0, .int (iz 0), .int (iz 0)]) (rest := []) rfl (hC _ (u1 (u1 (u1 (u1 (u1 z 8 bg) 9 n) 10 a_22) 11 (-1)) 12 dp_24) zl (uf (uf f 1 tb) 4 lt) fl 1  dp_24 n a_22 bg tb b lt hT hM ⟨by omega, by omega⟩ hL ⟨by omega, by omega⟩) (fun v36 h37 q38 => ?_)
      obtain ⟨r_30, a_31, fa_32, dp_33, rfl, rfl, f34, f35⟩ := q38
      refine Rx.walk 0 (pc' := 66) (L' := [some (.ref 0), some (.int (iz r_1)), none]) (st' := [.int (iz r_30)]) (h' := cmH (u1 (u1 (u1 (u1 (u1 z 8 bg) 9 n) 10 a_31) 11 fa_32) 12 dp_33) zl (uf (uf f 1 tb) 4 lt) fl 1) rfl ?_
      obtain ⟨hsa, hsf, hsb⟩ := id f35
      refine Rx.walk 3 (pc' := 70) (L' := [some (.ref 0), some (.int (iz r_1)), some (.int (iz r_30))]) (st' := [.int (iz 41), .ref 0]) (h' := cmH (u1 (u1 (u1 (u1 (u1 z 8 bg) 9 n) 10 a_31) 11 fa_32) 12 dp_33) zl (uf (uf f 1 tb) 4 lt) fl 1) rfl ?_
      refine Rx.callx (m' := m_X12_takes) (as := [.ref 0, .int (iz 41)]) (rest := []) rfl (m_takes1 _ (u1 (u1 (u1 (u1 (u1 z 8 bg) 9 n) 10 a_31) 11 fa_32) 12 dp_33) zl (uf (uf f 1 tb) 4 lt) fl 1  41 n a_31 bg fa_32 tb b hT hM ⟨by omega, by omega⟩ (by first | assumption | omega) hsf) (fun v45 h46 q47 => ?_)
      obtain ⟨r_39, a_40, fa_41, rfl, rfl, f42, f43, f44⟩ := q47
      refine Rx.walk 0 (pc' := 73) (L' := [some (.ref 0), some (.int (iz r_1)), some (.int (iz r_30))]) (st' := [.int (iz r_39)]) (h' := cmH (u1 (u1 (u1 (u1 (u1 z 8 bg) 9 n) 10 a_40) 11 fa_41) 12 dp_33) zl (uf (uf f 1 tb) 4 lt) fl 1) rfl ?_
      refine Rx.ne1 rfl rfl ⟨by omega, by omega⟩ (fun b48 => ?_) (fun b48 => ?_)
      · refine Rx.walk 4 (pc' := 84) (L' := [some (.ref 0), some (.int (iz r_1)), some (.int (iz r_30))]) (st' := [.int (iz 1), .int (iz dp_33), .ref 0]) (h' := cmH (u1 (u1 (u1 (u1 (u1 z 8 bg) 9 n) 10 a_40) 11 fa_41) 12 dp_33) zl (uf (uf f 1 tb) 4 lt) fl 1) rfl ?_
        refine Rx.isub rfl ?_
        refine Rx.walk 2 (pc' := 89) (L' := [some (.ref 0), some (.int (iz r_1)), some (.int (iz r_30))]) (st' := [.int (iz r_30)]) (h' := cmH (u1 (u1 (u1 (u1 (u1 z 8 bg) 9 n) 10 a_40) 11 fa_41) 12 (dp_33 - 1)) zl (uf (uf f 1 tb) 4 lt) fl 1) rfl ?_
        refine Rx.retB rfl rfl (by omega) ?_
        have ec : sg n b (sks n b a) = r_1 := by rw [← f3]; exact f4.symm
        have hga : a_22 = sks n b a + 1 := by rcases f25 with z | z; (exfalso; omega); (rw [z.2.2.1, f3])
        have hq : mdR (condG n b (unitR n b rr) (sks n b a + 1)) (ltL lt) dp_24 r_30 a_31 fa_32 dp_33 := by have z := f34; rw [hga] at z; exact z
        have hUe : unitR n b (rr + 1) a = clsN n b (condG n b (unitR n b rr) (sks n b a + 1)) 41 := by show unitG n b (some (unitR n b rr)) (condG n b (unitR n b rr)) (sumR n b (rr + 1)) a = clsN n b (condG n b (unitR n b rr) (sks n b a + 1)) 41; unfold unitG; exact (if_neg (show ¬ sg n b (sks n b a) = 33 by omega)).trans (if_pos (show sg n b (sks n b a) = 40 by omega))
        rw [hUe]
        unfold clsN
        rcases f42 with z | z | z
        · rcases hq with ⟨q1, q2, q3, q4, q5⟩ | ⟨q1, q2⟩
          · rw [if_pos q1, if_pos (by rw [← q3]; exact z.2.2.2.1)]
            exact ⟨_, _, _, _, rfl, rfl, Or.inl ⟨rfl, z.2.2.1, by rw [z.2.2.2.2, q3], by rcases f25 with y | y <;> omega, q5⟩, ⟨by omega, by omega⟩, f44, hsb⟩
          · exfalso; have hp := (condG_ok (n := n) (b := b) (unitR_ok (n := n) (b := b) rr) (sks n b a + 1) (by omega) (by omega)).1; omega
        · exfalso; omega
        · exfalso; omega
      · refine Rx.walk 1 (pc' := 77) (L' := [some (.ref 0), some (.int (iz r_1)), some (.int (iz r_30))]) (st' := [.int (iz 0)]) (h' := cmH (u1 (u1 (u1 (u1 (u1 z 8 bg) 9 n) 10 a_40) 11 fa_41) 12 dp_33) zl (uf (uf f 1 tb) 4 lt) fl 1) rfl ?_
        refine Rx.ret rfl ?_
        have ec : sg n b (sks n b a) = r_1 := by rw [← f3]; exact f4.symm
        have hga : a_22 = sks n b a + 1 := by rcases f25 with z | z; (exfalso; omega); (rw [z.2.2.1, f3])
        have hq : mdR (condG n b (unitR n b rr) (sks n b a + 1)) (ltL lt) dp_24 r_30 a_31 fa_32 dp_33 := by have z := f34; rw [hga] at z; exact z
        have hUe : unitR n b (rr + 1) a = clsN n b (condG n b (unitR n b rr) (sks n b a + 1)) 41 := by show unitG n b (some (unitR n b rr)) (condG n b (unitR n b rr)) (sumR n b (rr + 1)) a = clsN n b (condG n b (unitR n b rr) (sks n b a + 1)) 41; unfold unitG; exact (if_neg (show ¬ sg n b (sks n b a) = 33 by omega)).trans (if_pos (show sg n b (sks n b a) = 40 by omega))
        rw [hUe]
        unfold clsN
        rcases hq with ⟨q1, q2, q3, q4, q5⟩ | ⟨q1, q2⟩
        · rcases f42 with z | z | z
          · exfalso; omega
          · rw [if_pos q1, if_neg (by rw [← q3]; exact z.2.2.1)]
            exact ⟨_, _, _, _, rfl, rfl, Or.inr ⟨rfl, z.2.2.2.2.trans (congrArg (sks n b) q3)⟩, ⟨by omega, by omega⟩, f44, Or.inl rfl⟩
          · exact absurd q2 z.1
        · rcases f42 with z | z | z
          · exfalso; omega
          · exfalso; have hp := (condG_ok (n := n) (b := b) (unitR_ok (n := n) (b := b) rr) (sks n b a + 1) (by omega) (by omega)).1; omega
          · rw [if_neg (by rw [q1]; decide)]
            exact ⟨_, _, _, _, rfl, rfl, Or.inr ⟨rfl, z.2.2.2.trans q2⟩, ⟨by omega, by omega⟩, f44, Or.inl rfl⟩
  · have hlt : a_2 < n := by rcases Int.lt_or_le a_2 n with q | q; exact q; (exfalso; have e9 := f4; rw [sg_ge q] at e9; omega)
    refine Rx.walk 1 (pc' := 12) (L' := [some (.ref 0), some (.int (iz r_1)), none]) (st' := [.ref 0]) (h' := cmH (u1 (u1 (u1 (u1 (u1 z 8 bg) 9 n) 10 a_2) 11 (-1)) 12 dp) zl (uf (uf f 1 tb) 4 lt) fl 1) rfl ?_
    refine Rx.callx (m' := m_X12_goesIn) (as := [.ref 0]) (rest := []) rfl (m_goesIn _ (u1 (u1 (u1 (u1 (u1 z 8 bg) 9 n) 10 a_2) 11 (-1)) 12 dp) zl (uf (uf f 1 tb) 4 lt) fl 1  a_2 dp ⟨by omega, by omega⟩ ⟨by omega, by omega⟩) (fun v54 h55 q56 => ?_)
    obtain ⟨r_49, a_50, fa_51, dp_52, rfl, rfl, f53⟩ := q56
    refine Rx.walk 0 (pc' := 15) (L' := [some (.ref 0), some (.int (iz r_1)), none]) (st' := [.int (iz r_49)]) (h' := cmH (u1 (u1 (u1 (u1 (u1 z 8 bg) 9 n) 10 a_50) 11 fa_51) 12 dp_52) zl (uf (uf f 1 tb) 4 lt) fl 1) rfl ?_
    refine Rx.ne1 rfl rfl ⟨by omega, by omega⟩ (fun b57 => ?_) (fun b57 => by omega)
    refine Rx.walk 1 (pc' := 21) (L' := [some (.ref 0), some (.int (iz r_1)), none]) (st' := [.ref 0]) (h' := cmH (u1 (u1 (u1 (u1 (u1 z 8 bg) 9 n) 10 a_50) 11 fa_51) 12 dp_52) zl (uf (uf f 1 tb) 4 lt) fl 1) rfl ?_
    obtain rfl : fa_51 = -1 := by rcases f53 with z | z <;> omega
    refine Rx.callx (m' := m_X12_unit) (as := [.ref 0]) (rest := []) rfl (hU _ (u1 (u1 (u1 (u1 (u1 z 8 bg) 9 n) 10 a_50) 11 (-1)) 12 dp_52) zl (uf (uf f 1 tb) 4 lt) fl 1  dp_52 n a_50 bg tb b lt hT hM ⟨by omega, by omega⟩ hL ⟨by omega, by omega⟩) (fun v64 h65 q66 => ?_)
    obtain ⟨r_58, a_59, fa_60, dp_61, rfl, rfl, f62, f63⟩ := q66
    refine Rx.walk 0 (pc' := 24) (L' := [some (.ref 0), some (.int (iz r_1)), none]) (st' := [.int (iz r_58)]) (h' := cmH (u1 (u1 (u1 (u1 (u1 z 8 bg) 9 n) 10 a_59) 11 fa_60) 12 dp_61) zl (uf (uf f 1 tb) 4 lt) fl 1) rfl ?_
    obtain ⟨hsa, hsf, hsb⟩ := id f63
    refine Rx.walk 5 (pc' := 31) (L' := [some (.ref 0), some (.int (iz r_1)), some (.int (iz r_58))]) (st' := [.int (iz 1), .int (iz dp_61), .ref 0]) (h' := cmH (u1 (u1 (u1 (u1 (u1 z 8 bg) 9 n) 10 a_59) 11 fa_60) 12 dp_61) zl (uf (uf f 1 tb) 4 lt) fl 1) rfl ?_
    refine Rx.isub rfl ?_
    refine Rx.walk 2 (pc' := 36) (L' := [some (.ref 0), some (.int (iz r_1)), some (.int (iz r_58))]) (st' := [.int (iz r_58)]) (h' := cmH (u1 (u1 (u1 (u1 (u1 z 8 bg) 9 n) 10 a_59) 11 fa_60) 12 (dp_61 - 1)) zl (uf (uf f 1 tb) 4 lt) fl 1) rfl ?_
    refine Rx.ne1 rfl rfl ⟨by omega, by omega⟩ (fun b67 => ?_) (fun b67 => ?_)
    · refine Rx.walk 1 (pc' := 44) (L' := [some (.ref 0), some (.int (iz r_1)), some (.int (iz r_58))]) (st' := [.int (iz 0)]) (h' := cmH (u1 (u1 (u1 (u1 (u1 z 8 bg) 9 n) 10 a_59) 11 fa_60) 12 (dp_61 - 1)) zl (uf (uf f 1 tb) 4 lt) fl 1) rfl ?_
      refine Rx.ret rfl ?_
      have ec : sg n b (sks n b a) = r_1 := by rw [← f3]; exact f4.symm
      have hga : a_50 = sks n b a + 1 := by rcases f53 with z | z; (exfalso; omega); (rw [z.2.2.1, f3])
      have hq : mdR (unitR n b rr (sks n b a + 1)) (ltL lt) dp_52 r_58 a_59 fa_60 dp_61 := by have z := f62; rw [hga] at z; exact z
      have hUe : unitR n b (rr + 1) a = notN (unitR n b rr (sks n b a + 1)) := by show unitG n b (some (unitR n b rr)) (condG n b (unitR n b rr)) (sumR n b (rr + 1)) a = notN (unitR n b rr (sks n b a + 1)); unfold unitG; exact if_pos (show sg n b (sks n b a) = 33 by omega)
      rw [hUe]
      unfold notN
      rcases hq with ⟨q1, q2, q3, q4, q5⟩ | ⟨q1, q2⟩
      · rw [if_pos q1]
        refine ⟨_, _, _, _, rfl, rfl, Or.inl ⟨rfl, q2, q3, by rcases f53 with y | y <;> omega, ?_⟩, ⟨by omega, by omega⟩, hsf, Or.inl rfl⟩
        show (0 : Int) = 1 - (unitR n b rr (sks n b a + 1)).2.2.2 (ltL lt)
        rw [← q5]
        omega
      · rw [if_neg (by rw [q1]; decide)]
        exact ⟨_, _, _, _, rfl, rfl, Or.inr ⟨rfl, q2⟩, ⟨by omega, by omega⟩, hsf, Or.inl rfl⟩
    · refine Rx.walk 2 (pc' := 44) (L' := [some (.ref 0), some (.int (iz r_1)), some (.int (iz r_58))]) (st' := [.int (iz 1)]) (h' := cmH (u1 (u1 (u1 (u1 (u1 z 8 bg) 9 n) 10 a_59) 11 fa_60) 12 (dp_61 - 1)) zl (uf (uf f 1 tb) 4 lt) fl 1) rfl ?_
      refine Rx.ret rfl ?_
      have ec : sg n b (sks n b a) = r_1 := by rw [← f3]; exact f4.symm
      have hga : a_50 = sks n b a + 1 := by rcases f53 with z | z; (exfalso; omega); (rw [z.2.2.1, f3])
      have hq : mdR (unitR n b rr (sks n b a + 1)) (ltL lt) dp_52 r_58 a_59 fa_60 dp_61 := by have z := f62; rw [hga] at z; exact z
      have hUe : unitR n b (rr + 1) a = notN (unitR n b rr (sks n b a + 1)) := by show unitG n b (some (unitR n b rr)) (condG n b (unitR n b rr)) (sumR n b (rr + 1)) a = notN (unitR n b rr (sks n b a + 1)); unfold unitG; exact if_pos (show sg n b (sks n b a) = 33 by omega)
      rw [hUe]
      unfold notN
      rcases hq with ⟨q1, q2, q3, q4, q5⟩ | ⟨q1, q2⟩
      · rw [if_pos q1]
        refine ⟨_, _, _, _, rfl, rfl, Or.inl ⟨rfl, q2, q3, by rcases f53 with y | y <;> omega, ?_⟩, ⟨by omega, by omega⟩, hsf, Or.inr rfl⟩
        show (1 : Int) = 1 - (unitR n b rr (sks n b a + 1)).2.2.2 (ltL lt)
        rw [← q5]
        omega
      · rw [if_neg (by rw [q1]; decide)]
        exact ⟨_, _, _, _, rfl, rfl, Or.inr ⟨rfl, q2⟩, ⟨by omega, by omega⟩, hsf, Or.inr rfl⟩
set_option maxRecDepth 100000 in
set_option maxHeartbeats 4000000 in
theorem m_rUnit0_2 (d : Nat) (z : Nat → Int) (zl : Nat → Int) (f : Nat → Int → Int) (fl : Nat → Int → Int) (tx : Nat) (D : Nat) (hK : ∀ (d : Nat) (z : Nat → Int) (zl : Nat → Int) (f : Nat → Int → Int) (fl : Nat → Int → Int) (tx : Nat)  (dp : Int) (n : Int) (a : Int) (bg : Int) (tb : Int → Int) (b : Int → Int) (lt : Int → Int) (hT : tOK n b) (hM : mOK n bg 640 tb b) (ha : 0 ≤ a ∧ a ≤ n) (hL : ∀ k : Int, 0 ≤ k → k < 128 → -1000000 ≤ lt k ∧ lt k ≤ 1000000) (hdp : 0 ≤ dp ∧ dp = 6 - ((0 : Nat) : Int)), Rx (d + (D + 2)) m_X12_compares 0 (am_ent [.ref 0, .int (iz 0), .int (iz 0)] 6) [] (cmH (u1 (u1 (u1 (u1 (u1 z 8 bg) 9 n) 10 a) 11 (-1)) 12 dp) zl (uf (uf f 2 tb) 4 lt) fl 2) (fun rv h => ∃ r : Int, ∃ a' : Int, ∃ fa' : Int, ∃ dp' : Int, rv = some (.int (iz r)) ∧ h = cmH (u1 (u1 (u1 (u1 (u1 z 8 bg) 9 n) 10 a') 11 fa') 12 dp') zl (uf (uf f 2 tb) 4 lt) fl 2 ∧ mdR (cmpG n b (sumR n b 0) (sumR n b 0 a)) (ltL lt) dp r a' fa' dp' ∧ ((a ≤ a' ∧ a' ≤ n) ∧ (fa' = -1 ∨ (0 ≤ fa' ∧ fa' ≤ 160)) ∧ (r = 0 ∨ r = 1)))) (dp : Int) (n : Int) (a : Int) (bg : Int) (tb : Int → Int) (b : Int → Int) (lt : Int → Int) (hT : tOK n b) (hM : mOK n bg 640 tb b) (ha : 0 ≤ a ∧ a ≤ n) (hL : ∀ k : Int, 0 ≤ k → k < 128 → -1000000 ≤ lt k ∧ lt k ≤ 1000000) (hdp : dp = 6) : Rx (d + (D + 3)) m_X12_unit 0 (am_ent [.ref 0] 3) [] (cmH (u1 (u1 (u1 (u1 (u1 z 8 bg) 9 n) 10 a) 11 (-1)) 12 dp) zl (uf (uf f 2 tb) 4 lt) fl 2) (fun rv h => ∃ r : Int, ∃ a' : Int, ∃ fa' : Int, ∃ dp' : Int, rv = some (.int (iz r)) ∧ h = cmH (u1 (u1 (u1 (u1 (u1 z 8 bg) 9 n) 10 a') 11 fa') 12 dp') zl (uf (uf f 2 tb) 4 lt) fl 2 ∧ mdR (unitR n b 0 a) (ltL lt) dp r a' fa' dp' ∧ ((a ≤ a' ∧ a' ≤ n) ∧ (fa' = -1 ∨ (0 ≤ fa' ∧ fa' ≤ 160)) ∧ (r = 0 ∨ r = 1))) := by
  obtain ⟨hT1, hT2, hT3⟩ := id hT
  have hbg := hM.1
  have hbz := hM.2.1
  refine Rx.walk 0 (pc' := 0) (L' := [some (.ref 0), none, none]) (st' := []) (h' := cmH (u1 (u1 (u1 (u1 (u1 z 8 bg) 9 n) 10 a) 11 (-1)) 12 dp) zl (uf (uf f 2 tb) 4 lt) fl 2) rfl ?_
  refine Rx.walk 1 (pc' := 1) (L' := [some (.ref 0), none, none]) (st' := [.ref 0]) (h' := cmH (u1 (u1 (u1 (u1 (u1 z 8 bg) 9 n) 10 a) 11 (-1)) 12 dp) zl (uf (uf f 2 tb) 4 lt) fl 2) rfl ?_
  refine Rx.callx (m' := m_X12_look) (as := [.ref 0]) (rest := []) rfl (m_look2 _ (u1 (u1 (u1 (u1 (u1 z 8 bg) 9 n) 10 a) 11 (-1)) 12 dp) zl (uf (uf f 2 tb) 4 lt) fl 2  n a bg (-1) tb b hT hM ha) (fun v7 h8 q9 => ?_)
  obtain ⟨r_1, a_2, rfl, rfl, f3, f4, f5, f6⟩ := q9
  refine Rx.walk 0 (pc' := 4) (L' := [some (.ref 0), none, none]) (st' := [.int (iz r_1)]) (h' := cmH (u1 (u1 (u1 (u1 (u1 z 8 bg) 9 n) 10 a_2) 11 (-1)) 12 dp) zl (uf (uf f 2 tb) 4 lt) fl 2) rfl ?_
  refine Rx.walk 3 (pc' := 8) (L' := [some (.ref 0), some (.int (iz r_1)), none]) (st' := [.int (iz 33), .int (iz r_1)]) (h' := cmH (u1 (u1 (u1 (u1 (u1 z 8 bg) 9 n) 10 a_2) 11 (-1)) 12 dp) zl (uf (uf f 2 tb) 4 lt) fl 2) rfl ?_
  refine Rx.ne2 rfl rfl ⟨by omega, by omega⟩ ⟨by omega, by omega⟩ (fun b10 => ?_) (fun b10 => ?_)
  · refine Rx.walk 2 (pc' := 48) (L' := [some (.ref 0), some (.int (iz r_1)), none]) (st' := [.int (iz 40), .int (iz r_1)]) (h' := cmH (u1 (u1 (u1 (u1 (u1 z 8 bg) 9 n) 10 a_2) 11 (-1)) 12 dp) zl (uf (uf f 2 tb) 4 lt) fl 2) rfl ?_
    refine Rx.ne2 rfl rfl ⟨by omega, by omega⟩ ⟨by omega, by omega⟩ (fun b11 => ?_) (fun b11 => ?_)
    · refine Rx.walk 3 (pc' := 93) (L' := [some (.ref 0), some (.int (iz r_1)), none]) (st' := [.int (iz 0), .int (iz 0), .ref 0]) (h' := cmH (u1 (u1 (u1 (u1 (u1 z 8 bg) 9 n) 10 a_2) 11 (-1)) 12 dp) zl (uf (uf f 2 tb) 4 lt) fl 2) rfl ?_
      refine Rx.callx (m' := m_X12_compares) (as := [.ref 0, .int (iz 0), .int (iz 0)]) (rest := []) rfl (hK _ (u1 (u1 (u1 (u1 (u1 z 8 bg) 9 n) 10 a_2) 11 (-1)) 12 dp) zl (uf (uf f 2 tb) 4 lt) fl 2  dp n a_2 bg tb b lt hT hM ⟨by omega, by omega⟩ hL ⟨by omega, by omega⟩) (fun v18 h19 q20 => ?_)
      obtain ⟨r_12, a_13, fa_14, dp_15, rfl, rfl, f16, f17⟩ := q20
      refine Rx.walk 0 (pc' := 96) (L' := [some (.ref 0), some (.int (iz r_1)), none]) (st' := [.int (iz r_12)]) (h' := cmH (u1 (u1 (u1 (u1 (u1 z 8 bg) 9 n) 10 a_13) 11 fa_14) 12 dp_15) zl (uf (uf f 2 tb) 4 lt) fl 2) rfl ?_
      obtain ⟨hsa, hsf, hsb⟩ := id f17
      refine Rx.retB rfl rfl (by omega) ?_
      have ec : sg n b (sks n b a) = r_1 := by rw [← f3]; exact f4.symm
      have hUe : unitR n b 0 a = cmpG n b (sumR n b 0) (sumR n b 0 (sks n b a)) := by show unitG n b none (fun a => rsF a) (sumR n b 0) a = cmpG n b (sumR n b 0) (sumR n b 0 (sks n b a)); unfold unitG; exact (if_neg (show ¬ sg n b (sks n b a) = 33 by omega)).trans (if_neg (show ¬ sg n b (sks n b a) = 40 by omega))
      rw [hUe, ← f3]
      exact ⟨_, _, _, _, rfl, rfl, f16, ⟨by omega, by omega⟩, hsf, hsb⟩
    · have hlt : a_2 < n := by rcases Int.lt_or_le a_2 n with q | q; exact q; (exfalso; have e9 := f4; rw [sg_ge q] at e9; omega)
      refine Rx.walk 1 (pc' := 52) (L' := [some (.ref 0), some (.int (iz r_1)), none]) (st' := [.ref 0]) (h' := cmH (u1 (u1 (u1 (u1 (u1 z 8 bg) 9 n) 10 a_2) 11 (-1)) 12 dp) zl (uf (uf f 2 tb) 4 lt) fl 2) rfl ?_
      refine Rx.callx (m' := m_X12_goesIn) (as := [.ref 0]) (rest := []) rfl (m_goesIn _ (u1 (u1 (u1 (u1 (u1 z 8 bg) 9 n) 10 a_2) 11 (-1)) 12 dp) zl (uf (uf f 2 tb) 4 lt) fl 2  a_2 dp ⟨by omega, by omega⟩ ⟨by omega, by omega⟩) (fun v26 h27 q28 => ?_)
      obtain ⟨r_21, a_22, fa_23, dp_24, rfl, rfl, f25⟩ := q28
      refine Rx.walk 0 (pc' := 55) (L' := [some (.ref 0), some (.int (iz r_1)), none]) (st' := [.int (iz r_21)]) (h' := cmH (u1 (u1 (u1 (u1 (u1 z 8 bg) 9 n) 10 a_22) 11 fa_23) 12 dp_24) zl (uf (uf f 2 tb) 4 lt) fl 2) rfl ?_
      refine Rx.ne1 rfl rfl ⟨by omega, by omega⟩ (fun b29 => by omega) (fun b29 => ?_)
      refine Rx.walk 1 (pc' := 59) (L' := [some (.ref 0), some (.int (iz r_1)), none]) (st' := [.int (iz 0)]) (h' := cmH (u1 (u1 (u1 (u1 (u1 z 8 bg) 9 n) 10 a_22) 11 fa_23) 12 dp_24) zl (uf (uf f 2 tb) 4 lt) fl 2) rfl ?_
      refine Rx.ret rfl ?_
      have ec : sg n b (sks n b a) = r_1 := by rw [← f3]; exact f4.symm
      have hUe : unitR n b 0 a = rsF (sks n b a) := by show unitG n b none (fun a => rsF a) (sumR n b 0) a = rsF (sks n b a); unfold unitG; exact (if_neg (show ¬ sg n b (sks n b a) = 33 by omega)).trans (if_pos (show sg n b (sks n b a) = 40 by omega))
      rw [hUe]
      refine ⟨_, _, _, _, rfl, rfl, Or.inr ⟨rfl, by rcases f25 with z | z; (rw [z.2.2.2.1]; exact f3); (exfalso; omega)⟩, ⟨by omega, by omega⟩, by omega, Or.inl rfl⟩
  · have hlt : a_2 < n := by rcases Int.lt_or_le a_2 n with q | q; exact q; (exfalso; have e9 := f4; rw [sg_ge q] at e9; omega)
    refine Rx.walk 1 (pc' := 12) (L' := [some (.ref 0), some (.int (iz r_1)), none]) (st' := [.ref 0]) (h' := cmH (u1 (u1 (u1 (u1 (u1 z 8 bg) 9 n) 10 a_2) 11 (-1)) 12 dp) zl (uf (uf f 2 tb) 4 lt) fl 2) rfl ?_
    refine Rx.callx (m' := m_X12_goesIn) (as := [.ref 0]) (rest := []) rfl (m_goesIn _ (u1 (u1 (u1 (u1 (u1 z 8 bg) 9 n) 10 a_2) 11 (-1)) 12 dp) zl (uf (uf f 2 tb) 4 lt) fl 2  a_2 dp ⟨by omega, by omega⟩ ⟨by omega, by omega⟩) (fun v35 h36 q37 => ?_)
    obtain ⟨r_30, a_31, fa_32, dp_33, rfl, rfl, f34⟩ := q37
    refine Rx.walk 0 (pc' := 15) (L' := [some (.ref 0), some (.int (iz r_1)), none]) (st' := [.int (iz r_30)]) (h' := cmH (u1 (u1 (u1 (u1 (u1 z 8 bg) 9 n) 10 a_31) 11 fa_32) 12 dp_33) zl (uf (uf f 2 tb) 4 lt) fl 2) rfl ?_
    refine Rx.ne1 rfl rfl ⟨by omega, by omega⟩ (fun b38 => by omega) (fun b38 => ?_)
    refine Rx.walk 1 (pc' := 19) (L' := [some (.ref 0), some (.int (iz r_1)), none]) (st' := [.int (iz 0)]) (h' := cmH (u1 (u1 (u1 (u1 (u1 z 8 bg) 9 n) 10 a_31) 11 fa_32) 12 dp_33) zl (uf (uf f 2 tb) 4 lt) fl 2) rfl ?_
    refine Rx.ret rfl ?_
    have ec : sg n b (sks n b a) = r_1 := by rw [← f3]; exact f4.symm
    have hUe : unitR n b 0 a = rsF (sks n b a) := by show unitG n b none (fun a => rsF a) (sumR n b 0) a = rsF (sks n b a); unfold unitG; exact if_pos (show sg n b (sks n b a) = 33 by omega)
    rw [hUe]
    refine ⟨_, _, _, _, rfl, rfl, Or.inr ⟨rfl, by rcases f34 with z | z; (rw [z.2.2.2.1]; exact f3); (exfalso; omega)⟩, ⟨by omega, by omega⟩, by omega, Or.inl rfl⟩
set_option maxRecDepth 100000 in
set_option maxHeartbeats 4000000 in
theorem m_rUnit1_2 (d : Nat) (z : Nat → Int) (zl : Nat → Int) (f : Nat → Int → Int) (fl : Nat → Int → Int) (tx : Nat) (D rr : Nat) (hK : ∀ (d : Nat) (z : Nat → Int) (zl : Nat → Int) (f : Nat → Int → Int) (fl : Nat → Int → Int) (tx : Nat)  (dp : Int) (n : Int) (a : Int) (bg : Int) (tb : Int → Int) (b : Int → Int) (lt : Int → Int) (hT : tOK n b) (hM : mOK n bg 640 tb b) (ha : 0 ≤ a ∧ a ≤ n) (hL : ∀ k : Int, 0 ≤ k → k < 128 → -1000000 ≤ lt k ∧ lt k ≤ 1000000) (hdp : 0 ≤ dp ∧ dp = 6 - ((rr + 1 : Nat) : Int)), Rx (d + (D + 2)) m_X12_compares 0 (am_ent [.ref 0, .int (iz 0), .int (iz 0)] 6) [] (cmH (u1 (u1 (u1 (u1 (u1 z 8 bg) 9 n) 10 a) 11 (-1)) 12 dp) zl (uf (uf f 2 tb) 4 lt) fl 2) (fun rv h => ∃ r : Int, ∃ a' : Int, ∃ fa' : Int, ∃ dp' : Int, rv = some (.int (iz r)) ∧ h = cmH (u1 (u1 (u1 (u1 (u1 z 8 bg) 9 n) 10 a') 11 fa') 12 dp') zl (uf (uf f 2 tb) 4 lt) fl 2 ∧ mdR (cmpG n b (sumR n b (rr + 1)) (sumR n b (rr + 1) a)) (ltL lt) dp r a' fa' dp' ∧ ((a ≤ a' ∧ a' ≤ n) ∧ (fa' = -1 ∨ (0 ≤ fa' ∧ fa' ≤ 160)) ∧ (r = 0 ∨ r = 1)))) (hU : ∀ (d : Nat) (z : Nat → Int) (zl : Nat → Int) (f : Nat → Int → Int) (fl : Nat → Int → Int) (tx : Nat)  (dp : Int) (n : Int) (a : Int) (bg : Int) (tb : Int → Int) (b : Int → Int) (lt : Int → Int) (hT : tOK n b) (hM : mOK n bg 640 tb b) (ha : 0 ≤ a ∧ a ≤ n) (hL : ∀ k : Int, 0 ≤ k → k < 128 → -1000000 ≤ lt k ∧ lt k ≤ 1000000) (hdp : 0 ≤ dp ∧ dp = 6 - (rr : Int)), Rx (d + (D + 2)) m_X12_unit 0 (am_ent [.ref 0] 3) [] (cmH (u1 (u1 (u1 (u1 (u1 z 8 bg) 9 n) 10 a) 11 (-1)) 12 dp) zl (uf (uf f 2 tb) 4 lt) fl 2) (fun rv h => ∃ r : Int, ∃ a' : Int, ∃ fa' : Int, ∃ dp' : Int, rv = some (.int (iz r)) ∧ h = cmH (u1 (u1 (u1 (u1 (u1 z 8 bg) 9 n) 10 a') 11 fa') 12 dp') zl (uf (uf f 2 tb) 4 lt) fl 2 ∧ mdR (unitR n b rr a) (ltL lt) dp r a' fa' dp' ∧ ((a ≤ a' ∧ a' ≤ n) ∧ (fa' = -1 ∨ (0 ≤ fa' ∧ fa' ≤ 160)) ∧ (r = 0 ∨ r = 1)))) (hC : ∀ (d : Nat) (z : Nat → Int) (zl : Nat → Int) (f : Nat → Int → Int) (fl : Nat → Int → Int) (tx : Nat)  (dp : Int) (n : Int) (a : Int) (bg : Int) (tb : Int → Int) (b : Int → Int) (lt : Int → Int) (hT : tOK n b) (hM : mOK n bg 640 tb b) (ha : 0 ≤ a ∧ a ≤ n) (hL : ∀ k : Int, 0 ≤ k → k < 128 → -1000000 ≤ lt k ∧ lt k ≤ 1000000) (hdp : 0 ≤ dp ∧ dp = 6 - (rr : Int)), Rx (d + (D + 2)) m_X12_condition 0 (am_ent [.ref 0, .int (iz 0), .int (iz 0)] 5) [] (cmH (u1 (u1 (u1 (u1 (u1 z 8 bg) 9 n) 10 a) 11 (-1)) 12 dp) zl (uf (uf f 2 tb) 4 lt) fl 2) (fun rv h => ∃ r : Int, ∃ a' : Int, ∃ fa' : Int, ∃ dp' : Int, rv = some (.int (iz r)) ∧ h = cmH (u1 (u1 (u1 (u1 (u1 z 8 bg) 9 n) 10 a') 11 fa') 12 dp') zl (uf (uf f 2 tb) 4 lt) fl 2 ∧ mdR (condG n b (unitR n b rr) a) (ltL lt) dp r a' fa' dp' ∧ ((a ≤ a' ∧ a' ≤ n) ∧ (fa' = -1 ∨ (0 ≤ fa' ∧ fa' ≤ 160)) ∧ (r = 0 ∨ r = 1)))) (dp : Int) (n : Int) (a : Int) (bg : Int) (tb : Int → Int) (b : Int → Int) (lt : Int → Int) (hT : tOK n b) (hM : mOK n bg 640 tb b) (ha : 0 ≤ a ∧ a ≤ n) (hL : ∀ k : Int, 0 ≤ k → k < 128 → -1000000 ≤ lt k ∧ lt k ≤ 1000000) (hdp : 0 ≤ dp ∧ dp = 5 - (rr : Int)) : Rx (d + (D + 3)) m_X12_unit 0 (am_ent [.ref 0] 3) [] (cmH (u1 (u1 (u1 (u1 (u1 z 8 bg) 9 n) 10 a) 11 (-1)) 12 dp) zl (uf (uf f 2 tb) 4 lt) fl 2) (fun rv h => ∃ r : Int, ∃ a' : Int, ∃ fa' : Int, ∃ dp' : Int, rv = some (.int (iz r)) ∧ h = cmH (u1 (u1 (u1 (u1 (u1 z 8 bg) 9 n) 10 a') 11 fa') 12 dp') zl (uf (uf f 2 tb) 4 lt) fl 2 ∧ mdR (unitR n b (rr + 1) a) (ltL lt) dp r a' fa' dp' ∧ ((a ≤ a' ∧ a' ≤ n) ∧ (fa' = -1 ∨ (0 ≤ fa' ∧ fa' ≤ 160)) ∧ (r = 0 ∨ r = 1))) := by
  obtain ⟨hT1, hT2, hT3⟩ := id hT
  have hbg := hM.1
  have hbz := hM.2.1
  have hrr : 0 ≤ (rr : Int) := by omega
  refine Rx.walk 0 (pc' := 0) (L' := [some (.ref 0), none, none]) (st' := []) (h' := cmH (u1 (u1 (u1 (u1 (u1 z 8 bg) 9 n) 10 a) 11 (-1)) 12 dp) zl (uf (uf f 2 tb) 4 lt) fl 2) rfl ?_
  refine Rx.walk 1 (pc' := 1) (L' := [some (.ref 0), none, none]) (st' := [.ref 0]) (h' := cmH (u1 (u1 (u1 (u1 (u1 z 8 bg) 9 n) 10 a) 11 (-1)) 12 dp) zl (uf (uf f 2 tb) 4 lt) fl 2) rfl ?_
  refine Rx.callx (m' := m_X12_look) (as := [.ref 0]) (rest := []) rfl (m_look2 _ (u1 (u1 (u1 (u1 (u1 z 8 bg) 9 n) 10 a) 11 (-1)) 12 dp) zl (uf (uf f 2 tb) 4 lt) fl 2  n a bg (-1) tb b hT hM ha) (fun v7 h8 q9 => ?_)
  obtain ⟨r_1, a_2, rfl, rfl, f3, f4, f5, f6⟩ := q9
  refine Rx.walk 0 (pc' := 4) (L' := [some (.ref 0), none, none]) (st' := [.int (iz r_1)]) (h' := cmH (u1 (u1 (u1 (u1 (u1 z 8 bg) 9 n) 10 a_2) 11 (-1)) 12 dp) zl (uf (uf f 2 tb) 4 lt) fl 2) rfl ?_
  refine Rx.walk 3 (pc' := 8) (L' := [some (.ref 0), some (.int (iz r_1)), none]) (st' := [.int (iz 33), .int (iz r_1)]) (h' := cmH (u1 (u1 (u1 (u1 (u1 z 8 bg) 9 n) 10 a_2) 11 (-1)) 12 dp) zl (uf (uf f 2 tb) 4 lt) fl 2) rfl ?_
  refine Rx.ne2 rfl rfl ⟨by omega, by omega⟩ ⟨by omega, by omega⟩ (fun b10 => ?_) (fun b10 => ?_)
  · refine Rx.walk 2 (pc' := 48) (L' := [some (.ref 0), some (.int (iz r_1)), none]) (st' := [.int (iz 40), .int (iz r_1)]) (h' := cmH (u1 (u1 (u1 (u1 (u1 z 8 bg) 9 n) 10 a_2) 11 (-1)) 12 dp) zl (uf (uf f 2 tb) 4 lt) fl 2) rfl ?_
    refine Rx.ne2 rfl rfl ⟨by omega, by omega⟩ ⟨by omega, by omega⟩ (fun b11 => ?_) (fun b11 => ?_)
    · refine Rx.walk 3 (pc' := 93) (L' := [some (.ref 0), some (.int (iz r_1)), none]) (st' := [.int (iz 0), .int (iz 0), .ref 0]) (h' := cmH (u1 (u1 (u1 (u1 (u1 z 8 bg) 9 n) 10 a_2) 11 (-1)) 12 dp) zl (uf (uf f 2 tb) 4 lt) fl 2) rfl ?_
      refine Rx.callx (m' := m_X12_compares) (as := [.ref 0, .int (iz 0), .int (iz 0)]) (rest := []) rfl (hK _ (u1 (u1 (u1 (u1 (u1 z 8 bg) 9 n) 10 a_2) 11 (-1)) 12 dp) zl (uf (uf f 2 tb) 4 lt) fl 2  dp n a_2 bg tb b lt hT hM ⟨by omega, by omega⟩ hL ⟨by omega, by omega⟩) (fun v18 h19 q20 => ?_)
      obtain ⟨r_12, a_13, fa_14, dp_15, rfl, rfl, f16, f17⟩ := q20
      refine Rx.walk 0 (pc' := 96) (L' := [some (.ref 0), some (.int (iz r_1)), none]) (st' := [.int (iz r_12)]) (h' := cmH (u1 (u1 (u1 (u1 (u1 z 8 bg) 9 n) 10 a_13) 11 fa_14) 12 dp_15) zl (uf (uf f 2 tb) 4 lt) fl 2) rfl ?_
      obtain ⟨hsa, hsf, hsb⟩ := id f17
      refine Rx.retB rfl rfl (by omega) ?_
      have ec : sg n b (sks n b a) = r_1 := by rw [← f3]; exact f4.symm
      have hUe : unitR n b (rr + 1) a = cmpG n b (sumR n b (rr + 1)) (sumR n b (rr + 1) (sks n b a)) := by show unitG n b (some (unitR n b rr)) (condG n b (unitR n b rr)) (sumR n b (rr + 1)) a = cmpG n b (sumR n b (rr + 1)) (sumR n b (rr + 1) (sks n b a)); unfold unitG; exact (if_neg (show ¬ sg n b (sks n b a) = 33 by omega)).trans (if_neg (show ¬ sg n b (sks n b a) = 40 by omega))
      rw [hUe, ← f3]
      exact ⟨_, _, _, _, rfl, rfl, f16, ⟨by omega, by omega⟩, hsf, hsb⟩
    · have hlt : a_2 < n := by rcases Int.lt_or_le a_2 n with q | q; exact q; (exfalso; have e9 := f4; rw [sg_ge q] at e9; omega)
      refine Rx.walk 1 (pc' := 52) (L' := [some (.ref 0), some (.int (iz r_1)), none]) (st' := [.ref 0]) (h' := cmH (u1 (u1 (u1 (u1 (u1 z 8 bg) 9 n) 10 a_2) 11 (-1)) 12 dp) zl (uf (uf f 2 tb) 4 lt) fl 2) rfl ?_
      refine Rx.callx (m' := m_X12_goesIn) (as := [.ref 0]) (rest := []) rfl (m_goesIn _ (u1 (u1 (u1 (u1 (u1 z 8 bg) 9 n) 10 a_2) 11 (-1)) 12 dp) zl (uf (uf f 2 tb) 4 lt) fl 2  a_2 dp ⟨by omega, by omega⟩ ⟨by omega, by omega⟩) (fun v26 h27 q28 => ?_)
      obtain ⟨r_21, a_22, fa_23, dp_24, rfl, rfl, f25⟩ := q28
      refine Rx.walk 0 (pc' := 55) (L' := [some (.ref 0), some (.int (iz r_1)), none]) (st' := [.int (iz r_21)]) (h' := cmH (u1 (u1 (u1 (u1 (u1 z 8 bg) 9 n) 10 a_22) 11 fa_23) 12 dp_24) zl (uf (uf f 2 tb) 4 lt) fl 2) rfl ?_
      refine Rx.ne1 rfl rfl ⟨by omega, by omega⟩ (fun b29 => ?_) (fun b29 => by omega)
      refine Rx.walk 3 (pc' := 63) (L' := [some (.ref 0), some (.int (iz r_1)), none]) (st' := [.int (iz 0), .int (iz 0), .ref 0]) (h' := cmH (u1 (u1 (u1 (u1 (u1 z 8 bg) 9 n) 10 a_22) 11 fa_23) 12 dp_24) zl (uf (uf f 2 tb) 4 lt) fl 2) rfl ?_
      obtain rfl : fa_23 = -1 := by rcases f25 with z | z <;> omega
      refine Rx.callx (m' := m_X12_condition) (as := [.ref 0, .int (iz 0), .int (iz 0)]) (rest := []) rfl (hC _ (u1 (u1 (u1 (u1 (u1 z 8 bg) 9 n) 10 a_22) 11 (-1)) 12 dp_24) zl (uf (uf f 2 tb) 4 lt) fl 2  dp_24 n a_22 bg tb b lt hT hM ⟨by omega, by omega⟩ hL ⟨by omega, by omega⟩) (fun v36 h37 q38 => ?_)
      obtain ⟨r_30, a_31, fa_32, dp_33, rfl, rfl, f34, f35⟩ := q38
      refine Rx.walk 0 (pc' := 66) (L' := [some (.ref 0), some (.int (iz r_1)), none]) (st' := [.int (iz r_30)]) (h' := cmH (u1 (u1 (u1 (u1 (u1 z 8 bg) 9 n) 10 a_31) 11 fa_32) 12 dp_33) zl (uf (uf f 2 tb) 4 lt) fl 2) rfl ?_
      obtain ⟨hsa, hsf, hsb⟩ := id f35
      refine Rx.walk 3 (pc' := 70) (L' := [some (.ref 0), some (.int (iz r_1)), some (.int (iz r_30))]) (st' := [.int (iz 41), .ref 0]) (h' := cmH (u1 (u1 (u1 (u1 (u1 z 8 bg) 9 n) 10 a_31) 11 fa_32) 12 dp_33) zl (uf (uf f 2 tb) 4 lt) fl 2) rfl ?_
      refine Rx.callx (m' := m_X12_takes) (as := [.ref 0, .int (iz 41)]) (rest := []) rfl (m_takes2 _ (u1 (u1 (u1 (u1 (u1 z 8 bg) 9 n) 10 a_31) 11 fa_32) 12 dp_33) zl (uf (uf f 2 tb) 4 lt) fl 2  41 n a_31 bg fa_32 tb b hT hM ⟨by omega, by omega⟩ (by first | assumption | omega) hsf) (fun v45 h46 q47 => ?_)
      obtain ⟨r_39, a_40, fa_41, rfl, rfl, f42, f43, f44⟩ := q47
      refine Rx.walk 0 (pc' := 73) (L' := [some (.ref 0), some (.int (iz r_1)), some (.int (iz r_30))]) (st' := [.int (iz r_39)]) (h' := cmH (u1 (u1 (u1 (u1 (u1 z 8 bg) 9 n) 10 a_40) 11 fa_41) 12 dp_33) zl (uf (uf f 2 tb) 4 lt) fl 2) rfl ?_
      refine Rx.ne1 rfl rfl ⟨by omega, by omega⟩ (fun b48 => ?_) (fun b48 => ?_)
      · refine Rx.walk 4 (pc' := 84) (L' := [some (.ref 0), some (.int (iz r_1)), some (.int (iz r_30))]) (st' := [.int (iz 1), .int (iz dp_33), .ref 0]) (h' := cmH (u1 (u1 (u1 (u1 (u1 z 8 bg) 9 n) 10 a_40) 11 fa_41) 12 dp_33) zl (uf (uf f 2 tb) 4 lt) fl 2) rfl ?_
        refine Rx.isub rfl ?_
        refine Rx.walk 2 (pc' := 89) (L' := [some (.ref 0), some (.int (iz r_1)), some (.int (iz r_30))]) (st' := [.int (iz r_30)]) (h' := cmH (u1 (u1 (u1 (u1 (u1 z 8 bg) 9 n) 10 a_40) 11 fa_41) 12 (dp_33 - 1)) zl (uf (uf f 2 tb) 4 lt) fl 2) rfl ?_
        refine Rx.retB rfl rfl (by omega) ?_
        have ec : sg n b (sks n b a) = r_1 := by rw [← f3]; exact f4.symm
        have hga : a_22 = sks n b a + 1 := by rcases f25 with z | z; (exfalso; omega); (rw [z.2.2.1, f3])
        have hq : mdR (condG n b (unitR n b rr) (sks n b a + 1)) (ltL lt) dp_24 r_30 a_31 fa_32 dp_33 := by have z := f34; rw [hga] at z; exact z
        have hUe : unitR n b (rr + 1) a = clsN n b (condG n b (unitR n b rr) (sks n b a + 1)) 41 := by show unitG n b (some (unitR n b rr)) (condG n b (unitR n b rr)) (sumR n b (rr + 1)) a = clsN n b (condG n b (unitR n b rr) (sks n b a + 1)) 41; unfold unitG; exact (if_neg (show ¬ sg n b (sks n b a) = 33 by omega)).trans (if_pos (show sg n b (sks n b a) = 40 by omega))
        rw [hUe]
        unfold clsN
        rcases f42 with z | z | z
        · rcases hq with ⟨q1, q2, q3, q4, q5⟩ | ⟨q1, q2⟩
          · rw [if_pos q1, if_pos (by rw [← q3]; exact z.2.2.2.1)]
            exact ⟨_, _, _, _, rfl, rfl, Or.inl ⟨rfl, z.2.2.1, by rw [z.2.2.2.2, q3], by rcases f25 with y | y <;> omega, q5⟩, ⟨by omega, by omega⟩, f44, hsb⟩
          · exfalso; have hp := (condG_ok (n := n) (b := b) (unitR_ok (n := n) (b := b) rr) (sks n b a + 1) (by omega) (by omega)).1; omega
        · exfalso; omega
        · exfalso; omega
      · refine Rx.walk 1 (pc' := 77) (L' := [some (.ref 0), some (.int (iz r_1)), some (.int (iz r_30))]) (st' := [.int (iz 0)]) (h' := cmH (u1 (u1 (u1 (u1 (u1 z 8 bg) 9 n) 10 a_40) 11 fa_41) 12 dp_33) zl (uf (uf f 2 tb) 4 lt) fl 2) rfl ?_
        refine Rx.ret rfl ?_
        have ec : sg n b (sks n b a) = r_1 := by rw [← f3]; exact f4.symm
        have hga : a_22 = sks n b a + 1 := by rcases f25 with z | z; (exfalso; omega); (rw [z.2.2.1, f3])
        have hq : mdR (condG n b (unitR n b rr) (sks n b a + 1)) (ltL lt) dp_24 r_30 a_31 fa_32 dp_33 := by have z := f34; rw [hga] at z; exact z
        have hUe : unitR n b (rr + 1) a = clsN n b (condG n b (unitR n b rr) (sks n b a + 1)) 41 := by show unitG n b (some (unitR n b rr)) (condG n b (unitR n b rr)) (sumR n b (rr + 1)) a = clsN n b (condG n b (unitR n b rr) (sks n b a + 1)) 41; unfold unitG; exact (if_neg (show ¬ sg n b (sks n b a) = 33 by omega)).trans (if_pos (show sg n b (sks n b a) = 40 by omega))
        rw [hUe]
        unfold clsN
        rcases hq with ⟨q1, q2, q3, q4, q5⟩ | ⟨q1, q2⟩
        · rcases f42 with z | z | z
          · exfalso; omega
          · rw [if_pos q1, if_neg (by rw [← q3]; exact z.2.2.1)]
            exact ⟨_, _, _, _, rfl, rfl, Or.inr ⟨rfl, z.2.2.2.2.trans (congrArg (sks n b) q3)⟩, ⟨by omega, by omega⟩, f44, Or.inl rfl⟩
          · exact absurd q2 z.1
        · rcases f42 with z | z | z
          · exfalso; omega
          · exfalso; have hp := (condG_ok (n := n) (b := b) (unitR_ok (n := n) (b := b) rr) (sks n b a + 1) (by omega) (by omega)).1; omega
          · rw [if_neg (by rw [q1]; decide)]
            exact ⟨_, _, _, _, rfl, rfl, Or.inr ⟨rfl, z.2.2.2.trans q2⟩, ⟨by omega, by omega⟩, f44, Or.inl rfl⟩
  · have hlt : a_2 < n := by rcases Int.lt_or_le a_2 n with q | q; exact q; (exfalso; have e9 := f4; rw [sg_ge q] at e9; omega)
    refine Rx.walk 1 (pc' := 12) (L' := [some (.ref 0), some (.int (iz r_1)), none]) (st' := [.ref 0]) (h' := cmH (u1 (u1 (u1 (u1 (u1 z 8 bg) 9 n) 10 a_2) 11 (-1)) 12 dp) zl (uf (uf f 2 tb) 4 lt) fl 2) rfl ?_
    refine Rx.callx (m' := m_X12_goesIn) (as := [.ref 0]) (rest := []) rfl (m_goesIn _ (u1 (u1 (u1 (u1 (u1 z 8 bg) 9 n) 10 a_2) 11 (-1)) 12 dp) zl (uf (uf f 2 tb) 4 lt) fl 2  a_2 dp ⟨by omega, by omega⟩ ⟨by omega, by omega⟩) (fun v54 h55 q56 => ?_)
    obtain ⟨r_49, a_50, fa_51, dp_52, rfl, rfl, f53⟩ := q56
    refine Rx.walk 0 (pc' := 15) (L' := [some (.ref 0), some (.int (iz r_1)), none]) (st' := [.int (iz r_49)]) (h' := cmH (u1 (u1 (u1 (u1 (u1 z 8 bg) 9 n) 10 a_50) 11 fa_51) 12 dp_52) zl (uf (uf f 2 tb) 4 lt) fl 2) rfl ?_
    refine Rx.ne1 rfl rfl ⟨by omega, by omega⟩ (fun b57 => ?_) (fun b57 => by omega)
    refine Rx.walk 1 (pc' := 21) (L' := [some (.ref 0), some (.int (iz r_1)), none]) (st' := [.ref 0]) (h' := cmH (u1 (u1 (u1 (u1 (u1 z 8 bg) 9 n) 10 a_50) 11 fa_51) 12 dp_52) zl (uf (uf f 2 tb) 4 lt) fl 2) rfl ?_
    obtain rfl : fa_51 = -1 := by rcases f53 with z | z <;> omega
    refine Rx.callx (m' := m_X12_unit) (as := [.ref 0]) (rest := []) rfl (hU _ (u1 (u1 (u1 (u1 (u1 z 8 bg) 9 n) 10 a_50) 11 (-1)) 12 dp_52) zl (uf (uf f 2 tb) 4 lt) fl 2  dp_52 n a_50 bg tb b lt hT hM ⟨by omega, by omega⟩ hL ⟨by omega, by omega⟩) (fun v64 h65 q66 => ?_)
    obtain ⟨r_58, a_59, fa_60, dp_61, rfl, rfl, f62, f63⟩ := q66
    refine Rx.walk 0 (pc' := 24) (L' := [some (.ref 0), some (.int (iz r_1)), none]) (st' := [.int (iz r_58)]) (h' := cmH (u1 (u1 (u1 (u1 (u1 z 8 bg) 9 n) 10 a_59) 11 fa_60) 12 dp_61) zl (uf (uf f 2 tb) 4 lt) fl 2) rfl ?_
    obtain ⟨hsa, hsf, hsb⟩ := id f63
    refine Rx.walk 5 (pc' := 31) (L' := [some (.ref 0), some (.int (iz r_1)), some (.int (iz r_58))]) (st' := [.int (iz 1), .int (iz dp_61), .ref 0]) (h' := cmH (u1 (u1 (u1 (u1 (u1 z 8 bg) 9 n) 10 a_59) 11 fa_60) 12 dp_61) zl (uf (uf f 2 tb) 4 lt) fl 2) rfl ?_
    refine Rx.isub rfl ?_
    refine Rx.walk 2 (pc' := 36) (L' := [some (.ref 0), some (.int (iz r_1)), some (.int (iz r_58))]) (st' := [.int (iz r_58)]) (h' := cmH (u1 (u1 (u1 (u1 (u1 z 8 bg) 9 n) 10 a_59) 11 fa_60) 12 (dp_61 - 1)) zl (uf (uf f 2 tb) 4 lt) fl 2) rfl ?_
    refine Rx.ne1 rfl rfl ⟨by omega, by omega⟩ (fun b67 => ?_) (fun b67 => ?_)
    · refine Rx.walk 1 (pc' := 44) (L' := [some (.ref 0), some (.int (iz r_1)), some (.int (iz r_58))]) (st' := [.int (iz 0)]) (h' := cmH (u1 (u1 (u1 (u1 (u1 z 8 bg) 9 n) 10 a_59) 11 fa_60) 12 (dp_61 - 1)) zl (uf (uf f 2 tb) 4 lt) fl 2) rfl ?_
      refine Rx.ret rfl ?_
      have ec : sg n b (sks n b a) = r_1 := by rw [← f3]; exact f4.symm
      have hga : a_50 = sks n b a + 1 := by rcases f53 with z | z; (exfalso; omega); (rw [z.2.2.1, f3])
      have hq : mdR (unitR n b rr (sks n b a + 1)) (ltL lt) dp_52 r_58 a_59 fa_60 dp_61 := by have z := f62; rw [hga] at z; exact z
      have hUe : unitR n b (rr + 1) a = notN (unitR n b rr (sks n b a + 1)) := by show unitG n b (some (unitR n b rr)) (condG n b (unitR n b rr)) (sumR n b (rr + 1)) a = notN (unitR n b rr (sks n b a + 1)); unfold unitG; exact if_pos (show sg n b (sks n b a) = 33 by omega)
      rw [hUe]
      unfold notN
      rcases hq with ⟨q1, q2, q3, q4, q5⟩ | ⟨q1, q2⟩
      · rw [if_pos q1]
        refine ⟨_, _, _, _, rfl, rfl, Or.inl ⟨rfl, q2, q3, by rcases f53 with y | y <;> omega, ?_⟩, ⟨by omega, by omega⟩, hsf, Or.inl rfl⟩
        show (0 : Int) = 1 - (unitR n b rr (sks n b a + 1)).2.2.2 (ltL lt)
        rw [← q5]
        omega
      · rw [if_neg (by rw [q1]; decide)]
        exact ⟨_, _, _, _, rfl, rfl, Or.inr ⟨rfl, q2⟩, ⟨by omega, by omega⟩, hsf, Or.inl rfl⟩
    · refine Rx.walk 2 (pc' := 44) (L' := [some (.ref 0), some (.int (iz r_1)), some (.int (iz r_58))]) (st' := [.int (iz 1)]) (h' := cmH (u1 (u1 (u1 (u1 (u1 z 8 bg) 9 n) 10 a_59) 11 fa_60) 12 (dp_61 - 1)) zl (uf (uf f 2 tb) 4 lt) fl 2) rfl ?_
      refine Rx.ret rfl ?_
      have ec : sg n b (sks n b a) = r_1 := by rw [← f3]; exact f4.symm
      have hga : a_50 = sks n b a + 1 := by rcases f53 with z | z; (exfalso; omega); (rw [z.2.2.1, f3])
      have hq : mdR (unitR n b rr (sks n b a + 1)) (ltL lt) dp_52 r_58 a_59 fa_60 dp_61 := by have z := f62; rw [hga] at z; exact z
      have hUe : unitR n b (rr + 1) a = notN (unitR n b rr (sks n b a + 1)) := by show unitG n b (some (unitR n b rr)) (condG n b (unitR n b rr)) (sumR n b (rr + 1)) a = notN (unitR n b rr (sks n b a + 1)); unfold unitG; exact if_pos (show sg n b (sks n b a) = 33 by omega)
      rw [hUe]
      unfold notN
      rcases hq with ⟨q1, q2, q3, q4, q5⟩ | ⟨q1, q2⟩
      · rw [if_pos q1]
        refine ⟨_, _, _, _, rfl, rfl, Or.inl ⟨rfl, q2, q3, by rcases f53 with y | y <;> omega, ?_⟩, ⟨by omega, by omega⟩, hsf, Or.inr rfl⟩
        show (1 : Int) = 1 - (unitR n b rr (sks n b a + 1)).2.2.2 (ltL lt)
        rw [← q5]
        omega
      · rw [if_neg (by rw [q1]; decide)]
        exact ⟨_, _, _, _, rfl, rfl, Or.inr ⟨rfl, q2⟩, ⟨by omega, by omega⟩, hsf, Or.inr rfl⟩

/-! rules read by the model: a clause, a whole text (printed by wip/whole/genmcz.py) -/
set_option maxRecDepth 100000 in
set_option maxHeartbeats 4000000 in
theorem m_clause1 (d : Nat) (z : Nat → Int) (zl : Nat → Int) (f : Nat → Int → Int) (fl : Nat → Int → Int) (tx : Nat)  (ans : Int) (wor : Int) (n : Int) (a : Int) (bg : Int) (tb : Int → Int) (b : Int → Int) (lt : Int → Int) (CG : RsT × ((Int → Int) → Int)) (hT : tOK n b) (hM : mOK n bg 160 tb b) (ha : 0 ≤ a ∧ a ≤ n) (hL : ∀ k : Int, 0 ≤ k → k < 128 → -1000000 ≤ lt k ∧ lt k ≤ 1000000) (hans : ans = 0 ∨ ans = 1) (hCG : CG = clauseG n b a) : Rx (d + 28) m_X12_clause 0 (am_ent [.ref 0] 5) [] (cmH (u1 (u1 (u1 (u1 (u1 (u1 (u1 (u1 z 8 bg) 9 n) 10 a) 11 (-1)) 12 0) 13 121) 14 wor) 17 ans) zl (uf (uf f 1 tb) 4 lt) fl 1) (fun rv h => ∃ a' : Int, ∃ fa' : Int, ∃ dp' : Int, ∃ ans' : Int, ∃ wor' : Int, rv = none ∧ h = cmH (u1 (u1 (u1 (u1 (u1 (u1 (u1 (u1 z 8 bg) 9 n) 10 a') 11 fa') 12 dp') 13 121) 14 wor') 17 ans') zl (uf (uf f 1 tb) 4 lt) fl 1 ∧ ((CG.1.1 = true ∧ fa' = -1 ∧ a' = CG.1.2.1 ∧ dp' = 0 ∧ ((ans = 0 ∧ CG.2 (ltL lt) ≠ 0 ∧ ans' = 1 ∧ wor' = CG.1.2.2.2 (ltL lt)) ∨ (¬ (ans = 0 ∧ CG.2 (ltL lt) ≠ 0) ∧ ans' = ans ∧ wor' = wor))) ∨ (CG.1.1 = false ∧ fa' = CG.1.2.1 ∧ ans' = ans ∧ wor' = wor)) ∧ ((a ≤ a' ∧ a' ≤ n) ∧ (fa' = -1 ∨ (0 ≤ fa' ∧ fa' ≤ 160)) ∧ (ans' = 0 ∨ ans' = 1))) := by
  obtain ⟨hT1, hT2, hT3⟩ := id hT
  have hbg := hM.1
  have hbz := hM.2.1
  refine Rx.walk 0 (pc' := 0) (L' := [some (.ref 0), none, none, none, none]) (st' := []) (h' := cmH (u1 (u1 (u1 (u1 (u1 (u1 (u1 (u1 z 8 bg) 9 n) 10 a) 11 (-1)) 12 0) 13 121) 14 wor) 17 ans) zl (uf (uf f 1 tb) 4 lt) fl 1) rfl ?_
  refine Rx.walk 1 (pc' := 1) (L' := [some (.ref 0), none, none, none, none]) (st' := [.ref 0]) (h' := cmH (u1 (u1 (u1 (u1 (u1 (u1 (u1 (u1 z 8 bg) 9 n) 10 a) 11 (-1)) 12 0) 13 121) 14 wor) 17 ans) zl (uf (uf f 1 tb) 4 lt) fl 1) rfl ?_
  refine Rx.callx (m' := m_X12_look) (as := [.ref 0]) (rest := []) rfl (m_look1 _ (u1 (u1 (u1 (u1 z 12 0) 13 121) 14 wor) 17 ans) zl (uf f 4 lt) fl 1  n a bg (-1) tb b hT hM ha) (fun v7 h8 q9 => ?_)
  obtain ⟨r_1, a_2, rfl, rfl, f3, f4, f5, f6⟩ := q9
  refine Rx.walk 0 (pc' := 4) (L' := [some (.ref 0), none, none, none, none]) (st' := [.int (iz r_1)]) (h' := cmH (u1 (u1 (u1 (u1 (u1 (u1 (u1 (u1 z 8 bg) 9 n) 10 a_2) 11 (-1)) 12 0) 13 121) 14 wor) 17 ans) zl (uf (uf f 1 tb) 4 lt) fl 1) rfl ?_
  refine Rx.walk 3 (pc' := 8) (L' := [some (.ref 0), some (.int (iz r_1)), none, none, none]) (st' := [.int (iz r_1), .retAddr 0]) (h' := cmH (u1 (u1 (u1 (u1 (u1 (u1 (u1 (u1 z 8 bg) 9 n) 10 a_2) 11 (-1)) 12 0) 13 121) 14 wor) 17 ans) zl (uf (uf f 1 tb) 4 lt) fl 1) rfl ?_
  obtain ⟨am9_, ham9_⟩ : ∃ q, q = (if r_1 = 121 then (1 : Int) else 0) := ⟨_, rfl⟩
  refine Rx.amg (j := 0) (t := r_1) (r := am9_) rfl (by rw [ham9_]; exact amg0 (by omega) (by omega)) ?_
  refine Rx.walk 0 (pc' := 11) (L' := [some (.ref 0), some (.int (iz r_1)), none, none, none]) (st' := [.int (iz am9_)]) (h' := cmH (u1 (u1 (u1 (u1 (u1 (u1 (u1 (u1 z 8 bg) 9 n) 10 a_2) 11 (-1)) 12 0) 13 121) 14 wor) 17 ans) zl (uf (uf f 1 tb) 4 lt) fl 1) rfl ?_
  have hamb : (am9_ = 0 ∧ r_1 ≠ 121) ∨ (am9_ = 1 ∧ r_1 = 121) := by rw [ham9_]; split <;> omega
  refine Rx.ne1 rfl rfl ⟨by omega, by omega⟩ (fun b10 => ?_) (fun b10 => ?_)
  · have hlt : a_2 < n := by rcases Int.lt_or_le a_2 n with q | q; exact q; (exfalso; rw [sg_ge q] at f4; omega)
    refine Rx.walk 4 (pc' := 26) (L' := [some (.ref 0), some (.int (iz r_1)), none, none, none]) (st' := [.int (iz 1), .int (iz a_2), .ref 0]) (h' := cmH (u1 (u1 (u1 (u1 (u1 (u1 (u1 (u1 z 8 bg) 9 n) 10 a_2) 11 (-1)) 12 0) 13 121) 14 wor) 17 ans) zl (uf (uf f 1 tb) 4 lt) fl 1) rfl ?_
    refine Rx.iadd rfl ?_
    refine Rx.walk 3 (pc' := 33) (L' := [some (.ref 0), some (.int (iz r_1)), none, none, none]) (st' := [.int (iz 58), .ref 0]) (h' := cmH (u1 (u1 (u1 (u1 (u1 (u1 (u1 (u1 z 8 bg) 9 n) 10 (a_2 + 1)) 11 (-1)) 12 0) 13 121) 14 wor) 17 ans) zl (uf (uf f 1 tb) 4 lt) fl 1) rfl ?_
    refine Rx.callx (m' := m_X12_takes) (as := [.ref 0, .int (iz 58)]) (rest := []) rfl (m_takes1 _ (u1 (u1 (u1 (u1 z 12 0) 13 121) 14 wor) 17 ans) zl (uf f 4 lt) fl 1  58 n (a_2 + 1) bg (-1) tb b hT hM ⟨by omega, by omega⟩ (by first | assumption | omega) (Or.inl rfl)) (fun v17 h18 q19 => ?_)
    obtain ⟨r_11, a_12, fa_13, rfl, rfl, f14, f15, f16⟩ := q19
    refine Rx.walk 0 (pc' := 36) (L' := [some (.ref 0), some (.int (iz r_1)), none, none, none]) (st' := [.int (iz r_11)]) (h' := cmH (u1 (u1 (u1 (u1 (u1 (u1 (u1 (u1 z 8 bg) 9 n) 10 a_12) 11 fa_13) 12 0) 13 121) 14 wor) 17 ans) zl (uf (uf f 1 tb) 4 lt) fl 1) rfl ?_
    refine Rx.ne1 rfl rfl ⟨by omega, by omega⟩ (fun b20 => ?_) (fun b20 => ?_)
    · obtain ⟨ht2, ht3, ht4⟩ : fa_13 = -1 ∧ sg n b (sks n b (a_2 + 1)) = 58 ∧ a_12 = sks n b (a_2 + 1) + 1 := by rcases f14 with z | z | z; (exact ⟨z.2.2.1, z.2.2.2.1, z.2.2.2.2⟩); (exfalso; omega); (exfalso; omega)
      obtain rfl := ht2
      refine Rx.walk 4 (pc' := 44) (L' := [some (.ref 0), some (.int (iz r_1)), some (.int (iz 1)), some (.int (iz 0)), none]) (st' := []) (h' := cmH (u1 (u1 (u1 (u1 (u1 (u1 (u1 (u1 z 8 bg) 9 n) 10 a_12) 11 (-1)) 12 0) 13 121) 14 wor) 17 ans) zl (uf (uf f 1 tb) 4 lt) fl 1) rfl ?_
      refine m_clU1 _ z zl f fl 1  r_1 ans wor n a_12 bg tb b lt none hT hM ⟨by omega, by omega⟩ hL (by omega) hans _ ?_ (0 + 1 : Int).toNat   (by omega) 
      intro a_21 fa_22 dp_23 ans_24 wor_25 f26 f27
      show (fun (rv : Option Value) (h : AmH) => ∃ a' : Int, ∃ fa' : Int, ∃ dp' : Int, ∃ ans' : Int, ∃ wor' : Int, rv = none ∧ h = cmH (u1 (u1 (u1 (u1 (u1 (u1 (u1 (u1 z 8 bg) 9 n) 10 a') 11 fa') 12 dp') 13 121) 14 wor') 17 ans') zl (uf (uf f 1 tb) 4 lt) fl 1 ∧ ((CG.1.1 = true ∧ fa' = -1 ∧ a' = CG.1.2.1 ∧ dp' = 0 ∧ ((ans = 0 ∧ CG.2 (ltL lt) ≠ 0 ∧ ans' = 1 ∧ wor' = CG.1.2.2.2 (ltL lt)) ∨ (¬ (ans = 0 ∧ CG.2 (ltL lt) ≠ 0) ∧ ans' = ans ∧ wor' = wor))) ∨ (CG.1.1 = false ∧ fa' = CG.1.2.1 ∧ ans' = ans ∧ wor' = wor)) ∧ ((a ≤ a' ∧ a' ≤ n) ∧ (fa' = -1 ∨ (0 ≤ fa' ∧ fa' ≤ 160)) ∧ (ans' = 0 ∨ ans' = 1))) (none) (cmH (u1 (u1 (u1 (u1 (u1 (u1 (u1 (u1 z 8 bg) 9 n) 10 a_21) 11 fa_22) 12 dp_23) 13 121) 14 wor_25) 17 ans_24) zl (uf (uf f 1 tb) 4 lt) fl 1)
      have ec : sg n b (sks n b a) = r_1 := by rw [← f3]; exact f4.symm
      have e : clauseG n b a = clU n b a_12 := by unfold clauseG; rw [if_pos (show sg n b (sks n b a) = 121 by omega), ← f3, if_pos ht3, ← ht4]
      rw [hCG.trans e]
      exact ⟨_, _, _, _, _, rfl, rfl, f26, (by obtain ⟨z1, -, -⟩ := f27; clear f26; exact ⟨by omega, by omega⟩), (f27).2.1, (f27).2.2⟩
    · refine Rx.ret rfl ?_
      have ec : sg n b (sks n b a) = r_1 := by rw [← f3]; exact f4.symm
      refine ⟨_, _, _, _, _, rfl, rfl, ?_, ⟨by omega, by omega⟩, f16, hans⟩
      have e : clauseG n b a = (rsF (sks n b (a_2 + 1)), fun _ => 1) := by unfold clauseG; rw [if_pos (show sg n b (sks n b a) = 121 by omega), ← f3, if_neg (show ¬ (sg n b (sks n b (a_2 + 1)) = 58) by omega)]
      rw [hCG.trans e]
      refine Or.inr ⟨rfl, ?_, rfl, rfl⟩
      show _ = sks n b (a_2 + 1)
      omega
  · refine Rx.walk 1 (pc' := 15) (L' := [some (.ref 0), some (.int (iz r_1)), none, none, none]) (st' := [.ref 0]) (h' := cmH (u1 (u1 (u1 (u1 (u1 (u1 (u1 (u1 z 8 bg) 9 n) 10 a_2) 11 (-1)) 12 0) 13 121) 14 wor) 17 ans) zl (uf (uf f 1 tb) 4 lt) fl 1) rfl ?_
    refine Rx.callx (m' := m_X12_fails) (as := [.ref 0]) (rest := []) rfl (m_fails _ (u1 (u1 (u1 (u1 (u1 (u1 z 8 bg) 9 n) 12 0) 13 121) 14 wor) 17 ans) zl (uf (uf f 1 tb) 4 lt) fl 1  a_2 (-1) (Or.inl rfl)) (fun v30 h31 q32 => ?_)
    obtain ⟨fa_28, rfl, rfl, f29⟩ := q32
    refine Rx.walk 0 (pc' := 18) (L' := [some (.ref 0), some (.int (iz r_1)), none, none, none]) (st' := [.int (iz 0)]) (h' := cmH (u1 (u1 (u1 (u1 (u1 (u1 (u1 (u1 z 8 bg) 9 n) 10 a_2) 11 fa_28) 12 0) 13 121) 14 wor) 17 ans) zl (uf (uf f 1 tb) 4 lt) fl 1) rfl ?_
    refine Rx.walk 1 (pc' := 19) (L' := [some (.ref 0), some (.int (iz r_1)), none, none, none]) (st' := []) (h' := cmH (u1 (u1 (u1 (u1 (u1 (u1 (u1 (u1 z 8 bg) 9 n) 10 a_2) 11 fa_28) 12 0) 13 121) 14 wor) 17 ans) zl (uf (uf f 1 tb) 4 lt) fl 1) rfl ?_
    refine Rx.ret rfl ?_
    have ec : sg n b (sks n b a) = r_1 := by rw [← f3]; exact f4.symm
    refine ⟨_, _, _, _, _, rfl, rfl, ?_, ⟨by omega, by omega⟩, by omega, hans⟩
    have e : clauseG n b a = (rsF (sks n b a), fun _ => 1) := by unfold clauseG; exact if_neg (by omega)
    rw [hCG.trans e]
    refine Or.inr ⟨rfl, ?_, rfl, rfl⟩
    show _ = sks n b a
    omega
set_option maxRecDepth 100000 in
set_option maxHeartbeats 4000000 in
theorem m_clause2 (d : Nat) (z : Nat → Int) (zl : Nat → Int) (f : Nat → Int → Int) (fl : Nat → Int → Int) (tx : Nat)  (ans : Int) (wor : Int) (n : Int) (a : Int) (bg : Int) (tb : Int → Int) (b : Int → Int) (lt : Int → Int) (CG : RsT × ((Int → Int) → Int)) (hT : tOK n b) (hM : mOK n bg 640 tb b) (ha : 0 ≤ a ∧ a ≤ n) (hL : ∀ k : Int, 0 ≤ k → k < 128 → -1000000 ≤ lt k ∧ lt k ≤ 1000000) (hans : ans = 0 ∨ ans = 1) (hCG : CG = clauseG n b a) : Rx (d + 28) m_X12_clause 0 (am_ent [.ref 0] 5) [] (cmH (u1 (u1 (u1 (u1 (u1 (u1 (u1 (u1 z 8 bg) 9 n) 10 a) 11 (-1)) 12 0) 13 121) 14 wor) 17 ans) zl (uf (uf f 2 tb) 4 lt) fl 2) (fun rv h => ∃ a' : Int, ∃ fa' : Int, ∃ dp' : Int, ∃ ans' : Int, ∃ wor' : Int, rv = none ∧ h = cmH (u1 (u1 (u1 (u1 (u1 (u1 (u1 (u1 z 8 bg) 9 n) 10 a') 11 fa') 12 dp') 13 121) 14 wor') 17 ans') zl (uf (uf f 2 tb) 4 lt) fl 2 ∧ ((CG.1.1 = true ∧ fa' = -1 ∧ a' = CG.1.2.1 ∧ dp' = 0 ∧ ((ans = 0 ∧ CG.2 (ltL lt) ≠ 0 ∧ ans' = 1 ∧ wor' = CG.1.2.2.2 (ltL lt)) ∨ (¬ (ans = 0 ∧ CG.2 (ltL lt) ≠ 0) ∧ ans' = ans ∧ wor' = wor))) ∨ (CG.1.1 = false ∧ fa' = CG.1.2.1 ∧ ans' = ans ∧ wor' = wor)) ∧ ((a ≤ a' ∧ a' ≤ n) ∧ (fa' = -1 ∨ (0 ≤ fa' ∧ fa' ≤ 160)) ∧ (ans' = 0 ∨ ans' = 1))) := by
  obtain ⟨hT1, hT2, hT3⟩ := id hT
  have hbg := hM.1
  have hbz := hM.2.1
  refine Rx.walk 0 (pc' := 0) (L' := [some (.ref 0), none, none, none, none]) (st' := []) (h' := cmH (u1 (u1 (u1 (u1 (u1 (u1 (u1 (u1 z 8 bg) 9 n) 10 a) 11 (-1)) 12 0) 13 121) 14 wor) 17 ans) zl (uf (uf f 2 tb) 4 lt) fl 2) rfl ?_
  refine Rx.walk 1 (pc' := 1) (L' := [some (.ref 0), none, none, none, none]) (st' := [.ref 0]) (h' := cmH (u1 (u1 (u1 (u1 (u1 (u1 (u1 (u1 z 8 bg) 9 n) 10 a) 11 (-1)) 12 0) 13 121) 14 wor) 17 ans) zl (uf (uf f 2 tb) 4 lt) fl 2) rfl ?_
  refine Rx.callx (m' := m_X12_look) (as := [.ref 0]) (rest := []) rfl (m_look2 _ (u1 (u1 (u1 (u1 z 12 0) 13 121) 14 wor) 17 ans) zl (uf f 4 lt) fl 2  n a bg (-1) tb b hT hM ha) (fun v7 h8 q9 => ?_)
  obtain ⟨r_1, a_2, rfl, rfl, f3, f4, f5, f6⟩ := q9
  refine Rx.walk 0 (pc' := 4) (L' := [some (.ref 0), none, none, none, none]) (st' := [.int (iz r_1)]) (h' := cmH (u1 (u1 (u1 (u1 (u1 (u1 (u1 (u1 z 8 bg) 9 n) 10 a_2) 11 (-1)) 12 0) 13 121) 14 wor) 17 ans) zl (uf (uf f 2 tb) 4 lt) fl 2) rfl ?_
  refine Rx.walk 3 (pc' := 8) (L' := [some (.ref 0), some (.int (iz r_1)), none, none, none]) (st' := [.int (iz r_1), .retAddr 0]) (h' := cmH (u1 (u1 (u1 (u1 (u1 (u1 (u1 (u1 z 8 bg) 9 n) 10 a_2) 11 (-1)) 12 0) 13 121) 14 wor) 17 ans) zl (uf (uf f 2 tb) 4 lt) fl 2) rfl ?_
  obtain ⟨am9_, ham9_⟩ : ∃ q, q = (if r_1 = 121 then (1 : Int) else 0) := ⟨_, rfl⟩
  refine Rx.amg (j := 0) (t := r_1) (r := am9_) rfl (by rw [ham9_]; exact amg0 (by omega) (by omega)) ?_
  refine Rx.walk 0 (pc' := 11) (L' := [some (.ref 0), some (.int (iz r_1)), none, none, none]) (st' := [.int (iz am9_)]) (h' := cmH (u1 (u1 (u1 (u1 (u1 (u1 (u1 (u1 z 8 bg) 9 n) 10 a_2) 11 (-1)) 12 0) 13 121) 14 wor) 17 ans) zl (uf (uf f 2 tb) 4 lt) fl 2) rfl ?_
  have hamb : (am9_ = 0 ∧ r_1 ≠ 121) ∨ (am9_ = 1 ∧ r_1 = 121) := by rw [ham9_]; split <;> omega
  refine Rx.ne1 rfl rfl ⟨by omega, by omega⟩ (fun b10 => ?_) (fun b10 => ?_)
  · have hlt : a_2 < n := by rcases Int.lt_or_le a_2 n with q | q; exact q; (exfalso; rw [sg_ge q] at f4; omega)
    refine Rx.walk 4 (pc' := 26) (L' := [some (.ref 0), some (.int (iz r_1)), none, none, none]) (st' := [.int (iz 1), .int (iz a_2), .ref 0]) (h' := cmH (u1 (u1 (u1 (u1 (u1 (u1 (u1 (u1 z 8 bg) 9 n) 10 a_2) 11 (-1)) 12 0) 13 121) 14 wor) 17 ans) zl (uf (uf f 2 tb) 4 lt) fl 2) rfl ?_
    refine Rx.iadd rfl ?_
    refine Rx.walk 3 (pc' := 33) (L' := [some (.ref 0), some (.int (iz r_1)), none, none, none]) (st' := [.int (iz 58), .ref 0]) (h' := cmH (u1 (u1 (u1 (u1 (u1 (u1 (u1 (u1 z 8 bg) 9 n) 10 (a_2 + 1)) 11 (-1)) 12 0) 13 121) 14 wor) 17 ans) zl (uf (uf f 2 tb) 4 lt) fl 2) rfl ?_
    refine Rx.callx (m' := m_X12_takes) (as := [.ref 0, .int (iz 58)]) (rest := []) rfl (m_takes2 _ (u1 (u1 (u1 (u1 z 12 0) 13 121) 14 wor) 17 ans) zl (uf f 4 lt) fl 2  58 n (a_2 + 1) bg (-1) tb b hT hM ⟨by omega, by omega⟩ (by first | assumption | omega) (Or.inl rfl)) (fun v17 h18 q19 => ?_)
    obtain ⟨r_11, a_12, fa_13, rfl, rfl, f14, f15, f16⟩ := q19
    refine Rx.walk 0 (pc' := 36) (L' := [some (.ref 0), some (.int (iz r_1)), none, none, none]) (st' := [.int (iz r_11)]) (h' := cmH (u1 (u1 (u1 (u1 (u1 (u1 (u1 (u1 z 8 bg) 9 n) 10 a_12) 11 fa_13) 12 0) 13 121) 14 wor) 17 ans) zl (uf (uf f 2 tb) 4 lt) fl 2) rfl ?_
    refine Rx.ne1 rfl rfl ⟨by omega, by omega⟩ (fun b20 => ?_) (fun b20 => ?_)
    · obtain ⟨ht2, ht3, ht4⟩ : fa_13 = -1 ∧ sg n b (sks n b (a_2 + 1)) = 58 ∧ a_12 = sks n b (a_2 + 1) + 1 := by rcases f14 with z | z | z; (exact ⟨z.2.2.1, z.2.2.2.1, z.2.2.2.2⟩); (exfalso; omega); (exfalso; omega)
      obtain rfl := ht2
      refine Rx.walk 4 (pc' := 44) (L' := [some (.ref 0), some (.int (iz r_1)), some (.int (iz 1)), some (.int (iz 0)), none]) (st' := []) (h' := cmH (u1 (u1 (u1 (u1 (u1 (u1 (u1 (u1 z 8 bg) 9 n) 10 a_12) 11 (-1)) 12 0) 13 121) 14 wor) 17 ans) zl (uf (uf f 2 tb) 4 lt) fl 2) rfl ?_
      refine m_clU2 _ z zl f fl 2  r_1 ans wor n a_12 bg tb b lt none hT hM ⟨by omega, by omega⟩ hL (by omega) hans _ ?_ (0 + 1 : Int).toNat   (by omega) 
      intro a_21 fa_22 dp_23 ans_24 wor_25 f26 f27
      show (fun (rv : Option Value) (h : AmH) => ∃ a' : Int, ∃ fa' : Int, ∃ dp' : Int, ∃ ans' : Int, ∃ wor' : Int, rv = none ∧ h = cmH (u1 (u1 (u1 (u1 (u1 (u1 (u1 (u1 z 8 bg) 9 n) 10 a') 11 fa') 12 dp') 13 121) 14 wor') 17 ans') zl (uf (uf f 2 tb) 4 lt) fl 2 ∧ ((CG.1.1 = true ∧ fa' = -1 ∧ a' = CG.1.2.1 ∧ dp' = 0 ∧ ((ans = 0 ∧ CG.2 (ltL lt) ≠ 0 ∧ ans' = 1 ∧ wor' = CG.1.2.2.2 (ltL lt)) ∨ (¬ (ans = 0 ∧ CG.2 (ltL lt) ≠ 0) ∧ ans' = ans ∧ wor' = wor))) ∨ (CG.1.1 = false ∧ fa' = CG.1.2.1 ∧ ans' = ans ∧ wor' = wor)) ∧ ((a ≤ a' ∧ a' ≤ n) ∧ (fa' = -1 ∨ (0 ≤ fa' ∧ fa' ≤ 160)) ∧ (ans' = 0 ∨ ans' = 1))) (none) (cmH (u1 (u1 (u1 (u1 (u1 (u1 (u1 (u1 z 8 bg) 9 n) 10 a_21) 11 fa_22) 12 dp_23) 13 121) 14 wor_25) 17 ans_24) zl (uf (uf f 2 tb) 4 lt) fl 2)
      have ec : sg n b (sks n b a) = r_1 := by rw [← f3]; exact f4.symm
      have e : clauseG n b a = clU n b a_12 := by unfold clauseG; rw [if_pos (show sg n b (sks n b a) = 121 by omega), ← f3, if_pos ht3, ← ht4]
      rw [hCG.trans e]
      exact ⟨_, _, _, _, _, rfl, rfl, f26, (by obtain ⟨z1, -, -⟩ := f27; clear f26; exact ⟨by omega, by omega⟩), (f27).2.1, (f27).2.2⟩
    · refine Rx.ret rfl ?_
      have ec : sg n b (sks n b a) = r_1 := by rw [← f3]; exact f4.symm
      refine ⟨_, _, _, _, _, rfl, rfl, ?_, ⟨by omega, by omega⟩, f16, hans⟩
      have e : clauseG n b a = (rsF (sks n b (a_2 + 1)), fun _ => 1) := by unfold clauseG; rw [if_pos (show sg n b (sks n b a) = 121 by omega), ← f3, if_neg (show ¬ (sg n b (sks n b (a_2 + 1)) = 58) by omega)]
      rw [hCG.trans e]
      refine Or.inr ⟨rfl, ?_, rfl, rfl⟩
      show _ = sks n b (a_2 + 1)
      omega
  · refine Rx.walk 1 (pc' := 15) (L' := [some (.ref 0), some (.int (iz r_1)), none, none, none]) (st' := [.ref 0]) (h' := cmH (u1 (u1 (u1 (u1 (u1 (u1 (u1 (u1 z 8 bg) 9 n) 10 a_2) 11 (-1)) 12 0) 13 121) 14 wor) 17 ans) zl (uf (uf f 2 tb) 4 lt) fl 2) rfl ?_
    refine Rx.callx (m' := m_X12_fails) (as := [.ref 0]) (rest := []) rfl (m_fails _ (u1 (u1 (u1 (u1 (u1 (u1 z 8 bg) 9 n) 12 0) 13 121) 14 wor) 17 ans) zl (uf (uf f 2 tb) 4 lt) fl 2  a_2 (-1) (Or.inl rfl)) (fun v30 h31 q32 => ?_)
    obtain ⟨fa_28, rfl, rfl, f29⟩ := q32
    refine Rx.walk 0 (pc' := 18) (L' := [some (.ref 0), some (.int (iz r_1)), none, none, none]) (st' := [.int (iz 0)]) (h' := cmH (u1 (u1 (u1 (u1 (u1 (u1 (u1 (u1 z 8 bg) 9 n) 10 a_2) 11 fa_28) 12 0) 13 121) 14 wor) 17 ans) zl (uf (uf f 2 tb) 4 lt) fl 2) rfl ?_
    refine Rx.walk 1 (pc' := 19) (L' := [some (.ref 0), some (.int (iz r_1)), none, none, none]) (st' := []) (h' := cmH (u1 (u1 (u1 (u1 (u1 (u1 (u1 (u1 z 8 bg) 9 n) 10 a_2) 11 fa_28) 12 0) 13 121) 14 wor) 17 ans) zl (uf (uf f 2 tb) 4 lt) fl 2) rfl ?_
    refine Rx.ret rfl ?_
    have ec : sg n b (sks n b a) = r_1 := by rw [← f3]; exact f4.symm
    refine ⟨_, _, _, _, _, rfl, rfl, ?_, ⟨by omega, by omega⟩, by omega, hans⟩
    have e : clauseG n b a = (rsF (sks n b a), fun _ => 1) := by unfold clauseG; exact if_neg (by omega)
    rw [hCG.trans e]
    refine Or.inr ⟨rfl, ?_, rfl, rfl⟩
    show _ = sks n b a
    omega

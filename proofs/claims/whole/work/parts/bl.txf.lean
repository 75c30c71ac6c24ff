/-! fault and text of the model (printed by wip/whole/gentxf.py) -/
set_option maxRecDepth 100000 in
set_option maxHeartbeats 4000000 in
theorem m_fault0 (d : Nat) (z : Nat → Int) (zl : Nat → Int) (f : Nat → Int → Int) (fl : Nat → Int → Int) (tx : Nat)  (n : Int) (tb : Int → Int) (b : Int → Int) (hT : tOK n b) (hM : mOK n 0 160 tb b) : Rx (d + 3) m_X12_fault 0 (am_ent [.ref 0, .int (iz 0)] 2) [] (cmH (u1 z 6 n) zl (uf f 1 tb) fl tx) (fun rv h => ∃ a' : Int, ∃ fa' : Int, ∃ K' : Int, ∃ gm' : Int → Int, ∃ gw' : Int → Int, rv = some (.int (iz fa')) ∧ h = cmH (u1 (u1 (u1 (u1 (u1 (u1 (u1 z 0 0) 6 n) 8 0) 9 n) 10 a') 11 fa') 25 K') zl (uf (uf (uf f 1 tb) 6 gm') 7 gw') fl 1 ∧ fa' = (shP n b).1 ∧ (0 ≤ K' ∧ K' ≤ 4) ∧ (0 ≤ a' ∧ a' ≤ n) ∧ (∀ (l : List Int) (s : Int × Int × Int), (shP n b).2 = some (l, s) → K' = l.length ∧ lst gm' 0 l ∧ s = (gw' 0, gw' 1, gw' 2))) := by
  obtain ⟨hT1, hT2, hT3⟩ := id hT
  refine Rx.walk 0 (pc' := 0) (L' := [some (.ref 0), some (.int (iz 0))]) (st' := []) (h' := cmH (u1 z 6 n) zl (uf f 1 tb) fl tx) rfl ?_
  refine Rx.walk 4 (pc' := 6) (L' := [some (.ref 0), some (.int (iz 0))]) (st' := [.int (iz 0)]) (h' := cmH (u1 (u1 z 0 0) 6 n) zl (uf f 1 tb) fl tx) rfl ?_
  refine Rx.i2l rfl ⟨by omega, by omega⟩ ?_
  refine Rx.walk 2 (pc' := 11) (L' := [some (.ref 0), some (.int (iz 0))]) (st' := [.long (jz 2), .long (jz 0), .long (jz 0)]) (h' := cmH (u1 (u1 z 0 0) 6 n) zl (uf f 1 tb) fl tx) rfl ?_
  refine Rx.callx (m' := m_X12_isIn) (as := [.long (jz 0), .long (jz 0), .long (jz 2)]) (rest := []) rfl (n_isIn _ (cmH (u1 (u1 z 0 0) 6 n) zl (uf f 1 tb) fl tx)  0 0 2 ⟨by omega, by omega⟩ ⟨by omega, by omega⟩ ⟨by omega, by omega⟩) (fun v3 h4 q5 => ?_)
  obtain ⟨r_1, rfl, rfl, f2⟩ := q5
  refine Rx.walk 0 (pc' := 14) (L' := [some (.ref 0), some (.int (iz 0))]) (st' := [.int (iz r_1)]) (h' := cmH (u1 (u1 z 0 0) 6 n) zl (uf f 1 tb) fl tx) rfl ?_
  refine Rx.ne1 rfl rfl ⟨by omega, by omega⟩ (fun b6 => ?_) (fun b6 => by omega)
  refine Rx.walk 1 (pc' := 21) (L' := [some (.ref 0), some (.int (iz 0))]) (st' := [.int (iz 0)]) (h' := cmH (u1 (u1 z 0 0) 6 n) zl (uf f 1 tb) fl tx) rfl ?_
  refine Rx.ne1 rfl rfl ⟨by omega, by omega⟩ (fun b7 => by omega) (fun b7 => ?_)
  refine Rx.walk 1 (pc' := 25) (L' := [some (.ref 0), some (.int (iz 0))]) (st' := [.ref 0]) (h' := cmH (u1 (u1 z 0 0) 6 n) zl (uf f 1 tb) fl tx) rfl ?_
  refine Rx.callx (m' := m_X12_readShop) (as := [.ref 0]) (rest := []) rfl (m_rShop _ (u1 z 0 0) zl f fl tx  n tb b hT hM) (fun v17 h18 q19 => ?_)
  obtain ⟨a_8, fa_9, K_10, gm_11, gw_12, rfl, rfl, f13, f14, f15, f16⟩ := q19
  refine Rx.walk 0 (pc' := 28) (L' := [some (.ref 0), some (.int (iz 0))]) (st' := []) (h' := cmH (u1 (u1 (u1 (u1 (u1 (u1 (u1 z 0 0) 6 n) 8 0) 9 n) 10 a_8) 11 fa_9) 25 K_10) zl (uf (uf (uf f 1 tb) 6 gm_11) 7 gw_12) fl 1) rfl ?_
  refine Rx.walk 3 (pc' := 61) (L' := [some (.ref 0), some (.int (iz 0))]) (st' := [.int (iz fa_9)]) (h' := cmH (u1 (u1 (u1 (u1 (u1 (u1 (u1 z 0 0) 6 n) 8 0) 9 n) 10 a_8) 11 fa_9) 25 K_10) zl (uf (uf (uf f 1 tb) 6 gm_11) 7 gw_12) fl 1) rfl ?_
  refine Rx.ret rfl ?_
  exact ⟨_, _, _, _, _, rfl, rfl, f13, f14, f15, f16⟩
set_option maxRecDepth 100000 in
set_option maxHeartbeats 4000000 in
theorem m_fault1 (d : Nat) (z : Nat → Int) (zl : Nat → Int) (f : Nat → Int → Int) (fl : Nat → Int → Int) (tx : Nat)  (n : Int) (tb : Int → Int) (b : Int → Int) (K : Int) (pu : Int → Int) (prr : Int → Int) (hT : tOK n b) (hM : mOK n 0 160 tb b) (hK : 0 ≤ K ∧ K ≤ 4) : Rx (d + 3) m_X12_fault 0 (am_ent [.ref 0, .int (iz 1)] 2) [] (cmH (u1 (u1 z 6 n) 21 K) zl (uf (uf (uf f 1 tb) 8 prr) 9 pu) fl tx) (fun rv h => ∃ a' : Int, ∃ fa' : Int, ∃ pu' : Int → Int, ∃ prr' : Int → Int, rv = some (.int (iz fa')) ∧ h = cmH (u1 (u1 (u1 (u1 (u1 (u1 (u1 z 0 0) 6 n) 8 0) 9 n) 10 a') 11 fa') 21 K) zl (uf (uf (uf f 1 tb) 8 prr') 9 pu') fl 1 ∧ fa' = (cuP n b (k4 K)).1 ∧ (∀ (v : Int) (l : List Int), (cuP n b (k4 K)).2 = some (v, l) → prr' 4 = v ∧ cnt4 pu' l) ∧ (∀ j : Int, 0 ≤ j → j < 16 → pu' j = pu j) ∧ (∀ j : Int, 0 ≤ j → j < 4 → prr' j = prr j) ∧ (0 ≤ a' ∧ a' ≤ n) ∧ (fa' = -1 ∨ (0 ≤ fa' ∧ fa' ≤ 160))) := by
  obtain ⟨hT1, hT2, hT3⟩ := id hT
  refine Rx.walk 0 (pc' := 0) (L' := [some (.ref 0), some (.int (iz 1))]) (st' := []) (h' := cmH (u1 (u1 z 6 n) 21 K) zl (uf (uf (uf f 1 tb) 8 prr) 9 pu) fl tx) rfl ?_
  refine Rx.walk 4 (pc' := 6) (L' := [some (.ref 0), some (.int (iz 1))]) (st' := [.int (iz 1)]) (h' := cmH (u1 (u1 (u1 z 0 0) 6 n) 21 K) zl (uf (uf (uf f 1 tb) 8 prr) 9 pu) fl tx) rfl ?_
  refine Rx.i2l rfl ⟨by omega, by omega⟩ ?_
  refine Rx.walk 2 (pc' := 11) (L' := [some (.ref 0), some (.int (iz 1))]) (st' := [.long (jz 2), .long (jz 0), .long (jz 1)]) (h' := cmH (u1 (u1 (u1 z 0 0) 6 n) 21 K) zl (uf (uf (uf f 1 tb) 8 prr) 9 pu) fl tx) rfl ?_
  refine Rx.callx (m' := m_X12_isIn) (as := [.long (jz 1), .long (jz 0), .long (jz 2)]) (rest := []) rfl (n_isIn _ (cmH (u1 (u1 (u1 z 0 0) 6 n) 21 K) zl (uf (uf (uf f 1 tb) 8 prr) 9 pu) fl tx)  1 0 2 ⟨by omega, by omega⟩ ⟨by omega, by omega⟩ ⟨by omega, by omega⟩) (fun v3 h4 q5 => ?_)
  obtain ⟨r_1, rfl, rfl, f2⟩ := q5
  refine Rx.walk 0 (pc' := 14) (L' := [some (.ref 0), some (.int (iz 1))]) (st' := [.int (iz r_1)]) (h' := cmH (u1 (u1 (u1 z 0 0) 6 n) 21 K) zl (uf (uf (uf f 1 tb) 8 prr) 9 pu) fl tx) rfl ?_
  refine Rx.ne1 rfl rfl ⟨by omega, by omega⟩ (fun b6 => ?_) (fun b6 => by omega)
  refine Rx.walk 1 (pc' := 21) (L' := [some (.ref 0), some (.int (iz 1))]) (st' := [.int (iz 1)]) (h' := cmH (u1 (u1 (u1 z 0 0) 6 n) 21 K) zl (uf (uf (uf f 1 tb) 8 prr) 9 pu) fl tx) rfl ?_
  refine Rx.ne1 rfl rfl ⟨by omega, by omega⟩ (fun b7 => ?_) (fun b7 => by omega)
  refine Rx.walk 2 (pc' := 33) (L' := [some (.ref 0), some (.int (iz 1))]) (st' := [.int (iz 1), .int (iz 1)]) (h' := cmH (u1 (u1 (u1 z 0 0) 6 n) 21 K) zl (uf (uf (uf f 1 tb) 8 prr) 9 pu) fl tx) rfl ?_
  refine Rx.ne2 rfl rfl ⟨by omega, by omega⟩ ⟨by omega, by omega⟩ (fun b8 => by omega) (fun b8 => ?_)
  refine Rx.walk 2 (pc' := 38) (L' := [some (.ref 0), some (.int (iz 1))]) (st' := [.int (iz 4), .ref 0]) (h' := cmH (u1 (u1 (u1 z 0 0) 6 n) 21 K) zl (uf (uf (uf f 1 tb) 8 prr) 9 pu) fl tx) rfl ?_
  refine Rx.callx (m' := m_X12_readCustomer) (as := [.ref 0, .int (iz 4)]) (rest := []) rfl (m_rCust _ (u1 z 0 0) zl f fl tx  n tb b K pu prr hT hM hK) (fun v19 h20 q21 => ?_)
  obtain ⟨a_9, fa_10, pu_11, prr_12, rfl, rfl, f13, f14, f15, f16, f17, f18⟩ := q21
  refine Rx.walk 0 (pc' := 41) (L' := [some (.ref 0), some (.int (iz 1))]) (st' := []) (h' := cmH (u1 (u1 (u1 (u1 (u1 (u1 (u1 z 0 0) 6 n) 8 0) 9 n) 10 a_9) 11 fa_10) 21 K) zl (uf (uf (uf f 1 tb) 8 prr_12) 9 pu_11) fl 1) rfl ?_
  refine Rx.walk 3 (pc' := 61) (L' := [some (.ref 0), some (.int (iz 1))]) (st' := [.int (iz fa_10)]) (h' := cmH (u1 (u1 (u1 (u1 (u1 (u1 (u1 z 0 0) 6 n) 8 0) 9 n) 10 a_9) 11 fa_10) 21 K) zl (uf (uf (uf f 1 tb) 8 prr_12) 9 pu_11) fl 1) rfl ?_
  refine Rx.ret rfl ?_
  exact ⟨_, _, _, _, rfl, rfl, f13, f14, f15, f16, f17, f18⟩
set_option maxRecDepth 100000 in
set_option maxHeartbeats 4000000 in
theorem m_fault2 (d : Nat) (z : Nat → Int) (zl : Nat → Int) (f : Nat → Int → Int) (fl : Nat → Int → Int) (tx : Nat)  (n : Int) (tb : Int → Int) (b : Int → Int) (lt : Int → Int) (Rt : RuT) (hT : tOK n b) (hM : mOK n 0 160 tb b) (hL : ∀ k : Int, 0 ≤ k → k < 128 → -1000000 ≤ lt k ∧ lt k ≤ 1000000) (hRt : Rt = ruleL n b 161 0) : Rx (d + 30) m_X12_fault 0 (am_ent [.ref 0, .int (iz 2)] 2) [] (cmH (u1 z 6 n) zl (uf (uf f 1 tb) 4 lt) fl tx) (fun rv h => ∃ a' : Int, ∃ fa' : Int, ∃ dp' : Int, ∃ ans' : Int, ∃ wor' : Int, rv = some (.int (iz fa')) ∧ h = cmH (u1 (u1 (u1 (u1 (u1 (u1 (u1 (u1 (u1 (u1 z 0 0) 6 n) 8 0) 9 n) 10 a') 11 fa') 12 dp') 13 121) 14 wor') 17 ans') zl (uf (uf f 1 tb) 4 lt) fl 1 ∧ ruF n b Rt fa' ∧ ((0 ≤ a' ∧ a' ≤ n) ∧ (fa' = -1 ∨ (0 ≤ fa' ∧ fa' ≤ 160)) ∧ (ans' = 0 ∨ ans' = 1))) := by
  obtain ⟨hT1, hT2, hT3⟩ := id hT
  refine Rx.walk 0 (pc' := 0) (L' := [some (.ref 0), some (.int (iz 2))]) (st' := []) (h' := cmH (u1 z 6 n) zl (uf (uf f 1 tb) 4 lt) fl tx) rfl ?_
  refine Rx.walk 4 (pc' := 6) (L' := [some (.ref 0), some (.int (iz 2))]) (st' := [.int (iz 2)]) (h' := cmH (u1 (u1 z 0 0) 6 n) zl (uf (uf f 1 tb) 4 lt) fl tx) rfl ?_
  refine Rx.i2l rfl ⟨by omega, by omega⟩ ?_
  refine Rx.walk 2 (pc' := 11) (L' := [some (.ref 0), some (.int (iz 2))]) (st' := [.long (jz 2), .long (jz 0), .long (jz 2)]) (h' := cmH (u1 (u1 z 0 0) 6 n) zl (uf (uf f 1 tb) 4 lt) fl tx) rfl ?_
  refine Rx.callx (m' := m_X12_isIn) (as := [.long (jz 2), .long (jz 0), .long (jz 2)]) (rest := []) rfl (n_isIn _ (cmH (u1 (u1 z 0 0) 6 n) zl (uf (uf f 1 tb) 4 lt) fl tx)  2 0 2 ⟨by omega, by omega⟩ ⟨by omega, by omega⟩ ⟨by omega, by omega⟩) (fun v3 h4 q5 => ?_)
  obtain ⟨r_1, rfl, rfl, f2⟩ := q5
  refine Rx.walk 0 (pc' := 14) (L' := [some (.ref 0), some (.int (iz 2))]) (st' := [.int (iz r_1)]) (h' := cmH (u1 (u1 z 0 0) 6 n) zl (uf (uf f 1 tb) 4 lt) fl tx) rfl ?_
  refine Rx.ne1 rfl rfl ⟨by omega, by omega⟩ (fun b6 => ?_) (fun b6 => by omega)
  refine Rx.walk 1 (pc' := 21) (L' := [some (.ref 0), some (.int (iz 2))]) (st' := [.int (iz 2)]) (h' := cmH (u1 (u1 z 0 0) 6 n) zl (uf (uf f 1 tb) 4 lt) fl tx) rfl ?_
  refine Rx.ne1 rfl rfl ⟨by omega, by omega⟩ (fun b7 => ?_) (fun b7 => by omega)
  refine Rx.walk 2 (pc' := 33) (L' := [some (.ref 0), some (.int (iz 2))]) (st' := [.int (iz 1), .int (iz 2)]) (h' := cmH (u1 (u1 z 0 0) 6 n) zl (uf (uf f 1 tb) 4 lt) fl tx) rfl ?_
  refine Rx.ne2 rfl rfl ⟨by omega, by omega⟩ ⟨by omega, by omega⟩ (fun b8 => ?_) (fun b8 => by omega)
  refine Rx.walk 6 (pc' := 54) (L' := [some (.ref 0), some (.int (iz 2))]) (st' := [.int (iz n), .int (iz 0), .ref 1, .ref 0]) (h' := cmH (u1 (u1 z 0 0) 6 n) zl (uf (uf f 1 tb) 4 lt) fl tx) rfl ?_
  refine Rx.callx (m' := m_X12_goThrough) (as := [.ref 0, .ref 1, .int (iz 0), .int (iz n)]) (rest := []) rfl (m_goth1 _ (u1 (u1 z 0 0) 6 n) zl f fl tx  n 0 tb b lt Rt hT hM hL hRt) (fun v16 h17 q18 => ?_)
  obtain ⟨a_9, fa_10, dp_11, ans_12, wor_13, rfl, rfl, f14, f15⟩ := q18
  refine Rx.walk 0 (pc' := 57) (L' := [some (.ref 0), some (.int (iz 2))]) (st' := []) (h' := cmH (u1 (u1 (u1 (u1 (u1 (u1 (u1 (u1 (u1 (u1 z 0 0) 6 n) 8 0) 9 n) 10 a_9) 11 fa_10) 12 dp_11) 13 121) 14 wor_13) 17 ans_12) zl (uf (uf f 1 tb) 4 lt) fl 1) rfl ?_
  refine Rx.walk 2 (pc' := 61) (L' := [some (.ref 0), some (.int (iz 2))]) (st' := [.int (iz fa_10)]) (h' := cmH (u1 (u1 (u1 (u1 (u1 (u1 (u1 (u1 (u1 (u1 z 0 0) 6 n) 8 0) 9 n) 10 a_9) 11 fa_10) 12 dp_11) 13 121) 14 wor_13) 17 ans_12) zl (uf (uf f 1 tb) 4 lt) fl 1) rfl ?_
  refine Rx.ret rfl ?_
  exact ⟨_, _, _, _, _, rfl, rfl, (by rcases f14 with q | q; (exact Or.inl ⟨q.1, q.2.1, q.2.2.1⟩); exact Or.inr q), f15⟩
set_option maxRecDepth 100000 in
set_option maxHeartbeats 4000000 in
theorem m_faultD (d : Nat) (z : Nat → Int) (zl : Nat → Int) (f : Nat → Int → Int) (fl : Nat → Int → Int) (tx : Nat)  (so : Int) (hso : bI so) (hsD : ¬ (0 ≤ so ∧ so ≤ 2)) : Rx (d + 1) m_X12_fault 0 (am_ent [.ref 0, .int (iz so)] 2) [] (cmH z zl f fl tx) (fun rv h => rv = some (.int (iz (-2))) ∧ h = cmH (u1 z 0 0) zl f fl tx) := by
  obtain ⟨hso1, hso2⟩ := id hso
  refine Rx.walk 0 (pc' := 0) (L' := [some (.ref 0), some (.int (iz so))]) (st' := []) (h' := cmH z zl f fl tx) rfl ?_
  refine Rx.walk 4 (pc' := 6) (L' := [some (.ref 0), some (.int (iz so))]) (st' := [.int (iz so)]) (h' := cmH (u1 z 0 0) zl f fl tx) rfl ?_
  refine Rx.i2l rfl ⟨by omega, by omega⟩ ?_
  refine Rx.walk 2 (pc' := 11) (L' := [some (.ref 0), some (.int (iz so))]) (st' := [.long (jz 2), .long (jz 0), .long (jz so)]) (h' := cmH (u1 z 0 0) zl f fl tx) rfl ?_
  refine Rx.callx (m' := m_X12_isIn) (as := [.long (jz so), .long (jz 0), .long (jz 2)]) (rest := []) rfl (n_isIn _ (cmH (u1 z 0 0) zl f fl tx)  so 0 2 ⟨by omega, by omega⟩ ⟨by omega, by omega⟩ ⟨by omega, by omega⟩) (fun v3 h4 q5 => ?_)
  obtain ⟨r_1, rfl, rfl, f2⟩ := q5
  refine Rx.walk 0 (pc' := 14) (L' := [some (.ref 0), some (.int (iz so))]) (st' := [.int (iz r_1)]) (h' := cmH (u1 z 0 0) zl f fl tx) rfl ?_
  refine Rx.ne1 rfl rfl ⟨by omega, by omega⟩ (fun b6 => by omega) (fun b6 => ?_)
  refine Rx.walk 1 (pc' := 19) (L' := [some (.ref 0), some (.int (iz so))]) (st' := [.int (iz (-2))]) (h' := cmH (u1 z 0 0) zl f fl tx) rfl ?_
  refine Rx.ret rfl ?_
  exact ⟨rfl, rfl⟩
set_option maxRecDepth 100000 in
set_option maxHeartbeats 4000000 in
theorem m_textD (d : Nat) (z : Nat → Int) (zl : Nat → Int) (f : Nat → Int → Int) (fl : Nat → Int → Int) (tx : Nat)  (so : Int) (hso : bI so) (hsD : ¬ (0 ≤ so ∧ so ≤ 2)) : Rx (d + 1) m_X12_text 0 (am_ent [.ref 0, .int (iz so)] 4) [] (cmH z zl f fl tx) (fun rv h => rv = some (.int (iz (-1))) ∧ h = cmH (u1 z 0 0) zl f fl tx) := by
  obtain ⟨hso1, hso2⟩ := id hso
  refine Rx.walk 0 (pc' := 0) (L' := [some (.ref 0), some (.int (iz so)), none, none]) (st' := []) (h' := cmH z zl f fl tx) rfl ?_
  refine Rx.walk 4 (pc' := 6) (L' := [some (.ref 0), some (.int (iz so)), none, none]) (st' := [.int (iz so)]) (h' := cmH (u1 z 0 0) zl f fl tx) rfl ?_
  refine Rx.i2l rfl ⟨by omega, by omega⟩ ?_
  refine Rx.walk 2 (pc' := 11) (L' := [some (.ref 0), some (.int (iz so)), none, none]) (st' := [.long (jz 2), .long (jz 0), .long (jz so)]) (h' := cmH (u1 z 0 0) zl f fl tx) rfl ?_
  refine Rx.callx (m' := m_X12_isIn) (as := [.long (jz so), .long (jz 0), .long (jz 2)]) (rest := []) rfl (n_isIn _ (cmH (u1 z 0 0) zl f fl tx)  so 0 2 ⟨by omega, by omega⟩ ⟨by omega, by omega⟩ ⟨by omega, by omega⟩) (fun v3 h4 q5 => ?_)
  obtain ⟨r_1, rfl, rfl, f2⟩ := q5
  refine Rx.walk 0 (pc' := 14) (L' := [some (.ref 0), some (.int (iz so)), none, none]) (st' := [.int (iz r_1)]) (h' := cmH (u1 z 0 0) zl f fl tx) rfl ?_
  refine Rx.eq1 rfl rfl ⟨by omega, by omega⟩ (fun b6 => ?_) (fun b6 => by omega)
  refine Rx.walk 1 (pc' := 60) (L' := [some (.ref 0), some (.int (iz so)), none, none]) (st' := [.int (iz (-1))]) (h' := cmH (u1 z 0 0) zl f fl tx) rfl ?_
  refine Rx.ret rfl ?_
  exact ⟨rfl, rfl⟩
theorem shP_b {n : Int} {b : Int → Int} (hn : 0 ≤ n) : (shP n b).1 = -1 ∨ (0 ≤ (shP n b).1 ∧ (shP n b).1 ≤ n) := by
  have s1 := sks_le n b 0
  have s2 := sks_n b (a := 0) hn
  by_cases h : sg n b (sks n b 0) = 99
  · have hlt : sks n b 0 < n := by
      rcases Int.lt_or_le (sks n b 0) n with q | q
      · exact q
      · rw [sg_ge q] at h; omega
    have hv := vlP_props (n := n) (b := b) 4 0 (sks n b 0 + 1) (by omega) (by omega) (by omega)
    cases h2 : (vlP n b 4 0 (sks n b 0 + 1)).2 with
    | none => rw [shP_2 h h2]; exact Or.inr hv
    | some l =>
      have hp := ptP_props (n := n) (b := b) 3 0 (1, 5, 1) (vlP n b 4 0 (sks n b 0 + 1)).1 (by omega) hv.1 hv.2
      cases h3 : (ptP n b 3 0 (1, 5, 1) (vlP n b 4 0 (sks n b 0 + 1)).1).2 with
      | none => rw [shP_3 h h2 h3]; exact Or.inr hp
      | some s =>
        by_cases h4 : sg n b (ptP n b 3 0 (1, 5, 1) (vlP n b 4 0 (sks n b 0 + 1)).1).1 = -1
        · rw [shP_4 h h2 h3 h4]; exact Or.inl rfl
        · rw [shP_5 h h2 h3 h4]; exact Or.inr hp
  · rw [shP_1 h]; exact Or.inr ⟨by show 0 ≤ sks n b 0; omega, s2⟩
theorem tn_000 : (0 : Int) = tn 0 0 0 := by unfold tn; rfl
set_option maxRecDepth 100000 in
set_option maxHeartbeats 4000000 in
theorem m_text0 (d : Nat) (z : Nat → Int) (zl : Nat → Int) (f : Nat → Int → Int) (fl : Nat → Int → Int) (tx : Nat)  (n : Int) (tb : Int → Int) (b : Int → Int) (K : Int) (va : Int → Int) (pi_ : Int) (len : Int) (tr : Int) (M : Int) (ik : Int) (pp : Int → Int) (li : Int → Int) (ty : Int → Int) (hT : tOK n b) (hM : mOK n 0 160 tb b) : Rx (d + 4) m_X12_text 0 (am_ent [.ref 0, .int (iz 0)] 4) [] (cmH (u1 (u1 (u1 (u1 (u1 (u1 (u1 z 6 n) 21 K) 22 pi_) 23 len) 24 tr) 28 M) 35 ik) zl (uf (uf (uf (uf (uf f 1 tb) 5 va) 10 pp) 11 li) 12 ty) fl tx) (fun rv h => ∃ r : Int, ∃ n' : Int, ∃ a' : Int, ∃ fa' : Int, ∃ K1' : Int, ∃ gm' : Int → Int, ∃ gw' : Int → Int, ∃ K' : Int, ∃ va' : Int → Int, ∃ pi_' : Int, ∃ len' : Int, ∃ tr' : Int, ∃ M' : Int, ∃ ik' : Int, ∃ pp' : Int → Int, ∃ li' : Int → Int, ∃ ty' : Int → Int, rv = some (.int (iz r)) ∧ h = cmH (u1 (u1 (u1 (u1 (u1 (u1 (u1 (u1 (u1 (u1 (u1 (u1 (u1 z 0 0) 6 n') 8 0) 9 n) 10 a') 11 fa') 21 K') 22 pi_') 23 len') 24 tr') 25 K1') 28 M') 35 ik') zl (uf (uf (uf (uf (uf (uf (uf f 1 tb) 5 va') 6 gm') 7 gw') 10 pp') 11 li') 12 ty') fl 1 ∧ (((shP n b).1 ≠ -1 ∧ r = -1 ∧ n' = n ∧ K' = K ∧ va' = va ∧ pi_' = pi_ ∧ len' = len ∧ tr' = tr ∧ M' = M ∧ ik' = ik ∧ pp' = pp ∧ li' = li ∧ ty' = ty) ∨ ((shP n b).1 = -1 ∧ r = K' ∧ n' = 0 ∧ M' = 0 ∧ ik' = 0 ∧ (∀ (l : List Int) (s : Int × Int × Int), (shP n b).2 = some (l, s) → K' = l.length ∧ lst va' 0 l ∧ s = (pi_', len', tr')) ∧ mtI K' pp' li' ty' 0 0 0)) ∧ (0 ≤ a' ∧ a' ≤ n)) := by
  obtain ⟨hT1, hT2, hT3⟩ := id hT
  have hsb := shP_b (b := b) hT1
  refine Rx.walk 0 (pc' := 0) (L' := [some (.ref 0), some (.int (iz 0)), none, none]) (st' := []) (h' := cmH (u1 (u1 (u1 (u1 (u1 (u1 (u1 z 6 n) 21 K) 22 pi_) 23 len) 24 tr) 28 M) 35 ik) zl (uf (uf (uf (uf (uf f 1 tb) 5 va) 10 pp) 11 li) 12 ty) fl tx) rfl ?_
  refine Rx.walk 4 (pc' := 6) (L' := [some (.ref 0), some (.int (iz 0)), none, none]) (st' := [.int (iz 0)]) (h' := cmH (u1 (u1 (u1 (u1 (u1 (u1 (u1 (u1 z 0 0) 6 n) 21 K) 22 pi_) 23 len) 24 tr) 28 M) 35 ik) zl (uf (uf (uf (uf (uf f 1 tb) 5 va) 10 pp) 11 li) 12 ty) fl tx) rfl ?_
  refine Rx.i2l rfl ⟨by omega, by omega⟩ ?_
  refine Rx.walk 2 (pc' := 11) (L' := [some (.ref 0), some (.int (iz 0)), none, none]) (st' := [.long (jz 2), .long (jz 0), .long (jz 0)]) (h' := cmH (u1 (u1 (u1 (u1 (u1 (u1 (u1 (u1 z 0 0) 6 n) 21 K) 22 pi_) 23 len) 24 tr) 28 M) 35 ik) zl (uf (uf (uf (uf (uf f 1 tb) 5 va) 10 pp) 11 li) 12 ty) fl tx) rfl ?_
  refine Rx.callx (m' := m_X12_isIn) (as := [.long (jz 0), .long (jz 0), .long (jz 2)]) (rest := []) rfl (n_isIn _ (cmH (u1 (u1 (u1 (u1 (u1 (u1 (u1 (u1 z 0 0) 6 n) 21 K) 22 pi_) 23 len) 24 tr) 28 M) 35 ik) zl (uf (uf (uf (uf (uf f 1 tb) 5 va) 10 pp) 11 li) 12 ty) fl tx)  0 0 2 ⟨by omega, by omega⟩ ⟨by omega, by omega⟩ ⟨by omega, by omega⟩) (fun v3 h4 q5 => ?_)
  obtain ⟨r_1, rfl, rfl, f2⟩ := q5
  refine Rx.walk 0 (pc' := 14) (L' := [some (.ref 0), some (.int (iz 0)), none, none]) (st' := [.int (iz r_1)]) (h' := cmH (u1 (u1 (u1 (u1 (u1 (u1 (u1 (u1 z 0 0) 6 n) 21 K) 22 pi_) 23 len) 24 tr) 28 M) 35 ik) zl (uf (uf (uf (uf (uf f 1 tb) 5 va) 10 pp) 11 li) 12 ty) fl tx) rfl ?_
  refine Rx.eq1 rfl rfl ⟨by omega, by omega⟩ (fun b6 => by omega) (fun b6 => ?_)
  refine Rx.walk 2 (pc' := 19) (L' := [some (.ref 0), some (.int (iz 0)), none, none]) (st' := [.int (iz 1), .int (iz 0)]) (h' := cmH (u1 (u1 (u1 (u1 (u1 (u1 (u1 (u1 z 0 0) 6 n) 21 K) 22 pi_) 23 len) 24 tr) 28 M) 35 ik) zl (uf (uf (uf (uf (uf f 1 tb) 5 va) 10 pp) 11 li) 12 ty) fl tx) rfl ?_
  refine Rx.ne2 rfl rfl ⟨by omega, by omega⟩ ⟨by omega, by omega⟩ (fun b7 => ?_) (fun b7 => by omega)
  refine Rx.walk 2 (pc' := 39) (L' := [some (.ref 0), some (.int (iz 0)), none, none]) (st' := [.int (iz 2), .int (iz 0)]) (h' := cmH (u1 (u1 (u1 (u1 (u1 (u1 (u1 (u1 z 0 0) 6 n) 21 K) 22 pi_) 23 len) 24 tr) 28 M) 35 ik) zl (uf (uf (uf (uf (uf f 1 tb) 5 va) 10 pp) 11 li) 12 ty) fl tx) rfl ?_
  refine Rx.ne2 rfl rfl ⟨by omega, by omega⟩ ⟨by omega, by omega⟩ (fun b8 => ?_) (fun b8 => by omega)
  refine Rx.walk 2 (pc' := 52) (L' := [some (.ref 0), some (.int (iz 0)), none, none]) (st' := [.int (iz 0), .ref 0]) (h' := cmH (u1 (u1 (u1 (u1 (u1 (u1 (u1 (u1 z 0 0) 6 n) 21 K) 22 pi_) 23 len) 24 tr) 28 M) 35 ik) zl (uf (uf (uf (uf (uf f 1 tb) 5 va) 10 pp) 11 li) 12 ty) fl tx) rfl ?_
  refine Rx.callx (m' := m_X12_fault) (as := [.ref 0, .int (iz 0)]) (rest := []) rfl (m_fault0 _ (u1 (u1 (u1 (u1 (u1 (u1 (u1 z 0 0) 21 K) 22 pi_) 23 len) 24 tr) 28 M) 35 ik) zl (uf (uf (uf (uf f 5 va) 10 pp) 11 li) 12 ty) fl tx  n tb b hT hM) (fun v18 h19 q20 => ?_)
  obtain ⟨a_9, fa_10, K_11, gm_12, gw_13, rfl, rfl, f14, f15, f16, f17⟩ := q20
  refine Rx.walk 0 (pc' := 55) (L' := [some (.ref 0), some (.int (iz 0)), none, none]) (st' := [.int (iz fa_10)]) (h' := cmH (u1 (u1 (u1 (u1 (u1 (u1 (u1 (u1 (u1 (u1 (u1 (u1 (u1 z 0 0) 6 n) 8 0) 9 n) 10 a_9) 11 fa_10) 21 K) 22 pi_) 23 len) 24 tr) 25 K_11) 28 M) 35 ik) zl (uf (uf (uf (uf (uf (uf (uf f 1 tb) 5 va) 6 gm_12) 7 gw_13) 10 pp) 11 li) 12 ty) fl 1) rfl ?_
  refine Rx.walk 1 (pc' := 56) (L' := [some (.ref 0), some (.int (iz 0)), none, none]) (st' := [.int (iz (-1)), .int (iz fa_10)]) (h' := cmH (u1 (u1 (u1 (u1 (u1 (u1 (u1 (u1 (u1 (u1 (u1 (u1 (u1 z 0 0) 6 n) 8 0) 9 n) 10 a_9) 11 fa_10) 21 K) 22 pi_) 23 len) 24 tr) 25 K_11) 28 M) 35 ik) zl (uf (uf (uf (uf (uf (uf (uf f 1 tb) 5 va) 6 gm_12) 7 gw_13) 10 pp) 11 li) 12 ty) fl 1) rfl ?_
  refine Rx.eq2 rfl rfl ⟨by omega, by omega⟩ ⟨by omega, by omega⟩ (fun b21 => ?_) (fun b21 => ?_)
  · refine Rx.walk 7 (pc' := 72) (L' := [some (.ref 0), some (.int (iz 0)), some (.int (iz n)), none]) (st' := [.int (iz 0)]) (h' := cmH (u1 (u1 (u1 (u1 (u1 (u1 (u1 (u1 (u1 (u1 (u1 (u1 (u1 z 0 0) 6 0) 8 0) 9 n) 10 a_9) 11 fa_10) 21 K) 22 pi_) 23 len) 24 tr) 25 K_11) 28 M) 35 ik) zl (uf (uf (uf (uf (uf (uf (uf f 1 tb) 5 va) 6 gm_12) 7 gw_13) 10 pp) 11 li) 12 ty) fl 1) rfl ?_
    refine Rx.ne1 rfl rfl ⟨by omega, by omega⟩ (fun b22 => by omega) (fun b22 => ?_)
    refine Rx.walk 8 (pc' := 87) (L' := [some (.ref 0), some (.int (iz 0)), some (.int (iz n)), some (.int (iz 0))]) (st' := [.int (iz 4), .int (iz 0)]) (h' := cmH (u1 (u1 (u1 (u1 (u1 (u1 (u1 (u1 (u1 (u1 (u1 (u1 (u1 z 0 0) 6 0) 8 0) 9 n) 10 a_9) 11 fa_10) 21 K_11) 22 pi_) 23 len) 24 tr) 25 K_11) 28 M) 35 ik) zl (uf (uf (uf (uf (uf (uf (uf f 1 tb) 5 va) 6 gm_12) 7 gw_13) 10 pp) 11 li) 12 ty) fl 1) rfl ?_
    refine Rx.ge2 rfl rfl ⟨by omega, by omega⟩ ⟨by omega, by omega⟩ (fun b23 => by omega) (fun b23 => ?_)
    refine Rx.walk 6 (pc' := 100) (L' := [some (.ref 0), some (.int (iz 0)), some (.int (iz n)), some (.int (iz 0))]) (st' := [.int (iz 0), .ref 6, .int (iz 0), .ref 5]) (h' := cmH (u1 (u1 (u1 (u1 (u1 (u1 (u1 (u1 (u1 (u1 (u1 (u1 (u1 z 0 0) 6 0) 8 0) 9 n) 10 a_9) 11 fa_10) 21 K_11) 22 pi_) 23 len) 24 tr) 25 K_11) 28 M) 35 ik) zl (uf (uf (uf (uf (uf (uf (uf f 1 tb) 5 va) 6 gm_12) 7 gw_13) 10 pp) 11 li) 12 ty) fl 1) rfl ?_
    refine Rx.ial (g := gm_12) rfl rfl (by omega) (by omega) (by omega) ?_
    refine Rx.ias (g := va) (h' := cmH (u1 (u1 (u1 (u1 (u1 (u1 (u1 (u1 (u1 (u1 (u1 (u1 (u1 z 0 0) 6 0) 8 0) 9 n) 10 a_9) 11 fa_10) 21 K_11) 22 pi_) 23 len) 24 tr) 25 K_11) 28 M) 35 ik) zl (uf (uf (uf (uf (uf (uf (uf f 1 tb) 5 (iu va 0 (gm_12 0))) 6 gm_12) 7 gw_13) 10 pp) 11 li) 12 ty) fl 1) rfl rfl (by omega) (by omega) (by omega) rfl ?_
    refine Rx.iinc (b := 1) rfl rfl rfl ?_
    refine Rx.walk 0 (pc' := 105) (L' := [some (.ref 0), some (.int (iz 0)), some (.int (iz n)), some (.int (iz 1))]) (st' := []) (h' := cmH (u1 (u1 (u1 (u1 (u1 (u1 (u1 (u1 (u1 (u1 (u1 (u1 (u1 z 0 0) 6 0) 8 0) 9 n) 10 a_9) 11 fa_10) 21 K_11) 22 pi_) 23 len) 24 tr) 25 K_11) 28 M) 35 ik) zl (uf (uf (uf (uf (uf (uf (uf f 1 tb) 5 (iu va 0 (gm_12 0))) 6 gm_12) 7 gw_13) 10 pp) 11 li) 12 ty) fl 1) rfl ?_
    refine Rx.walk 3 (pc' := 87) (L' := [some (.ref 0), some (.int (iz 0)), some (.int (iz n)), some (.int (iz 1))]) (st' := [.int (iz 4), .int (iz 1)]) (h' := cmH (u1 (u1 (u1 (u1 (u1 (u1 (u1 (u1 (u1 (u1 (u1 (u1 (u1 z 0 0) 6 0) 8 0) 9 n) 10 a_9) 11 fa_10) 21 K_11) 22 pi_) 23 len) 24 tr) 25 K_11) 28 M) 35 ik) zl (uf (uf (uf (uf (uf (uf (uf f 1 tb) 5 (iu va 0 (gm_12 0))) 6 gm_12) 7 gw_13) 10 pp) 11 li) 12 ty) fl 1) rfl ?_
    refine Rx.ge2 rfl rfl ⟨by omega, by omega⟩ ⟨by omega, by omega⟩ (fun b24 => by omega) (fun b24 => ?_)
    refine Rx.walk 6 (pc' := 100) (L' := [some (.ref 0), some (.int (iz 0)), some (.int (iz n)), some (.int (iz 1))]) (st' := [.int (iz 1), .ref 6, .int (iz 1), .ref 5]) (h' := cmH (u1 (u1 (u1 (u1 (u1 (u1 (u1 (u1 (u1 (u1 (u1 (u1 (u1 z 0 0) 6 0) 8 0) 9 n) 10 a_9) 11 fa_10) 21 K_11) 22 pi_) 23 len) 24 tr) 25 K_11) 28 M) 35 ik) zl (uf (uf (uf (uf (uf (uf (uf f 1 tb) 5 (iu va 0 (gm_12 0))) 6 gm_12) 7 gw_13) 10 pp) 11 li) 12 ty) fl 1) rfl ?_
    refine Rx.ial (g := gm_12) rfl rfl (by omega) (by omega) (by omega) ?_
    refine Rx.ias (g := (iu va 0 (gm_12 0))) (h' := cmH (u1 (u1 (u1 (u1 (u1 (u1 (u1 (u1 (u1 (u1 (u1 (u1 (u1 z 0 0) 6 0) 8 0) 9 n) 10 a_9) 11 fa_10) 21 K_11) 22 pi_) 23 len) 24 tr) 25 K_11) 28 M) 35 ik) zl (uf (uf (uf (uf (uf (uf (uf f 1 tb) 5 (iu (iu va 0 (gm_12 0)) 1 (gm_12 1))) 6 gm_12) 7 gw_13) 10 pp) 11 li) 12 ty) fl 1) rfl rfl (by omega) (by omega) (by omega) rfl ?_
    refine Rx.iinc (b := 1) rfl rfl rfl ?_
    refine Rx.walk 0 (pc' := 105) (L' := [some (.ref 0), some (.int (iz 0)), some (.int (iz n)), some (.int (iz 2))]) (st' := []) (h' := cmH (u1 (u1 (u1 (u1 (u1 (u1 (u1 (u1 (u1 (u1 (u1 (u1 (u1 z 0 0) 6 0) 8 0) 9 n) 10 a_9) 11 fa_10) 21 K_11) 22 pi_) 23 len) 24 tr) 25 K_11) 28 M) 35 ik) zl (uf (uf (uf (uf (uf (uf (uf f 1 tb) 5 (iu (iu va 0 (gm_12 0)) 1 (gm_12 1))) 6 gm_12) 7 gw_13) 10 pp) 11 li) 12 ty) fl 1) rfl ?_
    refine Rx.walk 3 (pc' := 87) (L' := [some (.ref 0), some (.int (iz 0)), some (.int (iz n)), some (.int (iz 2))]) (st' := [.int (iz 4), .int (iz 2)]) (h' := cmH (u1 (u1 (u1 (u1 (u1 (u1 (u1 (u1 (u1 (u1 (u1 (u1 (u1 z 0 0) 6 0) 8 0) 9 n) 10 a_9) 11 fa_10) 21 K_11) 22 pi_) 23 len) 24 tr) 25 K_11) 28 M) 35 ik) zl (uf (uf (uf (uf (uf (uf (uf f 1 tb) 5 (iu (iu va 0 (gm_12 0)) 1 (gm_12 1))) 6 gm_12) 7 gw_13) 10 pp) 11 li) 12 ty) fl 1) rfl ?_
    refine Rx.ge2 rfl rfl ⟨by omega, by omega⟩ ⟨by omega, by omega⟩ (fun b25 => by omega) (fun b25 => ?_)
    refine Rx.walk 6 (pc' := 100) (L' := [some (.ref 0), some (.int (iz 0)), some (.int (iz n)), some (.int (iz 2))]) (st' := [.int (iz 2), .ref 6, .int (iz 2), .ref 5]) (h' := cmH (u1 (u1 (u1 (u1 (u1 (u1 (u1 (u1 (u1 (u1 (u1 (u1 (u1 z 0 0) 6 0) 8 0) 9 n) 10 a_9) 11 fa_10) 21 K_11) 22 pi_) 23 len) 24 tr) 25 K_11) 28 M) 35 ik) zl (uf (uf (uf (uf (uf (uf (uf f 1 tb) 5 (iu (iu va 0 (gm_12 0)) 1 (gm_12 1))) 6 gm_12) 7 gw_13) 10 pp) 11 li) 12 ty) fl 1) rfl ?_
    refine Rx.ial (g := gm_12) rfl rfl (by omega) (by omega) (by omega) ?_
    refine Rx.ias (g := (iu (iu va 0 (gm_12 0)) 1 (gm_12 1))) (h' := cmH (u1 (u1 (u1 (u1 (u1 (u1 (u1 (u1 (u1 (u1 (u1 (u1 (u1 z 0 0) 6 0) 8 0) 9 n) 10 a_9) 11 fa_10) 21 K_11) 22 pi_) 23 len) 24 tr) 25 K_11) 28 M) 35 ik) zl (uf (uf (uf (uf (uf (uf (uf f 1 tb) 5 (iu (iu (iu va 0 (gm_12 0)) 1 (gm_12 1)) 2 (gm_12 2))) 6 gm_12) 7 gw_13) 10 pp) 11 li) 12 ty) fl 1) rfl rfl (by omega) (by omega) (by omega) rfl ?_
    refine Rx.iinc (b := 1) rfl rfl rfl ?_
    refine Rx.walk 0 (pc' := 105) (L' := [some (.ref 0), some (.int (iz 0)), some (.int (iz n)), some (.int (iz 3))]) (st' := []) (h' := cmH (u1 (u1 (u1 (u1 (u1 (u1 (u1 (u1 (u1 (u1 (u1 (u1 (u1 z 0 0) 6 0) 8 0) 9 n) 10 a_9) 11 fa_10) 21 K_11) 22 pi_) 23 len) 24 tr) 25 K_11) 28 M) 35 ik) zl (uf (uf (uf (uf (uf (uf (uf f 1 tb) 5 (iu (iu (iu va 0 (gm_12 0)) 1 (gm_12 1)) 2 (gm_12 2))) 6 gm_12) 7 gw_13) 10 pp) 11 li) 12 ty) fl 1) rfl ?_
    refine Rx.walk 3 (pc' := 87) (L' := [some (.ref 0), some (.int (iz 0)), some (.int (iz n)), some (.int (iz 3))]) (st' := [.int (iz 4), .int (iz 3)]) (h' := cmH (u1 (u1 (u1 (u1 (u1 (u1 (u1 (u1 (u1 (u1 (u1 (u1 (u1 z 0 0) 6 0) 8 0) 9 n) 10 a_9) 11 fa_10) 21 K_11) 22 pi_) 23 len) 24 tr) 25 K_11) 28 M) 35 ik) zl (uf (uf (uf (uf (uf (uf (uf f 1 tb) 5 (iu (iu (iu va 0 (gm_12 0)) 1 (gm_12 1)) 2 (gm_12 2))) 6 gm_12) 7 gw_13) 10 pp) 11 li) 12 ty) fl 1) rfl ?_
    refine Rx.ge2 rfl rfl ⟨by omega, by omega⟩ ⟨by omega, by omega⟩ (fun b26 => by omega) (fun b26 => ?_)
    refine Rx.walk 6 (pc' := 100) (L' := [some (.ref 0), some (.int (iz 0)), some (.int (iz n)), some (.int (iz 3))]) (st' := [.int (iz 3), .ref 6, .int (iz 3), .ref 5]) (h' := cmH (u1 (u1 (u1 (u1 (u1 (u1 (u1 (u1 (u1 (u1 (u1 (u1 (u1 z 0 0) 6 0) 8 0) 9 n) 10 a_9) 11 fa_10) 21 K_11) 22 pi_) 23 len) 24 tr) 25 K_11) 28 M) 35 ik) zl (uf (uf (uf (uf (uf (uf (uf f 1 tb) 5 (iu (iu (iu va 0 (gm_12 0)) 1 (gm_12 1)) 2 (gm_12 2))) 6 gm_12) 7 gw_13) 10 pp) 11 li) 12 ty) fl 1) rfl ?_
    refine Rx.ial (g := gm_12) rfl rfl (by omega) (by omega) (by omega) ?_
    refine Rx.ias (g := (iu (iu (iu va 0 (gm_12 0)) 1 (gm_12 1)) 2 (gm_12 2))) (h' := cmH (u1 (u1 (u1 (u1 (u1 (u1 (u1 (u1 (u1 (u1 (u1 (u1 (u1 z 0 0) 6 0) 8 0) 9 n) 10 a_9) 11 fa_10) 21 K_11) 22 pi_) 23 len) 24 tr) 25 K_11) 28 M) 35 ik) zl (uf (uf (uf (uf (uf (uf (uf f 1 tb) 5 (iu (iu (iu (iu va 0 (gm_12 0)) 1 (gm_12 1)) 2 (gm_12 2)) 3 (gm_12 3))) 6 gm_12) 7 gw_13) 10 pp) 11 li) 12 ty) fl 1) rfl rfl (by omega) (by omega) (by omega) rfl ?_
    refine Rx.iinc (b := 1) rfl rfl rfl ?_
    refine Rx.walk 0 (pc' := 105) (L' := [some (.ref 0), some (.int (iz 0)), some (.int (iz n)), some (.int (iz 4))]) (st' := []) (h' := cmH (u1 (u1 (u1 (u1 (u1 (u1 (u1 (u1 (u1 (u1 (u1 (u1 (u1 z 0 0) 6 0) 8 0) 9 n) 10 a_9) 11 fa_10) 21 K_11) 22 pi_) 23 len) 24 tr) 25 K_11) 28 M) 35 ik) zl (uf (uf (uf (uf (uf (uf (uf f 1 tb) 5 (iu (iu (iu (iu va 0 (gm_12 0)) 1 (gm_12 1)) 2 (gm_12 2)) 3 (gm_12 3))) 6 gm_12) 7 gw_13) 10 pp) 11 li) 12 ty) fl 1) rfl ?_
    refine Rx.walk 3 (pc' := 87) (L' := [some (.ref 0), some (.int (iz 0)), some (.int (iz n)), some (.int (iz 4))]) (st' := [.int (iz 4), .int (iz 4)]) (h' := cmH (u1 (u1 (u1 (u1 (u1 (u1 (u1 (u1 (u1 (u1 (u1 (u1 (u1 z 0 0) 6 0) 8 0) 9 n) 10 a_9) 11 fa_10) 21 K_11) 22 pi_) 23 len) 24 tr) 25 K_11) 28 M) 35 ik) zl (uf (uf (uf (uf (uf (uf (uf f 1 tb) 5 (iu (iu (iu (iu va 0 (gm_12 0)) 1 (gm_12 1)) 2 (gm_12 2)) 3 (gm_12 3))) 6 gm_12) 7 gw_13) 10 pp) 11 li) 12 ty) fl 1) rfl ?_
    refine Rx.ge2 rfl rfl ⟨by omega, by omega⟩ ⟨by omega, by omega⟩ (fun b27 => ?_) (fun b27 => by omega)
    refine Rx.walk 4 (pc' := 114) (L' := [some (.ref 0), some (.int (iz 0)), some (.int (iz n)), some (.int (iz 4))]) (st' := [.int (iz 0), .ref 7, .ref 0]) (h' := cmH (u1 (u1 (u1 (u1 (u1 (u1 (u1 (u1 (u1 (u1 (u1 (u1 (u1 z 0 0) 6 0) 8 0) 9 n) 10 a_9) 11 fa_10) 21 K_11) 22 pi_) 23 len) 24 tr) 25 K_11) 28 M) 35 ik) zl (uf (uf (uf (uf (uf (uf (uf f 1 tb) 5 (iu (iu (iu (iu va 0 (gm_12 0)) 1 (gm_12 1)) 2 (gm_12 2)) 3 (gm_12 3))) 6 gm_12) 7 gw_13) 10 pp) 11 li) 12 ty) fl 1) rfl ?_
    refine Rx.ial (g := gw_13) rfl rfl (by omega) (by omega) (by omega) ?_
    refine Rx.walk 5 (pc' := 124) (L' := [some (.ref 0), some (.int (iz 0)), some (.int (iz n)), some (.int (iz 4))]) (st' := [.int (iz 1), .ref 7, .ref 0]) (h' := cmH (u1 (u1 (u1 (u1 (u1 (u1 (u1 (u1 (u1 (u1 (u1 (u1 (u1 z 0 0) 6 0) 8 0) 9 n) 10 a_9) 11 fa_10) 21 K_11) 22 (gw_13 0)) 23 len) 24 tr) 25 K_11) 28 M) 35 ik) zl (uf (uf (uf (uf (uf (uf (uf f 1 tb) 5 (iu (iu (iu (iu va 0 (gm_12 0)) 1 (gm_12 1)) 2 (gm_12 2)) 3 (gm_12 3))) 6 gm_12) 7 gw_13) 10 pp) 11 li) 12 ty) fl 1) rfl ?_
    refine Rx.ial (g := gw_13) rfl rfl (by omega) (by omega) (by omega) ?_
    refine Rx.walk 5 (pc' := 134) (L' := [some (.ref 0), some (.int (iz 0)), some (.int (iz n)), some (.int (iz 4))]) (st' := [.int (iz 2), .ref 7, .ref 0]) (h' := cmH (u1 (u1 (u1 (u1 (u1 (u1 (u1 (u1 (u1 (u1 (u1 (u1 (u1 z 0 0) 6 0) 8 0) 9 n) 10 a_9) 11 fa_10) 21 K_11) 22 (gw_13 0)) 23 (gw_13 1)) 24 tr) 25 K_11) 28 M) 35 ik) zl (uf (uf (uf (uf (uf (uf (uf f 1 tb) 5 (iu (iu (iu (iu va 0 (gm_12 0)) 1 (gm_12 1)) 2 (gm_12 2)) 3 (gm_12 3))) 6 gm_12) 7 gw_13) 10 pp) 11 li) 12 ty) fl 1) rfl ?_
    refine Rx.ial (g := gw_13) rfl rfl (by omega) (by omega) (by omega) ?_
    refine Rx.walk 9 (pc' := 150) (L' := [some (.ref 0), some (.int (iz 0)), some (.int (iz n)), some (.int (iz 4))]) (st' := [.long (jz 0), .ref 0]) (h' := cmH (u1 (u1 (u1 (u1 (u1 (u1 (u1 (u1 (u1 (u1 (u1 (u1 (u1 z 0 0) 6 0) 8 0) 9 n) 10 a_9) 11 fa_10) 21 K_11) 22 (gw_13 0)) 23 (gw_13 1)) 24 (gw_13 2)) 25 K_11) 28 0) 35 0) zl (uf (uf (uf (uf (uf (uf (uf f 1 tb) 5 (iu (iu (iu (iu va 0 (gm_12 0)) 1 (gm_12 1)) 2 (gm_12 2)) 3 (gm_12 3))) 6 gm_12) 7 gw_13) 10 pp) 11 li) 12 ty) fl 1) rfl ?_
    refine Rx.callx (m' := m_X12_opensAs) (as := [.ref 0, .long (jz 0)]) (rest := []) rfl (m_opensAs _ (u1 (u1 (u1 (u1 (u1 (u1 (u1 (u1 (u1 (u1 (u1 (u1 (u1 z 0 0) 6 0) 8 0) 9 n) 10 a_9) 11 fa_10) 21 K_11) 22 (gw_13 0)) 23 (gw_13 1)) 24 (gw_13 2)) 25 K_11) 28 0) 35 0) zl (uf (uf (uf (uf f 1 tb) 5 (iu (iu (iu (iu va 0 (gm_12 0)) 1 (gm_12 1)) 2 (gm_12 2)) 3 (gm_12 3))) 6 gm_12) 7 gw_13) fl 1  0 K_11 0 0 0 pp li ty tn_000 (by omega) (by omega) (by omega) ⟨0, by omega, rfl⟩ ⟨0, by omega, rfl⟩ (by omega) (by omega)) (fun v32 h33 q34 => ?_)
    obtain ⟨pp_28, li_29, ty_30, rfl, rfl, f31⟩ := q34
    refine Rx.walk 0 (pc' := 153) (L' := [some (.ref 0), some (.int (iz 0)), some (.int (iz n)), some (.int (iz 4))]) (st' := []) (h' := cmH (u1 (u1 (u1 (u1 (u1 (u1 (u1 (u1 (u1 (u1 (u1 (u1 (u1 z 0 0) 6 0) 8 0) 9 n) 10 a_9) 11 fa_10) 21 K_11) 22 (gw_13 0)) 23 (gw_13 1)) 24 (gw_13 2)) 25 K_11) 28 0) 35 0) zl (uf (uf (uf (uf (uf (uf (uf f 1 tb) 5 (iu (iu (iu (iu va 0 (gm_12 0)) 1 (gm_12 1)) 2 (gm_12 2)) 3 (gm_12 3))) 6 gm_12) 7 gw_13) 10 pp_28) 11 li_29) 12 ty_30) fl 1) rfl ?_
    refine Rx.walk 2 (pc' := 157) (L' := [some (.ref 0), some (.int (iz 0)), some (.int (iz n)), some (.int (iz 4))]) (st' := [.int (iz K_11)]) (h' := cmH (u1 (u1 (u1 (u1 (u1 (u1 (u1 (u1 (u1 (u1 (u1 (u1 (u1 z 0 0) 6 0) 8 0) 9 n) 10 a_9) 11 fa_10) 21 K_11) 22 (gw_13 0)) 23 (gw_13 1)) 24 (gw_13 2)) 25 K_11) 28 0) 35 0) zl (uf (uf (uf (uf (uf (uf (uf f 1 tb) 5 (iu (iu (iu (iu va 0 (gm_12 0)) 1 (gm_12 1)) 2 (gm_12 2)) 3 (gm_12 3))) 6 gm_12) 7 gw_13) 10 pp_28) 11 li_29) 12 ty_30) fl 1) rfl ?_
    refine Rx.ret rfl ?_
    refine ⟨_, _, _, _, _, _, _, _, _, _, _, _, _, _, _, _, _, rfl, rfl, Or.inr ⟨by rw [← f14]; omega, rfl, rfl, rfl, rfl, ?_, f31⟩, f16⟩
    intro l s hs
    obtain ⟨e1, e2, e3⟩ := f17 l s hs
    refine ⟨e1, lst_cg (fun j j0 j1 => ?_) e2, e3⟩
    have hl4 : (l.length : Int) ≤ 4 := by omega
    rcases (show j = 0 ∨ j = 1 ∨ j = 2 ∨ j = 3 by omega) with q | q | q | q <;> subst q <;> rfl
  · refine Rx.walk 1 (pc' := 60) (L' := [some (.ref 0), some (.int (iz 0)), none, none]) (st' := [.int (iz (-1))]) (h' := cmH (u1 (u1 (u1 (u1 (u1 (u1 (u1 (u1 (u1 (u1 (u1 (u1 (u1 z 0 0) 6 n) 8 0) 9 n) 10 a_9) 11 fa_10) 21 K) 22 pi_) 23 len) 24 tr) 25 K_11) 28 M) 35 ik) zl (uf (uf (uf (uf (uf (uf (uf f 1 tb) 5 va) 6 gm_12) 7 gw_13) 10 pp) 11 li) 12 ty) fl 1) rfl ?_
    refine Rx.ret rfl ?_
    exact ⟨_, _, _, _, _, _, _, _, _, _, _, _, _, _, _, _, _, rfl, rfl, Or.inl ⟨by rw [← f14]; omega, rfl, rfl, rfl, rfl, rfl, rfl, rfl, rfl, rfl, rfl, rfl, rfl⟩, f16⟩
set_option maxRecDepth 100000 in
set_option maxHeartbeats 4000000 in
theorem m_text1F (d : Nat) (z : Nat → Int) (zl : Nat → Int) (f : Nat → Int → Int) (fl : Nat → Int → Int) (tx : Nat)  (K : Int) (M : Int) (hK : 0 ≤ K ∧ K ≤ 4) (hM : 0 ≤ M ∧ M ≤ 4) (hF : K = 0 ∨ M = 4) : Rx (d + 1) m_X12_text 0 (am_ent [.ref 0, .int (iz 1)] 4) [] (cmH (u1 (u1 z 21 K) 28 M) zl f fl tx) (fun rv h => rv = some (.int (iz (-1))) ∧ h = cmH (u1 (u1 (u1 z 0 0) 21 K) 28 M) zl f fl tx) := by
  refine Rx.walk 0 (pc' := 0) (L' := [some (.ref 0), some (.int (iz 1)), none, none]) (st' := []) (h' := cmH (u1 (u1 z 21 K) 28 M) zl f fl tx) rfl ?_
  refine Rx.walk 4 (pc' := 6) (L' := [some (.ref 0), some (.int (iz 1)), none, none]) (st' := [.int (iz 1)]) (h' := cmH (u1 (u1 (u1 z 0 0) 21 K) 28 M) zl f fl tx) rfl ?_
  refine Rx.i2l rfl ⟨by omega, by omega⟩ ?_
  refine Rx.walk 2 (pc' := 11) (L' := [some (.ref 0), some (.int (iz 1)), none, none]) (st' := [.long (jz 2), .long (jz 0), .long (jz 1)]) (h' := cmH (u1 (u1 (u1 z 0 0) 21 K) 28 M) zl f fl tx) rfl ?_
  refine Rx.callx (m' := m_X12_isIn) (as := [.long (jz 1), .long (jz 0), .long (jz 2)]) (rest := []) rfl (n_isIn _ (cmH (u1 (u1 (u1 z 0 0) 21 K) 28 M) zl f fl tx)  1 0 2 ⟨by omega, by omega⟩ ⟨by omega, by omega⟩ ⟨by omega, by omega⟩) (fun v3 h4 q5 => ?_)
  obtain ⟨r_1, rfl, rfl, f2⟩ := q5
  refine Rx.walk 0 (pc' := 14) (L' := [some (.ref 0), some (.int (iz 1)), none, none]) (st' := [.int (iz r_1)]) (h' := cmH (u1 (u1 (u1 z 0 0) 21 K) 28 M) zl f fl tx) rfl ?_
  refine Rx.eq1 rfl rfl ⟨by omega, by omega⟩ (fun b6 => by omega) (fun b6 => ?_)
  refine Rx.walk 2 (pc' := 19) (L' := [some (.ref 0), some (.int (iz 1)), none, none]) (st' := [.int (iz 1), .int (iz 1)]) (h' := cmH (u1 (u1 (u1 z 0 0) 21 K) 28 M) zl f fl tx) rfl ?_
  refine Rx.ne2 rfl rfl ⟨by omega, by omega⟩ ⟨by omega, by omega⟩ (fun b7 => by omega) (fun b7 => ?_)
  refine Rx.walk 2 (pc' := 26) (L' := [some (.ref 0), some (.int (iz 1)), none, none]) (st' := [.int (iz K)]) (h' := cmH (u1 (u1 (u1 z 0 0) 21 K) 28 M) zl f fl tx) rfl ?_
  refine Rx.eq1 rfl rfl ⟨by omega, by omega⟩ (fun b8 => ?_) (fun b8 => ?_)
  · refine Rx.walk 1 (pc' := 60) (L' := [some (.ref 0), some (.int (iz 1)), none, none]) (st' := [.int (iz (-1))]) (h' := cmH (u1 (u1 (u1 z 0 0) 21 K) 28 M) zl f fl tx) rfl ?_
    refine Rx.ret rfl ?_
    exact ⟨rfl, rfl⟩
  · refine Rx.walk 3 (pc' := 34) (L' := [some (.ref 0), some (.int (iz 1)), none, none]) (st' := [.int (iz 4), .int (iz M)]) (h' := cmH (u1 (u1 (u1 z 0 0) 21 K) 28 M) zl f fl tx) rfl ?_
    refine Rx.eq2 rfl rfl ⟨by omega, by omega⟩ ⟨by omega, by omega⟩ (fun b9 => ?_) (fun b9 => by omega)
    refine Rx.walk 1 (pc' := 60) (L' := [some (.ref 0), some (.int (iz 1)), none, none]) (st' := [.int (iz (-1))]) (h' := cmH (u1 (u1 (u1 z 0 0) 21 K) 28 M) zl f fl tx) rfl ?_
    refine Rx.ret rfl ?_
    exact ⟨rfl, rfl⟩
set_option maxRecDepth 100000 in
set_option maxHeartbeats 4000000 in
theorem m_text1 (d : Nat) (z : Nat → Int) (zl : Nat → Int) (f : Nat → Int → Int) (fl : Nat → Int → Int) (tx : Nat)  (n : Int) (tb : Int → Int) (b : Int → Int) (K : Int) (M : Int) (pu : Int → Int) (prr : Int → Int) (sm : Int → Int) (hT : tOK n b) (hM : mOK n 0 160 tb b) (hK : 1 ≤ K ∧ K ≤ 4) (hM4 : 0 ≤ M ∧ M < 4) : Rx (d + 4) m_X12_text 0 (am_ent [.ref 0, .int (iz 1)] 4) [] (cmH (u1 (u1 (u1 z 6 n) 21 K) 28 M) zl (uf (uf (uf (uf f 1 tb) 8 prr) 9 pu) 13 sm) fl tx) (fun rv h => ∃ r : Int, ∃ n' : Int, ∃ a' : Int, ∃ fa' : Int, ∃ M' : Int, ∃ pu' : Int → Int, ∃ prr' : Int → Int, ∃ sm' : Int → Int, rv = some (.int (iz r)) ∧ h = cmH (u1 (u1 (u1 (u1 (u1 (u1 (u1 (u1 z 0 0) 6 n') 8 0) 9 n) 10 a') 11 fa') 21 K) 28 M') zl (uf (uf (uf (uf f 1 tb) 8 prr') 9 pu') 13 sm') fl 1 ∧ (((cuP n b (k4 K)).1 ≠ -1 ∧ r = -1 ∧ n' = n ∧ M' = M ∧ sm' = sm ∧ (∀ j : Int, 0 ≤ j → j < 16 → pu' j = pu j) ∧ (∀ j : Int, 0 ≤ j → j < 4 → prr' j = prr j)) ∨ ((cuP n b (k4 K)).1 = -1 ∧ r = M ∧ n' = 0 ∧ M' = M + 1 ∧ (∀ (v : Int) (l : List Int), (cuP n b (k4 K)).2 = some (v, l) → prr' M = v ∧ ∀ k : Int, 0 ≤ k → k < 4 → pu' (4 * M + k) = (l.count k : Int)) ∧ (∀ j : Int, 0 ≤ j → j < 4 * M → pu' j = pu j) ∧ (∀ j : Int, 0 ≤ j → j < M → prr' j = prr j) ∧ sm' = iu sm M 0)) ∧ (0 ≤ a' ∧ a' ≤ n)) := by
  obtain ⟨hT1, hT2, hT3⟩ := id hT
  refine Rx.walk 0 (pc' := 0) (L' := [some (.ref 0), some (.int (iz 1)), none, none]) (st' := []) (h' := cmH (u1 (u1 (u1 z 6 n) 21 K) 28 M) zl (uf (uf (uf (uf f 1 tb) 8 prr) 9 pu) 13 sm) fl tx) rfl ?_
  refine Rx.walk 4 (pc' := 6) (L' := [some (.ref 0), some (.int (iz 1)), none, none]) (st' := [.int (iz 1)]) (h' := cmH (u1 (u1 (u1 (u1 z 0 0) 6 n) 21 K) 28 M) zl (uf (uf (uf (uf f 1 tb) 8 prr) 9 pu) 13 sm) fl tx) rfl ?_
  refine Rx.i2l rfl ⟨by omega, by omega⟩ ?_
  refine Rx.walk 2 (pc' := 11) (L' := [some (.ref 0), some (.int (iz 1)), none, none]) (st' := [.long (jz 2), .long (jz 0), .long (jz 1)]) (h' := cmH (u1 (u1 (u1 (u1 z 0 0) 6 n) 21 K) 28 M) zl (uf (uf (uf (uf f 1 tb) 8 prr) 9 pu) 13 sm) fl tx) rfl ?_
  refine Rx.callx (m' := m_X12_isIn) (as := [.long (jz 1), .long (jz 0), .long (jz 2)]) (rest := []) rfl (n_isIn _ (cmH (u1 (u1 (u1 (u1 z 0 0) 6 n) 21 K) 28 M) zl (uf (uf (uf (uf f 1 tb) 8 prr) 9 pu) 13 sm) fl tx)  1 0 2 ⟨by omega, by omega⟩ ⟨by omega, by omega⟩ ⟨by omega, by omega⟩) (fun v3 h4 q5 => ?_)
  obtain ⟨r_1, rfl, rfl, f2⟩ := q5
  refine Rx.walk 0 (pc' := 14) (L' := [some (.ref 0), some (.int (iz 1)), none, none]) (st' := [.int (iz r_1)]) (h' := cmH (u1 (u1 (u1 (u1 z 0 0) 6 n) 21 K) 28 M) zl (uf (uf (uf (uf f 1 tb) 8 prr) 9 pu) 13 sm) fl tx) rfl ?_
  refine Rx.eq1 rfl rfl ⟨by omega, by omega⟩ (fun b6 => by omega) (fun b6 => ?_)
  refine Rx.walk 2 (pc' := 19) (L' := [some (.ref 0), some (.int (iz 1)), none, none]) (st' := [.int (iz 1), .int (iz 1)]) (h' := cmH (u1 (u1 (u1 (u1 z 0 0) 6 n) 21 K) 28 M) zl (uf (uf (uf (uf f 1 tb) 8 prr) 9 pu) 13 sm) fl tx) rfl ?_
  refine Rx.ne2 rfl rfl ⟨by omega, by omega⟩ ⟨by omega, by omega⟩ (fun b7 => by omega) (fun b7 => ?_)
  refine Rx.walk 2 (pc' := 26) (L' := [some (.ref 0), some (.int (iz 1)), none, none]) (st' := [.int (iz K)]) (h' := cmH (u1 (u1 (u1 (u1 z 0 0) 6 n) 21 K) 28 M) zl (uf (uf (uf (uf f 1 tb) 8 prr) 9 pu) 13 sm) fl tx) rfl ?_
  refine Rx.eq1 rfl rfl ⟨by omega, by omega⟩ (fun b8 => by omega) (fun b8 => ?_)
  refine Rx.walk 3 (pc' := 34) (L' := [some (.ref 0), some (.int (iz 1)), none, none]) (st' := [.int (iz 4), .int (iz M)]) (h' := cmH (u1 (u1 (u1 (u1 z 0 0) 6 n) 21 K) 28 M) zl (uf (uf (uf (uf f 1 tb) 8 prr) 9 pu) 13 sm) fl tx) rfl ?_
  refine Rx.eq2 rfl rfl ⟨by omega, by omega⟩ ⟨by omega, by omega⟩ (fun b9 => by omega) (fun b9 => ?_)
  refine Rx.walk 2 (pc' := 39) (L' := [some (.ref 0), some (.int (iz 1)), none, none]) (st' := [.int (iz 2), .int (iz 1)]) (h' := cmH (u1 (u1 (u1 (u1 z 0 0) 6 n) 21 K) 28 M) zl (uf (uf (uf (uf f 1 tb) 8 prr) 9 pu) 13 sm) fl tx) rfl ?_
  refine Rx.ne2 rfl rfl ⟨by omega, by omega⟩ ⟨by omega, by omega⟩ (fun b10 => ?_) (fun b10 => by omega)
  refine Rx.walk 2 (pc' := 52) (L' := [some (.ref 0), some (.int (iz 1)), none, none]) (st' := [.int (iz 1), .ref 0]) (h' := cmH (u1 (u1 (u1 (u1 z 0 0) 6 n) 21 K) 28 M) zl (uf (uf (uf (uf f 1 tb) 8 prr) 9 pu) 13 sm) fl tx) rfl ?_
  refine Rx.callx (m' := m_X12_fault) (as := [.ref 0, .int (iz 1)]) (rest := []) rfl (m_fault1 _ (u1 (u1 z 0 0) 28 M) zl (uf f 13 sm) fl tx  n tb b K pu prr hT hM ⟨by omega, by omega⟩) (fun v21 h22 q23 => ?_)
  obtain ⟨a_11, fa_12, pu_13, prr_14, rfl, rfl, f15, f16, f17, f18, f19, f20⟩ := q23
  refine Rx.walk 0 (pc' := 55) (L' := [some (.ref 0), some (.int (iz 1)), none, none]) (st' := [.int (iz fa_12)]) (h' := cmH (u1 (u1 (u1 (u1 (u1 (u1 (u1 (u1 z 0 0) 6 n) 8 0) 9 n) 10 a_11) 11 fa_12) 21 K) 28 M) zl (uf (uf (uf (uf f 1 tb) 8 prr_14) 9 pu_13) 13 sm) fl 1) rfl ?_
  refine Rx.walk 1 (pc' := 56) (L' := [some (.ref 0), some (.int (iz 1)), none, none]) (st' := [.int (iz (-1)), .int (iz fa_12)]) (h' := cmH (u1 (u1 (u1 (u1 (u1 (u1 (u1 (u1 z 0 0) 6 n) 8 0) 9 n) 10 a_11) 11 fa_12) 21 K) 28 M) zl (uf (uf (uf (uf f 1 tb) 8 prr_14) 9 pu_13) 13 sm) fl 1) rfl ?_
  refine Rx.eq2 rfl rfl ⟨by omega, by omega⟩ ⟨by omega, by omega⟩ (fun b24 => ?_) (fun b24 => ?_)
  · refine Rx.walk 7 (pc' := 72) (L' := [some (.ref 0), some (.int (iz 1)), some (.int (iz n)), none]) (st' := [.int (iz 1)]) (h' := cmH (u1 (u1 (u1 (u1 (u1 (u1 (u1 (u1 z 0 0) 6 0) 8 0) 9 n) 10 a_11) 11 fa_12) 21 K) 28 M) zl (uf (uf (uf (uf f 1 tb) 8 prr_14) 9 pu_13) 13 sm) fl 1) rfl ?_
    refine Rx.ne1 rfl rfl ⟨by omega, by omega⟩ (fun b25 => ?_) (fun b25 => by omega)
    refine Rx.walk 2 (pc' := 160) (L' := [some (.ref 0), some (.int (iz 1)), some (.int (iz n)), none]) (st' := [.int (iz 1), .int (iz 1)]) (h' := cmH (u1 (u1 (u1 (u1 (u1 (u1 (u1 (u1 z 0 0) 6 0) 8 0) 9 n) 10 a_11) 11 fa_12) 21 K) 28 M) zl (uf (uf (uf (uf f 1 tb) 8 prr_14) 9 pu_13) 13 sm) fl 1) rfl ?_
    refine Rx.ne2 rfl rfl ⟨by omega, by omega⟩ ⟨by omega, by omega⟩ (fun b26 => by omega) (fun b26 => ?_)
    refine Rx.walk 7 (pc' := 176) (L' := [some (.ref 0), some (.int (iz 1)), some (.int (iz n)), none]) (st' := [.int (iz 4), .ref 8, .int (iz M), .ref 8]) (h' := cmH (u1 (u1 (u1 (u1 (u1 (u1 (u1 (u1 z 0 0) 6 0) 8 0) 9 n) 10 a_11) 11 fa_12) 21 K) 28 M) zl (uf (uf (uf (uf f 1 tb) 8 prr_14) 9 pu_13) 13 sm) fl 1) rfl ?_
    refine Rx.ial (g := prr_14) rfl rfl (by omega) (by omega) (by omega) ?_
    refine Rx.ias (g := prr_14) (h' := cmH (u1 (u1 (u1 (u1 (u1 (u1 (u1 (u1 z 0 0) 6 0) 8 0) 9 n) 10 a_11) 11 fa_12) 21 K) 28 M) zl (uf (uf (uf (uf f 1 tb) 8 (iu prr_14 M (prr_14 4))) 9 pu_13) 13 sm) fl 1) rfl rfl (by omega) (by omega) (by omega) rfl ?_
    refine Rx.walk 4 (pc' := 182) (L' := [some (.ref 0), some (.int (iz 1)), some (.int (iz n)), some (.int (iz 0))]) (st' := [.int (iz 4), .int (iz 0)]) (h' := cmH (u1 (u1 (u1 (u1 (u1 (u1 (u1 (u1 z 0 0) 6 0) 8 0) 9 n) 10 a_11) 11 fa_12) 21 K) 28 M) zl (uf (uf (uf (uf f 1 tb) 8 (iu prr_14 M (prr_14 4))) 9 pu_13) 13 sm) fl 1) rfl ?_
    refine Rx.ge2 rfl rfl ⟨by omega, by omega⟩ ⟨by omega, by omega⟩ (fun b27 => by omega) (fun b27 => ?_)
    refine Rx.walk 5 (pc' := 194) (L' := [some (.ref 0), some (.int (iz 1)), some (.int (iz n)), some (.int (iz 0))]) (st' := [.int (iz M), .int (iz 4), .ref 9]) (h' := cmH (u1 (u1 (u1 (u1 (u1 (u1 (u1 (u1 z 0 0) 6 0) 8 0) 9 n) 10 a_11) 11 fa_12) 21 K) 28 M) zl (uf (uf (uf (uf f 1 tb) 8 (iu prr_14 M (prr_14 4))) 9 pu_13) 13 sm) fl 1) rfl ?_
    refine Rx.imul rfl ?_
    refine Rx.walk 1 (pc' := 196) (L' := [some (.ref 0), some (.int (iz 1)), some (.int (iz n)), some (.int (iz 0))]) (st' := [.int (iz 0), .int (iz (4 * M)), .ref 9]) (h' := cmH (u1 (u1 (u1 (u1 (u1 (u1 (u1 (u1 z 0 0) 6 0) 8 0) 9 n) 10 a_11) 11 fa_12) 21 K) 28 M) zl (uf (uf (uf (uf f 1 tb) 8 (iu prr_14 M (prr_14 4))) 9 pu_13) 13 sm) fl 1) rfl ?_
    refine Rx.iadd rfl ?_
    refine Rx.walk 4 (pc' := 204) (L' := [some (.ref 0), some (.int (iz 1)), some (.int (iz n)), some (.int (iz 0))]) (st' := [.int (iz 0), .int (iz 16), .ref 9, .int (iz ((4 * M) + 0)), .ref 9]) (h' := cmH (u1 (u1 (u1 (u1 (u1 (u1 (u1 (u1 z 0 0) 6 0) 8 0) 9 n) 10 a_11) 11 fa_12) 21 K) 28 M) zl (uf (uf (uf (uf f 1 tb) 8 (iu prr_14 M (prr_14 4))) 9 pu_13) 13 sm) fl 1) rfl ?_
    refine Rx.iadd rfl ?_
    refine Rx.walk 0 (pc' := 205) (L' := [some (.ref 0), some (.int (iz 1)), some (.int (iz n)), some (.int (iz 0))]) (st' := [.int (iz 16), .ref 9, .int (iz ((4 * M) + 0)), .ref 9]) (h' := cmH (u1 (u1 (u1 (u1 (u1 (u1 (u1 (u1 z 0 0) 6 0) 8 0) 9 n) 10 a_11) 11 fa_12) 21 K) 28 M) zl (uf (uf (uf (uf f 1 tb) 8 (iu prr_14 M (prr_14 4))) 9 pu_13) 13 sm) fl 1) rfl ?_
    refine Rx.ial (g := pu_13) rfl rfl (by omega) (by omega) (by omega) ?_
    refine Rx.ias (g := pu_13) (h' := cmH (u1 (u1 (u1 (u1 (u1 (u1 (u1 (u1 z 0 0) 6 0) 8 0) 9 n) 10 a_11) 11 fa_12) 21 K) 28 M) zl (uf (uf (uf (uf f 1 tb) 8 (iu prr_14 M (prr_14 4))) 9 (iu pu_13 ((4 * M) + 0) (pu_13 16))) 13 sm) fl 1) rfl rfl (by omega) (by omega) (by omega) rfl ?_
    refine Rx.iinc (b := 1) rfl rfl rfl ?_
    refine Rx.walk 0 (pc' := 210) (L' := [some (.ref 0), some (.int (iz 1)), some (.int (iz n)), some (.int (iz 1))]) (st' := []) (h' := cmH (u1 (u1 (u1 (u1 (u1 (u1 (u1 (u1 z 0 0) 6 0) 8 0) 9 n) 10 a_11) 11 fa_12) 21 K) 28 M) zl (uf (uf (uf (uf f 1 tb) 8 (iu prr_14 M (prr_14 4))) 9 (iu pu_13 ((4 * M) + 0) (pu_13 16))) 13 sm) fl 1) rfl ?_
    refine Rx.walk 3 (pc' := 182) (L' := [some (.ref 0), some (.int (iz 1)), some (.int (iz n)), some (.int (iz 1))]) (st' := [.int (iz 4), .int (iz 1)]) (h' := cmH (u1 (u1 (u1 (u1 (u1 (u1 (u1 (u1 z 0 0) 6 0) 8 0) 9 n) 10 a_11) 11 fa_12) 21 K) 28 M) zl (uf (uf (uf (uf f 1 tb) 8 (iu prr_14 M (prr_14 4))) 9 (iu pu_13 ((4 * M) + 0) (pu_13 16))) 13 sm) fl 1) rfl ?_
    refine Rx.ge2 rfl rfl ⟨by omega, by omega⟩ ⟨by omega, by omega⟩ (fun b28 => by omega) (fun b28 => ?_)
    refine Rx.walk 5 (pc' := 194) (L' := [some (.ref 0), some (.int (iz 1)), some (.int (iz n)), some (.int (iz 1))]) (st' := [.int (iz M), .int (iz 4), .ref 9]) (h' := cmH (u1 (u1 (u1 (u1 (u1 (u1 (u1 (u1 z 0 0) 6 0) 8 0) 9 n) 10 a_11) 11 fa_12) 21 K) 28 M) zl (uf (uf (uf (uf f 1 tb) 8 (iu prr_14 M (prr_14 4))) 9 (iu pu_13 ((4 * M) + 0) (pu_13 16))) 13 sm) fl 1) rfl ?_
    refine Rx.imul rfl ?_
    refine Rx.walk 1 (pc' := 196) (L' := [some (.ref 0), some (.int (iz 1)), some (.int (iz n)), some (.int (iz 1))]) (st' := [.int (iz 1), .int (iz (4 * M)), .ref 9]) (h' := cmH (u1 (u1 (u1 (u1 (u1 (u1 (u1 (u1 z 0 0) 6 0) 8 0) 9 n) 10 a_11) 11 fa_12) 21 K) 28 M) zl (uf (uf (uf (uf f 1 tb) 8 (iu prr_14 M (prr_14 4))) 9 (iu pu_13 ((4 * M) + 0) (pu_13 16))) 13 sm) fl 1) rfl ?_
    refine Rx.iadd rfl ?_
    refine Rx.walk 4 (pc' := 204) (L' := [some (.ref 0), some (.int (iz 1)), some (.int (iz n)), some (.int (iz 1))]) (st' := [.int (iz 1), .int (iz 16), .ref 9, .int (iz ((4 * M) + 1)), .ref 9]) (h' := cmH (u1 (u1 (u1 (u1 (u1 (u1 (u1 (u1 z 0 0) 6 0) 8 0) 9 n) 10 a_11) 11 fa_12) 21 K) 28 M) zl (uf (uf (uf (uf f 1 tb) 8 (iu prr_14 M (prr_14 4))) 9 (iu pu_13 ((4 * M) + 0) (pu_13 16))) 13 sm) fl 1) rfl ?_
    refine Rx.iadd rfl ?_
    refine Rx.walk 0 (pc' := 205) (L' := [some (.ref 0), some (.int (iz 1)), some (.int (iz n)), some (.int (iz 1))]) (st' := [.int (iz 17), .ref 9, .int (iz ((4 * M) + 1)), .ref 9]) (h' := cmH (u1 (u1 (u1 (u1 (u1 (u1 (u1 (u1 z 0 0) 6 0) 8 0) 9 n) 10 a_11) 11 fa_12) 21 K) 28 M) zl (uf (uf (uf (uf f 1 tb) 8 (iu prr_14 M (prr_14 4))) 9 (iu pu_13 ((4 * M) + 0) (pu_13 16))) 13 sm) fl 1) rfl ?_
    refine Rx.ial (g := (iu pu_13 ((4 * M) + 0) (pu_13 16))) rfl rfl (by omega) (by omega) (by omega) ?_
    refine Rx.ias (g := (iu pu_13 ((4 * M) + 0) (pu_13 16))) (h' := cmH (u1 (u1 (u1 (u1 (u1 (u1 (u1 (u1 z 0 0) 6 0) 8 0) 9 n) 10 a_11) 11 fa_12) 21 K) 28 M) zl (uf (uf (uf (uf f 1 tb) 8 (iu prr_14 M (prr_14 4))) 9 (iu (iu pu_13 ((4 * M) + 0) (pu_13 16)) ((4 * M) + 1) ((iu pu_13 ((4 * M) + 0) (pu_13 16)) 17))) 13 sm) fl 1) rfl rfl (by omega) (by omega) (by omega) rfl ?_
    refine Rx.iinc (b := 1) rfl rfl rfl ?_
    refine Rx.walk 0 (pc' := 210) (L' := [some (.ref 0), some (.int (iz 1)), some (.int (iz n)), some (.int (iz 2))]) (st' := []) (h' := cmH (u1 (u1 (u1 (u1 (u1 (u1 (u1 (u1 z 0 0) 6 0) 8 0) 9 n) 10 a_11) 11 fa_12) 21 K) 28 M) zl (uf (uf (uf (uf f 1 tb) 8 (iu prr_14 M (prr_14 4))) 9 (iu (iu pu_13 ((4 * M) + 0) (pu_13 16)) ((4 * M) + 1) ((iu pu_13 ((4 * M) + 0) (pu_13 16)) 17))) 13 sm) fl 1) rfl ?_
    refine Rx.walk 3 (pc' := 182) (L' := [some (.ref 0), some (.int (iz 1)), some (.int (iz n)), some (.int (iz 2))]) (st' := [.int (iz 4), .int (iz 2)]) (h' := cmH (u1 (u1 (u1 (u1 (u1 (u1 (u1 (u1 z 0 0) 6 0) 8 0) 9 n) 10 a_11) 11 fa_12) 21 K) 28 M) zl (uf (uf (uf (uf f 1 tb) 8 (iu prr_14 M (prr_14 4))) 9 (iu (iu pu_13 ((4 * M) + 0) (pu_13 16)) ((4 * M) + 1) ((iu pu_13 ((4 * M) + 0) (pu_13 16)) 17))) 13 sm) fl 1) rfl ?_
    refine Rx.ge2 rfl rfl ⟨by omega, by omega⟩ ⟨by omega, by omega⟩ (fun b29 => by omega) (fun b29 => ?_)
    refine Rx.walk 5 (pc' := 194) (L' := [some (.ref 0), some (.int (iz 1)), some (.int (iz n)), some (.int (iz 2))]) (st' := [.int (iz M), .int (iz 4), .ref 9]) (h' := cmH (u1 (u1 (u1 (u1 (u1 (u1 (u1 (u1 z 0 0) 6 0) 8 0) 9 n) 10 a_11) 11 fa_12) 21 K) 28 M) zl (uf (uf (uf (uf f 1 tb) 8 (iu prr_14 M (prr_14 4))) 9 (iu (iu pu_13 ((4 * M) + 0) (pu_13 16)) ((4 * M) + 1) ((iu pu_13 ((4 * M) + 0) (pu_13 16)) 17))) 13 sm) fl 1) rfl ?_
    refine Rx.imul rfl ?_
    refine Rx.walk 1 (pc' := 196) (L' := [some (.ref 0), some (.int (iz 1)), some (.int (iz n)), some (.int (iz 2))]) (st' := [.int (iz 2), .int (iz (4 * M)), .ref 9]) (h' := cmH (u1 (u1 (u1 (u1 (u1 (u1 (u1 (u1 z 0 0) 6 0) 8 0) 9 n) 10 a_11) 11 fa_12) 21 K) 28 M) zl (uf (uf (uf (uf f 1 tb) 8 (iu prr_14 M (prr_14 4))) 9 (iu (iu pu_13 ((4 * M) + 0) (pu_13 16)) ((4 * M) + 1) ((iu pu_13 ((4 * M) + 0) (pu_13 16)) 17))) 13 sm) fl 1) rfl ?_
    refine Rx.iadd rfl ?_
    refine Rx.walk 4 (pc' := 204) (L' := [some (.ref 0), some (.int (iz 1)), some (.int (iz n)), some (.int (iz 2))]) (st' := [.int (iz 2), .int (iz 16), .ref 9, .int (iz ((4 * M) + 2)), .ref 9]) (h' := cmH (u1 (u1 (u1 (u1 (u1 (u1 (u1 (u1 z 0 0) 6 0) 8 0) 9 n) 10 a_11) 11 fa_12) 21 K) 28 M) zl (uf (uf (uf (uf f 1 tb) 8 (iu prr_14 M (prr_14 4))) 9 (iu (iu pu_13 ((4 * M) + 0) (pu_13 16)) ((4 * M) + 1) ((iu pu_13 ((4 * M) + 0) (pu_13 16)) 17))) 13 sm) fl 1) rfl ?_
    refine Rx.iadd rfl ?_
    refine Rx.walk 0 (pc' := 205) (L' := [some (.ref 0), some (.int (iz 1)), some (.int (iz n)), some (.int (iz 2))]) (st' := [.int (iz 18), .ref 9, .int (iz ((4 * M) + 2)), .ref 9]) (h' := cmH (u1 (u1 (u1 (u1 (u1 (u1 (u1 (u1 z 0 0) 6 0) 8 0) 9 n) 10 a_11) 11 fa_12) 21 K) 28 M) zl (uf (uf (uf (uf f 1 tb) 8 (iu prr_14 M (prr_14 4))) 9 (iu (iu pu_13 ((4 * M) + 0) (pu_13 16)) ((4 * M) + 1) ((iu pu_13 ((4 * M) + 0) (pu_13 16)) 17))) 13 sm) fl 1) rfl ?_
    refine Rx.ial (g := (iu (iu pu_13 ((4 * M) + 0) (pu_13 16)) ((4 * M) + 1) ((iu pu_13 ((4 * M) + 0) (pu_13 16)) 17))) rfl rfl (by omega) (by omega) (by omega) ?_
    refine Rx.ias (g := (iu (iu pu_13 ((4 * M) + 0) (pu_13 16)) ((4 * M) + 1) ((iu pu_13 ((4 * M) + 0) (pu_13 16)) 17))) (h' := cmH (u1 (u1 (u1 (u1 (u1 (u1 (u1 (u1 z 0 0) 6 0) 8 0) 9 n) 10 a_11) 11 fa_12) 21 K) 28 M) zl (uf (uf (uf (uf f 1 tb) 8 (iu prr_14 M (prr_14 4))) 9 (iu (iu (iu pu_13 ((4 * M) + 0) (pu_13 16)) ((4 * M) + 1) ((iu pu_13 ((4 * M) + 0) (pu_13 16)) 17)) ((4 * M) + 2) ((iu (iu pu_13 ((4 * M) + 0) (pu_13 16)) ((4 * M) + 1) ((iu pu_13 ((4 * M) + 0) (pu_13 16)) 17)) 18))) 13 sm) fl 1) rfl rfl (by omega) (by omega) (by omega) rfl ?_
    refine Rx.iinc (b := 1) rfl rfl rfl ?_
    refine Rx.walk 0 (pc' := 210) (L' := [some (.ref 0), some (.int (iz 1)), some (.int (iz n)), some (.int (iz 3))]) (st' := []) (h' := cmH (u1 (u1 (u1 (u1 (u1 (u1 (u1 (u1 z 0 0) 6 0) 8 0) 9 n) 10 a_11) 11 fa_12) 21 K) 28 M) zl (uf (uf (uf (uf f 1 tb) 8 (iu prr_14 M (prr_14 4))) 9 (iu (iu (iu pu_13 ((4 * M) + 0) (pu_13 16)) ((4 * M) + 1) ((iu pu_13 ((4 * M) + 0) (pu_13 16)) 17)) ((4 * M) + 2) ((iu (iu pu_13 ((4 * M) + 0) (pu_13 16)) ((4 * M) + 1) ((iu pu_13 ((4 * M) + 0) (pu_13 16)) 17)) 18))) 13 sm) fl 1) rfl ?_
    refine Rx.walk 3 (pc' := 182) (L' := [some (.ref 0), some (.int (iz 1)), some (.int (iz n)), some (.int (iz 3))]) (st' := [.int (iz 4), .int (iz 3)]) (h' := cmH (u1 (u1 (u1 (u1 (u1 (u1 (u1 (u1 z 0 0) 6 0) 8 0) 9 n) 10 a_11) 11 fa_12) 21 K) 28 M) zl (uf (uf (uf (uf f 1 tb) 8 (iu prr_14 M (prr_14 4))) 9 (iu (iu (iu pu_13 ((4 * M) + 0) (pu_13 16)) ((4 * M) + 1) ((iu pu_13 ((4 * M) + 0) (pu_13 16)) 17)) ((4 * M) + 2) ((iu (iu pu_13 ((4 * M) + 0) (pu_13 16)) ((4 * M) + 1) ((iu pu_13 ((4 * M) + 0) (pu_13 16)) 17)) 18))) 13 sm) fl 1) rfl ?_
    refine Rx.ge2 rfl rfl ⟨by omega, by omega⟩ ⟨by omega, by omega⟩ (fun b30 => by omega) (fun b30 => ?_)
    refine Rx.walk 5 (pc' := 194) (L' := [some (.ref 0), some (.int (iz 1)), some (.int (iz n)), some (.int (iz 3))]) (st' := [.int (iz M), .int (iz 4), .ref 9]) (h' := cmH (u1 (u1 (u1 (u1 (u1 (u1 (u1 (u1 z 0 0) 6 0) 8 0) 9 n) 10 a_11) 11 fa_12) 21 K) 28 M) zl (uf (uf (uf (uf f 1 tb) 8 (iu prr_14 M (prr_14 4))) 9 (iu (iu (iu pu_13 ((4 * M) + 0) (pu_13 16)) ((4 * M) + 1) ((iu pu_13 ((4 * M) + 0) (pu_13 16)) 17)) ((4 * M) + 2) ((iu (iu pu_13 ((4 * M) + 0) (pu_13 16)) ((4 * M) + 1) ((iu pu_13 ((4 * M) + 0) (pu_13 16)) 17)) 18))) 13 sm) fl 1) rfl ?_
    refine Rx.imul rfl ?_
    refine Rx.walk 1 (pc' := 196) (L' := [some (.ref 0), some (.int (iz 1)), some (.int (iz n)), some (.int (iz 3))]) (st' := [.int (iz 3), .int (iz (4 * M)), .ref 9]) (h' := cmH (u1 (u1 (u1 (u1 (u1 (u1 (u1 (u1 z 0 0) 6 0) 8 0) 9 n) 10 a_11) 11 fa_12) 21 K) 28 M) zl (uf (uf (uf (uf f 1 tb) 8 (iu prr_14 M (prr_14 4))) 9 (iu (iu (iu pu_13 ((4 * M) + 0) (pu_13 16)) ((4 * M) + 1) ((iu pu_13 ((4 * M) + 0) (pu_13 16)) 17)) ((4 * M) + 2) ((iu (iu pu_13 ((4 * M) + 0) (pu_13 16)) ((4 * M) + 1) ((iu pu_13 ((4 * M) + 0) (pu_13 16)) 17)) 18))) 13 sm) fl 1) rfl ?_
    refine Rx.iadd rfl ?_
    refine Rx.walk 4 (pc' := 204) (L' := [some (.ref 0), some (.int (iz 1)), some (.int (iz n)), some (.int (iz 3))]) (st' := [.int (iz 3), .int (iz 16), .ref 9, .int (iz ((4 * M) + 3)), .ref 9]) (h' := cmH (u1 (u1 (u1 (u1 (u1 (u1 (u1 (u1 z 0 0) 6 0) 8 0) 9 n) 10 a_11) 11 fa_12) 21 K) 28 M) zl (uf (uf (uf (uf f 1 tb) 8 (iu prr_14 M (prr_14 4))) 9 (iu (iu (iu pu_13 ((4 * M) + 0) (pu_13 16)) ((4 * M) + 1) ((iu pu_13 ((4 * M) + 0) (pu_13 16)) 17)) ((4 * M) + 2) ((iu (iu pu_13 ((4 * M) + 0) (pu_13 16)) ((4 * M) + 1) ((iu pu_13 ((4 * M) + 0) (pu_13 16)) 17)) 18))) 13 sm) fl 1) rfl ?_
    refine Rx.iadd rfl ?_
    refine Rx.walk 0 (pc' := 205) (L' := [some (.ref 0), some (.int (iz 1)), some (.int (iz n)), some (.int (iz 3))]) (st' := [.int (iz 19), .ref 9, .int (iz ((4 * M) + 3)), .ref 9]) (h' := cmH (u1 (u1 (u1 (u1 (u1 (u1 (u1 (u1 z 0 0) 6 0) 8 0) 9 n) 10 a_11) 11 fa_12) 21 K) 28 M) zl (uf (uf (uf (uf f 1 tb) 8 (iu prr_14 M (prr_14 4))) 9 (iu (iu (iu pu_13 ((4 * M) + 0) (pu_13 16)) ((4 * M) + 1) ((iu pu_13 ((4 * M) + 0) (pu_13 16)) 17)) ((4 * M) + 2) ((iu (iu pu_13 ((4 * M) + 0) (pu_13 16)) ((4 * M) + 1) ((iu pu_13 ((4 * M) + 0) (pu_13 16)) 17)) 18))) 13 sm) fl 1) rfl ?_
    refine Rx.ial (g := (iu (iu (iu pu_13 ((4 * M) + 0) (pu_13 16)) ((4 * M) + 1) ((iu pu_13 ((4 * M) + 0) (pu_13 16)) 17)) ((4 * M) + 2) ((iu (iu pu_13 ((4 * M) + 0) (pu_13 16)) ((4 * M) + 1) ((iu pu_13 ((4 * M) + 0) (pu_13 16)) 17)) 18))) rfl rfl (by omega) (by omega) (by omega) ?_
    refine Rx.ias (g := (iu (iu (iu pu_13 ((4 * M) + 0) (pu_13 16)) ((4 * M) + 1) ((iu pu_13 ((4 * M) + 0) (pu_13 16)) 17)) ((4 * M) + 2) ((iu (iu pu_13 ((4 * M) + 0) (pu_13 16)) ((4 * M) + 1) ((iu pu_13 ((4 * M) + 0) (pu_13 16)) 17)) 18))) (h' := cmH (u1 (u1 (u1 (u1 (u1 (u1 (u1 (u1 z 0 0) 6 0) 8 0) 9 n) 10 a_11) 11 fa_12) 21 K) 28 M) zl (uf (uf (uf (uf f 1 tb) 8 (iu prr_14 M (prr_14 4))) 9 (iu (iu (iu (iu pu_13 ((4 * M) + 0) (pu_13 16)) ((4 * M) + 1) ((iu pu_13 ((4 * M) + 0) (pu_13 16)) 17)) ((4 * M) + 2) ((iu (iu pu_13 ((4 * M) + 0) (pu_13 16)) ((4 * M) + 1) ((iu pu_13 ((4 * M) + 0) (pu_13 16)) 17)) 18)) ((4 * M) + 3) ((iu (iu (iu pu_13 ((4 * M) + 0) (pu_13 16)) ((4 * M) + 1) ((iu pu_13 ((4 * M) + 0) (pu_13 16)) 17)) ((4 * M) + 2) ((iu (iu pu_13 ((4 * M) + 0) (pu_13 16)) ((4 * M) + 1) ((iu pu_13 ((4 * M) + 0) (pu_13 16)) 17)) 18)) 19))) 13 sm) fl 1) rfl rfl (by omega) (by omega) (by omega) rfl ?_
    refine Rx.iinc (b := 1) rfl rfl rfl ?_
    refine Rx.walk 0 (pc' := 210) (L' := [some (.ref 0), some (.int (iz 1)), some (.int (iz n)), some (.int (iz 4))]) (st' := []) (h' := cmH (u1 (u1 (u1 (u1 (u1 (u1 (u1 (u1 z 0 0) 6 0) 8 0) 9 n) 10 a_11) 11 fa_12) 21 K) 28 M) zl (uf (uf (uf (uf f 1 tb) 8 (iu prr_14 M (prr_14 4))) 9 (iu (iu (iu (iu pu_13 ((4 * M) + 0) (pu_13 16)) ((4 * M) + 1) ((iu pu_13 ((4 * M) + 0) (pu_13 16)) 17)) ((4 * M) + 2) ((iu (iu pu_13 ((4 * M) + 0) (pu_13 16)) ((4 * M) + 1) ((iu pu_13 ((4 * M) + 0) (pu_13 16)) 17)) 18)) ((4 * M) + 3) ((iu (iu (iu pu_13 ((4 * M) + 0) (pu_13 16)) ((4 * M) + 1) ((iu pu_13 ((4 * M) + 0) (pu_13 16)) 17)) ((4 * M) + 2) ((iu (iu pu_13 ((4 * M) + 0) (pu_13 16)) ((4 * M) + 1) ((iu pu_13 ((4 * M) + 0) (pu_13 16)) 17)) 18)) 19))) 13 sm) fl 1) rfl ?_
    refine Rx.walk 3 (pc' := 182) (L' := [some (.ref 0), some (.int (iz 1)), some (.int (iz n)), some (.int (iz 4))]) (st' := [.int (iz 4), .int (iz 4)]) (h' := cmH (u1 (u1 (u1 (u1 (u1 (u1 (u1 (u1 z 0 0) 6 0) 8 0) 9 n) 10 a_11) 11 fa_12) 21 K) 28 M) zl (uf (uf (uf (uf f 1 tb) 8 (iu prr_14 M (prr_14 4))) 9 (iu (iu (iu (iu pu_13 ((4 * M) + 0) (pu_13 16)) ((4 * M) + 1) ((iu pu_13 ((4 * M) + 0) (pu_13 16)) 17)) ((4 * M) + 2) ((iu (iu pu_13 ((4 * M) + 0) (pu_13 16)) ((4 * M) + 1) ((iu pu_13 ((4 * M) + 0) (pu_13 16)) 17)) 18)) ((4 * M) + 3) ((iu (iu (iu pu_13 ((4 * M) + 0) (pu_13 16)) ((4 * M) + 1) ((iu pu_13 ((4 * M) + 0) (pu_13 16)) 17)) ((4 * M) + 2) ((iu (iu pu_13 ((4 * M) + 0) (pu_13 16)) ((4 * M) + 1) ((iu pu_13 ((4 * M) + 0) (pu_13 16)) 17)) 18)) 19))) 13 sm) fl 1) rfl ?_
    refine Rx.ge2 rfl rfl ⟨by omega, by omega⟩ ⟨by omega, by omega⟩ (fun b31 => ?_) (fun b31 => by omega)
    refine Rx.walk 5 (pc' := 222) (L' := [some (.ref 0), some (.int (iz 1)), some (.int (iz n)), some (.int (iz 4))]) (st' := [.int (iz 0), .int (iz M), .ref 13]) (h' := cmH (u1 (u1 (u1 (u1 (u1 (u1 (u1 (u1 z 0 0) 6 0) 8 0) 9 n) 10 a_11) 11 fa_12) 21 K) 28 M) zl (uf (uf (uf (uf f 1 tb) 8 (iu prr_14 M (prr_14 4))) 9 (iu (iu (iu (iu pu_13 ((4 * M) + 0) (pu_13 16)) ((4 * M) + 1) ((iu pu_13 ((4 * M) + 0) (pu_13 16)) 17)) ((4 * M) + 2) ((iu (iu pu_13 ((4 * M) + 0) (pu_13 16)) ((4 * M) + 1) ((iu pu_13 ((4 * M) + 0) (pu_13 16)) 17)) 18)) ((4 * M) + 3) ((iu (iu (iu pu_13 ((4 * M) + 0) (pu_13 16)) ((4 * M) + 1) ((iu pu_13 ((4 * M) + 0) (pu_13 16)) 17)) ((4 * M) + 2) ((iu (iu pu_13 ((4 * M) + 0) (pu_13 16)) ((4 * M) + 1) ((iu pu_13 ((4 * M) + 0) (pu_13 16)) 17)) 18)) 19))) 13 sm) fl 1) rfl ?_
    refine Rx.ias (g := sm) (h' := cmH (u1 (u1 (u1 (u1 (u1 (u1 (u1 (u1 z 0 0) 6 0) 8 0) 9 n) 10 a_11) 11 fa_12) 21 K) 28 M) zl (uf (uf (uf (uf f 1 tb) 8 (iu prr_14 M (prr_14 4))) 9 (iu (iu (iu (iu pu_13 ((4 * M) + 0) (pu_13 16)) ((4 * M) + 1) ((iu pu_13 ((4 * M) + 0) (pu_13 16)) 17)) ((4 * M) + 2) ((iu (iu pu_13 ((4 * M) + 0) (pu_13 16)) ((4 * M) + 1) ((iu pu_13 ((4 * M) + 0) (pu_13 16)) 17)) 18)) ((4 * M) + 3) ((iu (iu (iu pu_13 ((4 * M) + 0) (pu_13 16)) ((4 * M) + 1) ((iu pu_13 ((4 * M) + 0) (pu_13 16)) 17)) ((4 * M) + 2) ((iu (iu pu_13 ((4 * M) + 0) (pu_13 16)) ((4 * M) + 1) ((iu pu_13 ((4 * M) + 0) (pu_13 16)) 17)) 18)) 19))) 13 (iu sm M 0)) fl 1) rfl rfl (by omega) (by omega) (by omega) rfl ?_
    refine Rx.walk 4 (pc' := 229) (L' := [some (.ref 0), some (.int (iz 1)), some (.int (iz n)), some (.int (iz 4))]) (st' := [.int (iz 1), .int (iz M), .ref 0]) (h' := cmH (u1 (u1 (u1 (u1 (u1 (u1 (u1 (u1 z 0 0) 6 0) 8 0) 9 n) 10 a_11) 11 fa_12) 21 K) 28 M) zl (uf (uf (uf (uf f 1 tb) 8 (iu prr_14 M (prr_14 4))) 9 (iu (iu (iu (iu pu_13 ((4 * M) + 0) (pu_13 16)) ((4 * M) + 1) ((iu pu_13 ((4 * M) + 0) (pu_13 16)) 17)) ((4 * M) + 2) ((iu (iu pu_13 ((4 * M) + 0) (pu_13 16)) ((4 * M) + 1) ((iu pu_13 ((4 * M) + 0) (pu_13 16)) 17)) 18)) ((4 * M) + 3) ((iu (iu (iu pu_13 ((4 * M) + 0) (pu_13 16)) ((4 * M) + 1) ((iu pu_13 ((4 * M) + 0) (pu_13 16)) 17)) ((4 * M) + 2) ((iu (iu pu_13 ((4 * M) + 0) (pu_13 16)) ((4 * M) + 1) ((iu pu_13 ((4 * M) + 0) (pu_13 16)) 17)) 18)) 19))) 13 (iu sm M 0)) fl 1) rfl ?_
    refine Rx.iadd rfl ?_
    refine Rx.walk 4 (pc' := 238) (L' := [some (.ref 0), some (.int (iz 1)), some (.int (iz n)), some (.int (iz 4))]) (st' := [.int (iz 1), .int (iz (M + 1))]) (h' := cmH (u1 (u1 (u1 (u1 (u1 (u1 (u1 (u1 z 0 0) 6 0) 8 0) 9 n) 10 a_11) 11 fa_12) 21 K) 28 (M + 1)) zl (uf (uf (uf (uf f 1 tb) 8 (iu prr_14 M (prr_14 4))) 9 (iu (iu (iu (iu pu_13 ((4 * M) + 0) (pu_13 16)) ((4 * M) + 1) ((iu pu_13 ((4 * M) + 0) (pu_13 16)) 17)) ((4 * M) + 2) ((iu (iu pu_13 ((4 * M) + 0) (pu_13 16)) ((4 * M) + 1) ((iu pu_13 ((4 * M) + 0) (pu_13 16)) 17)) 18)) ((4 * M) + 3) ((iu (iu (iu pu_13 ((4 * M) + 0) (pu_13 16)) ((4 * M) + 1) ((iu pu_13 ((4 * M) + 0) (pu_13 16)) 17)) ((4 * M) + 2) ((iu (iu pu_13 ((4 * M) + 0) (pu_13 16)) ((4 * M) + 1) ((iu pu_13 ((4 * M) + 0) (pu_13 16)) 17)) 18)) 19))) 13 (iu sm M 0)) fl 1) rfl ?_
    refine Rx.isub rfl ?_
    refine Rx.ret rfl ?_
    refine ⟨_, _, _, _, _, _, _, _, rfl, rfl, Or.inr ⟨by rw [← f15]; omega, by omega, rfl, rfl, ?_, ?_, ?_, rfl⟩, f19⟩
    · intro v l hs
      obtain ⟨e1, e2⟩ := f16 v l hs
      refine ⟨by rw [iu_at]; exact e1, fun k k0 k4 => ?_⟩
      have hk := e2 k k0 k4
      rcases (show k = 0 ∨ k = 1 ∨ k = 2 ∨ k = 3 by omega) with q | q | q | q <;> subst q <;> rw [← hk] <;> unfold iu <;> repeat (first | rfl | rw [if_pos (by omega)] | rw [if_neg (by omega)])
    · intro j j0 j1
      rw [iu_ne _ _ (by omega), iu_ne _ _ (by omega), iu_ne _ _ (by omega), iu_ne _ _ (by omega)]
      exact f17 j j0 (by omega)
    · intro j j0 j1
      rw [iu_ne _ _ (by omega)]
      exact f18 j j0 (by omega)
  · refine Rx.walk 1 (pc' := 60) (L' := [some (.ref 0), some (.int (iz 1)), none, none]) (st' := [.int (iz (-1))]) (h' := cmH (u1 (u1 (u1 (u1 (u1 (u1 (u1 (u1 z 0 0) 6 n) 8 0) 9 n) 10 a_11) 11 fa_12) 21 K) 28 M) zl (uf (uf (uf (uf f 1 tb) 8 prr_14) 9 pu_13) 13 sm) fl 1) rfl ?_
    refine Rx.ret rfl ?_
    exact ⟨_, _, _, _, _, _, _, _, rfl, rfl, Or.inl ⟨by rw [← f15]; omega, rfl, rfl, rfl, rfl, f17, f18⟩, f19⟩
set_option maxRecDepth 100000 in
set_option maxHeartbeats 4000000 in
theorem m_text2F (d : Nat) (z : Nat → Int) (zl : Nat → Int) (f : Nat → Int → Int) (fl : Nat → Int → Int) (tx : Nat)   : Rx (d + 1) m_X12_text 0 (am_ent [.ref 0, .int (iz 2)] 4) [] (cmH (u1 z 7 4) zl f fl tx) (fun rv h => rv = some (.int (iz (-1))) ∧ h = cmH (u1 (u1 z 0 0) 7 4) zl f fl tx) := by
  refine Rx.walk 0 (pc' := 0) (L' := [some (.ref 0), some (.int (iz 2)), none, none]) (st' := []) (h' := cmH (u1 z 7 4) zl f fl tx) rfl ?_
  refine Rx.walk 4 (pc' := 6) (L' := [some (.ref 0), some (.int (iz 2)), none, none]) (st' := [.int (iz 2)]) (h' := cmH (u1 (u1 z 0 0) 7 4) zl f fl tx) rfl ?_
  refine Rx.i2l rfl ⟨by omega, by omega⟩ ?_
  refine Rx.walk 2 (pc' := 11) (L' := [some (.ref 0), some (.int (iz 2)), none, none]) (st' := [.long (jz 2), .long (jz 0), .long (jz 2)]) (h' := cmH (u1 (u1 z 0 0) 7 4) zl f fl tx) rfl ?_
  refine Rx.callx (m' := m_X12_isIn) (as := [.long (jz 2), .long (jz 0), .long (jz 2)]) (rest := []) rfl (n_isIn _ (cmH (u1 (u1 z 0 0) 7 4) zl f fl tx)  2 0 2 ⟨by omega, by omega⟩ ⟨by omega, by omega⟩ ⟨by omega, by omega⟩) (fun v3 h4 q5 => ?_)
  obtain ⟨r_1, rfl, rfl, f2⟩ := q5
  refine Rx.walk 0 (pc' := 14) (L' := [some (.ref 0), some (.int (iz 2)), none, none]) (st' := [.int (iz r_1)]) (h' := cmH (u1 (u1 z 0 0) 7 4) zl f fl tx) rfl ?_
  refine Rx.eq1 rfl rfl ⟨by omega, by omega⟩ (fun b6 => by omega) (fun b6 => ?_)
  refine Rx.walk 2 (pc' := 19) (L' := [some (.ref 0), some (.int (iz 2)), none, none]) (st' := [.int (iz 1), .int (iz 2)]) (h' := cmH (u1 (u1 z 0 0) 7 4) zl f fl tx) rfl ?_
  refine Rx.ne2 rfl rfl ⟨by omega, by omega⟩ ⟨by omega, by omega⟩ (fun b7 => ?_) (fun b7 => by omega)
  refine Rx.walk 2 (pc' := 39) (L' := [some (.ref 0), some (.int (iz 2)), none, none]) (st' := [.int (iz 2), .int (iz 2)]) (h' := cmH (u1 (u1 z 0 0) 7 4) zl f fl tx) rfl ?_
  refine Rx.ne2 rfl rfl ⟨by omega, by omega⟩ ⟨by omega, by omega⟩ (fun b8 => by omega) (fun b8 => ?_)
  refine Rx.walk 3 (pc' := 47) (L' := [some (.ref 0), some (.int (iz 2)), none, none]) (st' := [.int (iz 4), .int (iz 4)]) (h' := cmH (u1 (u1 z 0 0) 7 4) zl f fl tx) rfl ?_
  refine Rx.eq2 rfl rfl ⟨by omega, by omega⟩ ⟨by omega, by omega⟩ (fun b9 => ?_) (fun b9 => by omega)
  refine Rx.walk 1 (pc' := 60) (L' := [some (.ref 0), some (.int (iz 2)), none, none]) (st' := [.int (iz (-1))]) (h' := cmH (u1 (u1 z 0 0) 7 4) zl f fl tx) rfl ?_
  refine Rx.ret rfl ?_
  exact ⟨rfl, rfl⟩
set_option maxRecDepth 100000 in
set_option maxHeartbeats 4000000 in
theorem m_text2_l (d : Nat) (z : Nat → Int) (zl : Nat → Int) (f : Nat → Int → Int) (fl : Nat → Int → Int) (tx : Nat)  (nl : Int) (R : Int) (tb : Int → Int) (b : Int → Int) (tx0 : Int → Int) (hT : tOK nl b) (hM : mOK nl 0 160 tb b) (hR : 0 ≤ R ∧ R < 4) (P : Option Value → AmH → Prop) (hx0 : ∀ (i' : Int) (tx2' : Int → Int), (∀ j : Int, 0 ≤ j → j < nl → tx2' (160 * R + j) = sgb (b j)) → (∀ j : Int, (j < 160 * R ∨ 160 * R + 160 ≤ j) → tx2' j = tx0 j) → Rx (d + 30) m_X12_text 274 [some (.ref 0), some (.int (iz 2)), some (.int (iz nl)), some (.int (iz i'))] [] (cmH (u1 z 7 R) zl (uf (uf f 1 tb) 2 tx2') fl tx) P) : ∀ (kF : Nat) (i : Int) (tx2 : Int → Int), (0 ≤ i ∧ i ≤ nl) → (∀ j : Int, 0 ≤ j → j < i → tx2 (160 * R + j) = sgb (b j)) → (∀ j : Int, (j < 160 * R ∨ 160 * R + 160 ≤ j) → tx2 j = tx0 j) → (nl - i) < (kF : Int) → Rx (d + 30) m_X12_text 242 [some (.ref 0), some (.int (iz 2)), some (.int (iz nl)), some (.int (iz i))] [] (cmH (u1 z 7 R) zl (uf (uf f 1 tb) 2 tx2) fl tx) P := by
  obtain ⟨hT1, hT2, hT3⟩ := id hT
  obtain ⟨hM1, hM2, hM3⟩ := id hM
  intro kF
  induction kF with
  | zero =>
    intro i tx2 hi hc h0 hk
    exfalso; omega
  | succ kF ih =>
    intro i tx2 hi hc h0 hk
    refine Rx.walk 2 (pc' := 244) (L' := [some (.ref 0), some (.int (iz 2)), some (.int (iz nl)), some (.int (iz i))]) (st' := [.int (iz nl), .int (iz i)]) (h' := cmH (u1 z 7 R) zl (uf (uf f 1 tb) 2 tx2) fl tx) rfl ?_
    refine Rx.ge2 rfl rfl ⟨by omega, by omega⟩ ⟨by omega, by omega⟩ (fun b1 => ?_) (fun b1 => ?_)
    · exact hx0 _ _ (fun j j0 j1 => hc j j0 (by omega)) h0
    · refine Rx.walk 5 (pc' := 258) (L' := [some (.ref 0), some (.int (iz 2)), some (.int (iz nl)), some (.int (iz i))]) (st' := [.int (iz R), .int (iz 160), .ref 2]) (h' := cmH (u1 z 7 R) zl (uf (uf f 1 tb) 2 tx2) fl tx) rfl ?_
      refine Rx.imul rfl ?_
      refine Rx.walk 1 (pc' := 260) (L' := [some (.ref 0), some (.int (iz 2)), some (.int (iz nl)), some (.int (iz i))]) (st' := [.int (iz i), .int (iz (160 * R)), .ref 2]) (h' := cmH (u1 z 7 R) zl (uf (uf f 1 tb) 2 tx2) fl tx) rfl ?_
      refine Rx.iadd rfl ?_
      refine Rx.walk 3 (pc' := 266) (L' := [some (.ref 0), some (.int (iz 2)), some (.int (iz nl)), some (.int (iz i))]) (st' := [.int (iz i), .ref 1, .int (iz ((160 * R) + i)), .ref 2]) (h' := cmH (u1 z 7 R) zl (uf (uf f 1 tb) 2 tx2) fl tx) rfl ?_
      refine Rx.bal (g := tb) rfl rfl (by omega) (by omega) (by omega) ?_
      have hb1 := hT3 i hi.1 (by omega)
      have hb2 := sgb_b (x := b i) (by omega) (by omega)
      have hb3 := hM3 i hi.1 (by omega)
      rw [Int.zero_add] at hb3
      refine Rx.bas (g := tx2) (h' := cmH (u1 z 7 R) zl (uf (uf f 1 tb) 2 (iu tx2 ((160 * R) + i) (tb i))) fl tx) rfl rfl (by omega) (by omega) (by omega) (by omega) (by omega) rfl ?_
      refine Rx.iinc (b := 1) rfl rfl rfl ?_
      refine Rx.walk 0 (pc' := 271) (L' := [some (.ref 0), some (.int (iz 2)), some (.int (iz nl)), some (.int (iz (i + 1)))]) (st' := []) (h' := cmH (u1 z 7 R) zl (uf (uf f 1 tb) 2 (iu tx2 ((160 * R) + i) (tb i))) fl tx) rfl ?_
      refine Rx.walk 1 (pc' := 242) (L' := [some (.ref 0), some (.int (iz 2)), some (.int (iz nl)), some (.int (iz (i + 1)))]) (st' := []) (h' := cmH (u1 z 7 R) zl (uf (uf f 1 tb) 2 (iu tx2 ((160 * R) + i) (tb i))) fl tx) rfl ?_
      exact ih (i + 1) (iu tx2 ((160 * R) + i) (tb i)) ⟨by omega, by omega⟩ (fun j j0 j1 => by rcases (show j = i ∨ j < i by omega) with q | q; (subst q; rw [iu_at]; exact hb3); (rw [iu_ne _ _ (by omega)]; exact hc j j0 q)) (fun j q => by rw [iu_ne _ _ (by omega)]; exact h0 j q) (by first | assumption | omega) 
set_option maxRecDepth 100000 in
set_option maxHeartbeats 4000000 in
theorem m_text2 (d : Nat) (z : Nat → Int) (zl : Nat → Int) (f : Nat → Int → Int) (fl : Nat → Int → Int) (tx : Nat)  (n : Int) (tb : Int → Int) (b : Int → Int) (R : Int) (tx2 : Int → Int) (tls : Int → Int) (lt : Int → Int) (Rt : RuT) (hT : tOK n b) (hM : mOK n 0 160 tb b) (hL : ∀ k : Int, 0 ≤ k → k < 128 → -1000000 ≤ lt k ∧ lt k ≤ 1000000) (hRt : Rt = ruleL n b 161 0) (hR4 : 0 ≤ R ∧ R < 4) : Rx (d + 31) m_X12_text 0 (am_ent [.ref 0, .int (iz 2)] 4) [] (cmH (u1 (u1 z 6 n) 7 R) zl (uf (uf (uf (uf f 1 tb) 2 tx2) 3 tls) 4 lt) fl tx) (fun rv h => ∃ r : Int, ∃ n' : Int, ∃ a' : Int, ∃ fa' : Int, ∃ dp' : Int, ∃ ans' : Int, ∃ wor' : Int, ∃ R' : Int, ∃ tx2' : Int → Int, ∃ tls' : Int → Int, rv = some (.int (iz r)) ∧ h = cmH (u1 (u1 (u1 (u1 (u1 (u1 (u1 (u1 (u1 (u1 (u1 z 0 0) 6 n') 7 R') 8 0) 9 n) 10 a') 11 fa') 12 dp') 13 121) 14 wor') 17 ans') zl (uf (uf (uf (uf f 1 tb) 2 tx2') 3 tls') 4 lt) fl 1 ∧ ((¬ (Rt.1 = true ∧ sg n b Rt.2.1 = -1) ∧ r = -1 ∧ n' = n ∧ R' = R ∧ tx2' = tx2 ∧ tls' = tls) ∨ ((Rt.1 = true ∧ sg n b Rt.2.1 = -1) ∧ r = R ∧ n' = 0 ∧ R' = R + 1 ∧ mOK n (160 * R) 640 tx2' b ∧ (∀ j : Int, (j < 160 * R ∨ 160 * R + 160 ≤ j) → tx2' j = tx2 j) ∧ tls' = iu tls R n)) ∧ ((0 ≤ a' ∧ a' ≤ n) ∧ (ans' = 0 ∨ ans' = 1))) := by
  obtain ⟨hT1, hT2, hT3⟩ := id hT
  refine Rx.walk 0 (pc' := 0) (L' := [some (.ref 0), some (.int (iz 2)), none, none]) (st' := []) (h' := cmH (u1 (u1 z 6 n) 7 R) zl (uf (uf (uf (uf f 1 tb) 2 tx2) 3 tls) 4 lt) fl tx) rfl ?_
  refine Rx.walk 4 (pc' := 6) (L' := [some (.ref 0), some (.int (iz 2)), none, none]) (st' := [.int (iz 2)]) (h' := cmH (u1 (u1 (u1 z 0 0) 6 n) 7 R) zl (uf (uf (uf (uf f 1 tb) 2 tx2) 3 tls) 4 lt) fl tx) rfl ?_
  refine Rx.i2l rfl ⟨by omega, by omega⟩ ?_
  refine Rx.walk 2 (pc' := 11) (L' := [some (.ref 0), some (.int (iz 2)), none, none]) (st' := [.long (jz 2), .long (jz 0), .long (jz 2)]) (h' := cmH (u1 (u1 (u1 z 0 0) 6 n) 7 R) zl (uf (uf (uf (uf f 1 tb) 2 tx2) 3 tls) 4 lt) fl tx) rfl ?_
  refine Rx.callx (m' := m_X12_isIn) (as := [.long (jz 2), .long (jz 0), .long (jz 2)]) (rest := []) rfl (n_isIn _ (cmH (u1 (u1 (u1 z 0 0) 6 n) 7 R) zl (uf (uf (uf (uf f 1 tb) 2 tx2) 3 tls) 4 lt) fl tx)  2 0 2 ⟨by omega, by omega⟩ ⟨by omega, by omega⟩ ⟨by omega, by omega⟩) (fun v3 h4 q5 => ?_)
  obtain ⟨r_1, rfl, rfl, f2⟩ := q5
  refine Rx.walk 0 (pc' := 14) (L' := [some (.ref 0), some (.int (iz 2)), none, none]) (st' := [.int (iz r_1)]) (h' := cmH (u1 (u1 (u1 z 0 0) 6 n) 7 R) zl (uf (uf (uf (uf f 1 tb) 2 tx2) 3 tls) 4 lt) fl tx) rfl ?_
  refine Rx.eq1 rfl rfl ⟨by omega, by omega⟩ (fun b6 => by omega) (fun b6 => ?_)
  refine Rx.walk 2 (pc' := 19) (L' := [some (.ref 0), some (.int (iz 2)), none, none]) (st' := [.int (iz 1), .int (iz 2)]) (h' := cmH (u1 (u1 (u1 z 0 0) 6 n) 7 R) zl (uf (uf (uf (uf f 1 tb) 2 tx2) 3 tls) 4 lt) fl tx) rfl ?_
  refine Rx.ne2 rfl rfl ⟨by omega, by omega⟩ ⟨by omega, by omega⟩ (fun b7 => ?_) (fun b7 => by omega)
  refine Rx.walk 2 (pc' := 39) (L' := [some (.ref 0), some (.int (iz 2)), none, none]) (st' := [.int (iz 2), .int (iz 2)]) (h' := cmH (u1 (u1 (u1 z 0 0) 6 n) 7 R) zl (uf (uf (uf (uf f 1 tb) 2 tx2) 3 tls) 4 lt) fl tx) rfl ?_
  refine Rx.ne2 rfl rfl ⟨by omega, by omega⟩ ⟨by omega, by omega⟩ (fun b8 => by omega) (fun b8 => ?_)
  refine Rx.walk 3 (pc' := 47) (L' := [some (.ref 0), some (.int (iz 2)), none, none]) (st' := [.int (iz 4), .int (iz R)]) (h' := cmH (u1 (u1 (u1 z 0 0) 6 n) 7 R) zl (uf (uf (uf (uf f 1 tb) 2 tx2) 3 tls) 4 lt) fl tx) rfl ?_
  refine Rx.eq2 rfl rfl ⟨by omega, by omega⟩ ⟨by omega, by omega⟩ (fun b9 => by omega) (fun b9 => ?_)
  refine Rx.walk 2 (pc' := 52) (L' := [some (.ref 0), some (.int (iz 2)), none, none]) (st' := [.int (iz 2), .ref 0]) (h' := cmH (u1 (u1 (u1 z 0 0) 6 n) 7 R) zl (uf (uf (uf (uf f 1 tb) 2 tx2) 3 tls) 4 lt) fl tx) rfl ?_
  refine Rx.callx (m' := m_X12_fault) (as := [.ref 0, .int (iz 2)]) (rest := []) rfl (m_fault2 _ (u1 (u1 z 0 0) 7 R) zl (uf (uf f 2 tx2) 3 tls) fl tx  n tb b lt Rt hT hM hL hRt) (fun v17 h18 q19 => ?_)
  obtain ⟨a_10, fa_11, dp_12, ans_13, wor_14, rfl, rfl, f15, f16⟩ := q19
  refine Rx.walk 0 (pc' := 55) (L' := [some (.ref 0), some (.int (iz 2)), none, none]) (st' := [.int (iz fa_11)]) (h' := cmH (u1 (u1 (u1 (u1 (u1 (u1 (u1 (u1 (u1 (u1 (u1 z 0 0) 6 n) 7 R) 8 0) 9 n) 10 a_10) 11 fa_11) 12 dp_12) 13 121) 14 wor_14) 17 ans_13) zl (uf (uf (uf (uf f 1 tb) 2 tx2) 3 tls) 4 lt) fl 1) rfl ?_
  refine Rx.walk 1 (pc' := 56) (L' := [some (.ref 0), some (.int (iz 2)), none, none]) (st' := [.int (iz (-1)), .int (iz fa_11)]) (h' := cmH (u1 (u1 (u1 (u1 (u1 (u1 (u1 (u1 (u1 (u1 (u1 z 0 0) 6 n) 7 R) 8 0) 9 n) 10 a_10) 11 fa_11) 12 dp_12) 13 121) 14 wor_14) 17 ans_13) zl (uf (uf (uf (uf f 1 tb) 2 tx2) 3 tls) 4 lt) fl 1) rfl ?_
  refine Rx.eq2 rfl rfl ⟨by omega, by omega⟩ ⟨by omega, by omega⟩ (fun b20 => ?_) (fun b20 => ?_)
  · refine Rx.walk 7 (pc' := 72) (L' := [some (.ref 0), some (.int (iz 2)), some (.int (iz n)), none]) (st' := [.int (iz 2)]) (h' := cmH (u1 (u1 (u1 (u1 (u1 (u1 (u1 (u1 (u1 (u1 (u1 z 0 0) 6 0) 7 R) 8 0) 9 n) 10 a_10) 11 fa_11) 12 dp_12) 13 121) 14 wor_14) 17 ans_13) zl (uf (uf (uf (uf f 1 tb) 2 tx2) 3 tls) 4 lt) fl 1) rfl ?_
    refine Rx.ne1 rfl rfl ⟨by omega, by omega⟩ (fun b21 => ?_) (fun b21 => by omega)
    refine Rx.walk 2 (pc' := 160) (L' := [some (.ref 0), some (.int (iz 2)), some (.int (iz n)), none]) (st' := [.int (iz 1), .int (iz 2)]) (h' := cmH (u1 (u1 (u1 (u1 (u1 (u1 (u1 (u1 (u1 (u1 (u1 z 0 0) 6 0) 7 R) 8 0) 9 n) 10 a_10) 11 fa_11) 12 dp_12) 13 121) 14 wor_14) 17 ans_13) zl (uf (uf (uf (uf f 1 tb) 2 tx2) 3 tls) 4 lt) fl 1) rfl ?_
    refine Rx.ne2 rfl rfl ⟨by omega, by omega⟩ ⟨by omega, by omega⟩ (fun b22 => ?_) (fun b22 => by omega)
    refine Rx.walk 2 (pc' := 242) (L' := [some (.ref 0), some (.int (iz 2)), some (.int (iz n)), some (.int (iz 0))]) (st' := []) (h' := cmH (u1 (u1 (u1 (u1 (u1 (u1 (u1 (u1 (u1 (u1 (u1 z 0 0) 6 0) 7 R) 8 0) 9 n) 10 a_10) 11 fa_11) 12 dp_12) 13 121) 14 wor_14) 17 ans_13) zl (uf (uf (uf (uf f 1 tb) 2 tx2) 3 tls) 4 lt) fl 1) rfl ?_
    refine m_text2_l _ (u1 (u1 (u1 (u1 (u1 (u1 (u1 (u1 (u1 (u1 z 0 0) 6 0) 8 0) 9 n) 10 a_10) 11 fa_11) 12 dp_12) 13 121) 14 wor_14) 17 ans_13) zl (uf (uf f 3 tls) 4 lt) fl 1  n R tb b tx2 hT hM hR4 _ ?_ ((n - 0) + 1 : Int).toNat 0 tx2 ⟨by omega, by omega⟩ (fun j j0 j1 => by omega) (fun j q => rfl) (by omega) 
    intro i_23 tx2_24 f25 f26
    refine Rx.walk 0 (pc' := 274) (L' := [some (.ref 0), some (.int (iz 2)), some (.int (iz n)), some (.int (iz i_23))]) (st' := []) (h' := cmH (u1 (u1 (u1 (u1 (u1 (u1 (u1 (u1 (u1 (u1 (u1 z 0 0) 6 0) 7 R) 8 0) 9 n) 10 a_10) 11 fa_11) 12 dp_12) 13 121) 14 wor_14) 17 ans_13) zl (uf (uf (uf (uf f 1 tb) 2 tx2_24) 3 tls) 4 lt) fl 1) rfl ?_
    refine Rx.walk 5 (pc' := 283) (L' := [some (.ref 0), some (.int (iz 2)), some (.int (iz n)), some (.int (iz i_23))]) (st' := [.int (iz n), .int (iz R), .ref 3]) (h' := cmH (u1 (u1 (u1 (u1 (u1 (u1 (u1 (u1 (u1 (u1 (u1 z 0 0) 6 0) 7 R) 8 0) 9 n) 10 a_10) 11 fa_11) 12 dp_12) 13 121) 14 wor_14) 17 ans_13) zl (uf (uf (uf (uf f 1 tb) 2 tx2_24) 3 tls) 4 lt) fl 1) rfl ?_
    refine Rx.ias (g := tls) (h' := cmH (u1 (u1 (u1 (u1 (u1 (u1 (u1 (u1 (u1 (u1 (u1 z 0 0) 6 0) 7 R) 8 0) 9 n) 10 a_10) 11 fa_11) 12 dp_12) 13 121) 14 wor_14) 17 ans_13) zl (uf (uf (uf (uf f 1 tb) 2 tx2_24) 3 (iu tls R n)) 4 lt) fl 1) rfl rfl (by omega) (by omega) (by omega) rfl ?_
    refine Rx.walk 4 (pc' := 290) (L' := [some (.ref 0), some (.int (iz 2)), some (.int (iz n)), some (.int (iz i_23))]) (st' := [.int (iz 1), .int (iz R), .ref 0]) (h' := cmH (u1 (u1 (u1 (u1 (u1 (u1 (u1 (u1 (u1 (u1 (u1 z 0 0) 6 0) 7 R) 8 0) 9 n) 10 a_10) 11 fa_11) 12 dp_12) 13 121) 14 wor_14) 17 ans_13) zl (uf (uf (uf (uf f 1 tb) 2 tx2_24) 3 (iu tls R n)) 4 lt) fl 1) rfl ?_
    refine Rx.iadd rfl ?_
    refine Rx.walk 4 (pc' := 299) (L' := [some (.ref 0), some (.int (iz 2)), some (.int (iz n)), some (.int (iz i_23))]) (st' := [.int (iz 1), .int (iz (R + 1))]) (h' := cmH (u1 (u1 (u1 (u1 (u1 (u1 (u1 (u1 (u1 (u1 (u1 z 0 0) 6 0) 7 (R + 1)) 8 0) 9 n) 10 a_10) 11 fa_11) 12 dp_12) 13 121) 14 wor_14) 17 ans_13) zl (uf (uf (uf (uf f 1 tb) 2 tx2_24) 3 (iu tls R n)) 4 lt) fl 1) rfl ?_
    refine Rx.isub rfl ?_
    refine Rx.ret rfl ?_
    exact ⟨_, _, _, _, _, _, _, _, _, _, rfl, rfl, Or.inr ⟨(by rcases f15 with q | q; (exact ⟨q.1, q.2.1⟩); (exfalso; exact q.2.2 (by omega))), by omega, rfl, rfl, ⟨by omega, by omega, f25⟩, f26, rfl⟩, f16.1, f16.2.2⟩
  · refine Rx.walk 1 (pc' := 60) (L' := [some (.ref 0), some (.int (iz 2)), none, none]) (st' := [.int (iz (-1))]) (h' := cmH (u1 (u1 (u1 (u1 (u1 (u1 (u1 (u1 (u1 (u1 (u1 z 0 0) 6 n) 7 R) 8 0) 9 n) 10 a_10) 11 fa_11) 12 dp_12) 13 121) 14 wor_14) 17 ans_13) zl (uf (uf (uf (uf f 1 tb) 2 tx2) 3 tls) 4 lt) fl 1) rfl ?_
    refine Rx.ret rfl ?_
    exact ⟨_, _, _, _, _, _, _, _, _, _, rfl, rfl, Or.inl ⟨(by rcases f15 with q | q; (exfalso; have := q.2.2; omega); exact q.1), rfl, rfl, rfl, rfl, rfl⟩, f16.1, f16.2.2⟩

/-! sums of the model at every depth (printed by wip/whole/genmsum.py) -/
set_option maxRecDepth 100000 in
set_option maxHeartbeats 4000000 in
theorem m_sumAll1 : ∀ (rr : Nat), ∀ (d : Nat) (z : Nat → Int) (zl : Nat → Int) (f : Nat → Int → Int) (fl : Nat → Int → Int) (tx : Nat)  (dp : Int) (n : Int) (a : Int) (bg : Int) (tb : Int → Int) (b : Int → Int) (lt : Int → Int) (hT : tOK n b) (hM : mOK n bg 160 tb b) (ha : 0 ≤ a ∧ a ≤ n) (hL : ∀ k : Int, 0 ≤ k → k < 128 → -1000000 ≤ lt k ∧ lt k ≤ 1000000) (hdp : 0 ≤ dp ∧ dp = 6 - (rr : Int)), Rx (d + (3 * rr + 5)) m_X12_sum 0 (am_ent [.ref 0] 5) [] (cmH (u1 (u1 (u1 (u1 (u1 z 8 bg) 9 n) 10 a) 11 (-1)) 12 dp) zl (uf (uf f 1 tb) 4 lt) fl 1) (fun rv h => ∃ r : Int, ∃ a' : Int, ∃ fa' : Int, ∃ dp' : Int, rv = some (.int (iz r)) ∧ h = cmH (u1 (u1 (u1 (u1 (u1 z 8 bg) 9 n) 10 a') 11 fa') 12 dp') zl (uf (uf f 1 tb) 4 lt) fl 1 ∧ mdR (sumR n b rr a) (ltL lt) dp r a' fa' dp' ∧ ((a ≤ a' ∧ a' ≤ n) ∧ (fa' = -1 ∨ (0 ≤ fa' ∧ fa' ≤ 160)) ∧ (-1000000 ≤ r ∧ r ≤ 1000000))) := by
  intro rr
  induction rr with
  | zero =>
    have hA : ∀ (d : Nat) (z : Nat → Int) (zl : Nat → Int) (f : Nat → Int → Int) (fl : Nat → Int → Int) (tx : Nat)  (dp : Int) (n : Int) (a : Int) (bg : Int) (tb : Int → Int) (b : Int → Int) (lt : Int → Int) (hT : tOK n b) (hM : mOK n bg 160 tb b) (ha : 0 ≤ a ∧ a ≤ n) (hL : ∀ k : Int, 0 ≤ k → k < 128 → -1000000 ≤ lt k ∧ lt k ≤ 1000000) (hdp : 0 ≤ dp ∧ dp = 6 - ((0 : Nat) : Int)), Rx (d + (1 + 2)) m_X12_atom 0 (am_ent [.ref 0] 4) [] (cmH (u1 (u1 (u1 (u1 (u1 z 8 bg) 9 n) 10 a) 11 (-1)) 12 dp) zl (uf (uf f 1 tb) 4 lt) fl 1) (fun rv h => ∃ r : Int, ∃ a' : Int, ∃ fa' : Int, ∃ dp' : Int, rv = some (.int (iz r)) ∧ h = cmH (u1 (u1 (u1 (u1 (u1 z 8 bg) 9 n) 10 a') 11 fa') 12 dp') zl (uf (uf f 1 tb) 4 lt) fl 1 ∧ mdR (atomR n b 0 a) (ltL lt) dp r a' fa' dp' ∧ ((a ≤ a' ∧ a' ≤ n) ∧ (fa' = -1 ∨ (0 ≤ fa' ∧ fa' ≤ 160)) ∧ (-1000000 ≤ r ∧ r ≤ 1000000))) := by
      intro d z zl f fl tx dp n a bg tb b lt hT hM ha hL hdp
      exact m_rAtom0_1 d z zl f fl tx dp n a bg tb b lt hT hM ha hL (by omega)
    have hT_ : ∀ (d : Nat) (z : Nat → Int) (zl : Nat → Int) (f : Nat → Int → Int) (fl : Nat → Int → Int) (tx : Nat)  (dp : Int) (n : Int) (a : Int) (bg : Int) (tb : Int → Int) (b : Int → Int) (lt : Int → Int) (hT : tOK n b) (hM : mOK n bg 160 tb b) (ha : 0 ≤ a ∧ a ≤ n) (hL : ∀ k : Int, 0 ≤ k → k < 128 → -1000000 ≤ lt k ∧ lt k ≤ 1000000) (hdp : 0 ≤ dp ∧ dp = 6 - ((0 : Nat) : Int)), Rx (d + (2 + 2)) m_X12_term 0 (am_ent [.ref 0] 5) [] (cmH (u1 (u1 (u1 (u1 (u1 z 8 bg) 9 n) 10 a) 11 (-1)) 12 dp) zl (uf (uf f 1 tb) 4 lt) fl 1) (fun rv h => ∃ r : Int, ∃ a' : Int, ∃ fa' : Int, ∃ dp' : Int, rv = some (.int (iz r)) ∧ h = cmH (u1 (u1 (u1 (u1 (u1 z 8 bg) 9 n) 10 a') 11 fa') 12 dp') zl (uf (uf f 1 tb) 4 lt) fl 1 ∧ mdR (termG n b (atomR n b 0) a) (ltL lt) dp r a' fa' dp' ∧ ((a ≤ a' ∧ a' ≤ n) ∧ (fa' = -1 ∨ (0 ≤ fa' ∧ fa' ≤ 160)) ∧ (-1000000 ≤ r ∧ r ≤ 1000000))) := by
      intro d z zl f fl tx dp n a bg tb b lt hT hM ha hL hdp
      exact m_rTerm1 d z zl f fl tx 1 0 hA dp n a bg tb b lt hT hM ha hL hdp
    intro d z zl f fl tx dp n a bg tb b lt hT hM ha hL hdp
    have q := m_rSum1 d z zl f fl tx 2 0 hT_ dp n a bg tb b lt hT hM ha hL hdp
    rw [← sumR_eq] at q
    exact q
  | succ rr ih =>
    have hA : ∀ (d : Nat) (z : Nat → Int) (zl : Nat → Int) (f : Nat → Int → Int) (fl : Nat → Int → Int) (tx : Nat)  (dp : Int) (n : Int) (a : Int) (bg : Int) (tb : Int → Int) (b : Int → Int) (lt : Int → Int) (hT : tOK n b) (hM : mOK n bg 160 tb b) (ha : 0 ≤ a ∧ a ≤ n) (hL : ∀ k : Int, 0 ≤ k → k < 128 → -1000000 ≤ lt k ∧ lt k ≤ 1000000) (hdp : 0 ≤ dp ∧ dp = 6 - ((rr + 1 : Nat) : Int)), Rx (d + (3 * rr + 4 + 2)) m_X12_atom 0 (am_ent [.ref 0] 4) [] (cmH (u1 (u1 (u1 (u1 (u1 z 8 bg) 9 n) 10 a) 11 (-1)) 12 dp) zl (uf (uf f 1 tb) 4 lt) fl 1) (fun rv h => ∃ r : Int, ∃ a' : Int, ∃ fa' : Int, ∃ dp' : Int, rv = some (.int (iz r)) ∧ h = cmH (u1 (u1 (u1 (u1 (u1 z 8 bg) 9 n) 10 a') 11 fa') 12 dp') zl (uf (uf f 1 tb) 4 lt) fl 1 ∧ mdR (atomR n b (rr + 1) a) (ltL lt) dp r a' fa' dp' ∧ ((a ≤ a' ∧ a' ≤ n) ∧ (fa' = -1 ∨ (0 ≤ fa' ∧ fa' ≤ 160)) ∧ (-1000000 ≤ r ∧ r ≤ 1000000))) := by
      intro d z zl f fl tx dp n a bg tb b lt hT hM ha hL hdp
      exact m_rAtom1_1 d z zl f fl tx (3 * rr + 3) rr ih dp n a bg tb b lt hT hM ha hL (by omega)
    have hT_ : ∀ (d : Nat) (z : Nat → Int) (zl : Nat → Int) (f : Nat → Int → Int) (fl : Nat → Int → Int) (tx : Nat)  (dp : Int) (n : Int) (a : Int) (bg : Int) (tb : Int → Int) (b : Int → Int) (lt : Int → Int) (hT : tOK n b) (hM : mOK n bg 160 tb b) (ha : 0 ≤ a ∧ a ≤ n) (hL : ∀ k : Int, 0 ≤ k → k < 128 → -1000000 ≤ lt k ∧ lt k ≤ 1000000) (hdp : 0 ≤ dp ∧ dp = 6 - ((rr + 1 : Nat) : Int)), Rx (d + (3 * rr + 5 + 2)) m_X12_term 0 (am_ent [.ref 0] 5) [] (cmH (u1 (u1 (u1 (u1 (u1 z 8 bg) 9 n) 10 a) 11 (-1)) 12 dp) zl (uf (uf f 1 tb) 4 lt) fl 1) (fun rv h => ∃ r : Int, ∃ a' : Int, ∃ fa' : Int, ∃ dp' : Int, rv = some (.int (iz r)) ∧ h = cmH (u1 (u1 (u1 (u1 (u1 z 8 bg) 9 n) 10 a') 11 fa') 12 dp') zl (uf (uf f 1 tb) 4 lt) fl 1 ∧ mdR (termG n b (atomR n b (rr + 1)) a) (ltL lt) dp r a' fa' dp' ∧ ((a ≤ a' ∧ a' ≤ n) ∧ (fa' = -1 ∨ (0 ≤ fa' ∧ fa' ≤ 160)) ∧ (-1000000 ≤ r ∧ r ≤ 1000000))) := by
      intro d z zl f fl tx dp n a bg tb b lt hT hM ha hL hdp
      exact m_rTerm1 d z zl f fl tx (3 * rr + 4) (rr + 1) hA dp n a bg tb b lt hT hM ha hL hdp
    intro d z zl f fl tx dp n a bg tb b lt hT hM ha hL hdp
    have q := m_rSum1 d z zl f fl tx (3 * rr + 5) (rr + 1) hT_ dp n a bg tb b lt hT hM ha hL hdp
    rw [← sumR_eq] at q
    exact q
set_option maxRecDepth 100000 in
set_option maxHeartbeats 4000000 in
theorem m_sumAll2 : ∀ (rr : Nat), ∀ (d : Nat) (z : Nat → Int) (zl : Nat → Int) (f : Nat → Int → Int) (fl : Nat → Int → Int) (tx : Nat)  (dp : Int) (n : Int) (a : Int) (bg : Int) (tb : Int → Int) (b : Int → Int) (lt : Int → Int) (hT : tOK n b) (hM : mOK n bg 640 tb b) (ha : 0 ≤ a ∧ a ≤ n) (hL : ∀ k : Int, 0 ≤ k → k < 128 → -1000000 ≤ lt k ∧ lt k ≤ 1000000) (hdp : 0 ≤ dp ∧ dp = 6 - (rr : Int)), Rx (d + (3 * rr + 5)) m_X12_sum 0 (am_ent [.ref 0] 5) [] (cmH (u1 (u1 (u1 (u1 (u1 z 8 bg) 9 n) 10 a) 11 (-1)) 12 dp) zl (uf (uf f 2 tb) 4 lt) fl 2) (fun rv h => ∃ r : Int, ∃ a' : Int, ∃ fa' : Int, ∃ dp' : Int, rv = some (.int (iz r)) ∧ h = cmH (u1 (u1 (u1 (u1 (u1 z 8 bg) 9 n) 10 a') 11 fa') 12 dp') zl (uf (uf f 2 tb) 4 lt) fl 2 ∧ mdR (sumR n b rr a) (ltL lt) dp r a' fa' dp' ∧ ((a ≤ a' ∧ a' ≤ n) ∧ (fa' = -1 ∨ (0 ≤ fa' ∧ fa' ≤ 160)) ∧ (-1000000 ≤ r ∧ r ≤ 1000000))) := by
  intro rr
  induction rr with
  | zero =>
    have hA : ∀ (d : Nat) (z : Nat → Int) (zl : Nat → Int) (f : Nat → Int → Int) (fl : Nat → Int → Int) (tx : Nat)  (dp : Int) (n : Int) (a : Int) (bg : Int) (tb : Int → Int) (b : Int → Int) (lt : Int → Int) (hT : tOK n b) (hM : mOK n bg 640 tb b) (ha : 0 ≤ a ∧ a ≤ n) (hL : ∀ k : Int, 0 ≤ k → k < 128 → -1000000 ≤ lt k ∧ lt k ≤ 1000000) (hdp : 0 ≤ dp ∧ dp = 6 - ((0 : Nat) : Int)), Rx (d + (1 + 2)) m_X12_atom 0 (am_ent [.ref 0] 4) [] (cmH (u1 (u1 (u1 (u1 (u1 z 8 bg) 9 n) 10 a) 11 (-1)) 12 dp) zl (uf (uf f 2 tb) 4 lt) fl 2) (fun rv h => ∃ r : Int, ∃ a' : Int, ∃ fa' : Int, ∃ dp' : Int, rv = some (.int (iz r)) ∧ h = cmH (u1 (u1 (u1 (u1 (u1 z 8 bg) 9 n) 10 a') 11 fa') 12 dp') zl (uf (uf f 2 tb) 4 lt) fl 2 ∧ mdR (atomR n b 0 a) (ltL lt) dp r a' fa' dp' ∧ ((a ≤ a' ∧ a' ≤ n) ∧ (fa' = -1 ∨ (0 ≤ fa' ∧ fa' ≤ 160)) ∧ (-1000000 ≤ r ∧ r ≤ 1000000))) := by
      intro d z zl f fl tx dp n a bg tb b lt hT hM ha hL hdp
      exact m_rAtom0_2 d z zl f fl tx dp n a bg tb b lt hT hM ha hL (by omega)
    have hT_ : ∀ (d : Nat) (z : Nat → Int) (zl : Nat → Int) (f : Nat → Int → Int) (fl : Nat → Int → Int) (tx : Nat)  (dp : Int) (n : Int) (a : Int) (bg : Int) (tb : Int → Int) (b : Int → Int) (lt : Int → Int) (hT : tOK n b) (hM : mOK n bg 640 tb b) (ha : 0 ≤ a ∧ a ≤ n) (hL : ∀ k : Int, 0 ≤ k → k < 128 → -1000000 ≤ lt k ∧ lt k ≤ 1000000) (hdp : 0 ≤ dp ∧ dp = 6 - ((0 : Nat) : Int)), Rx (d + (2 + 2)) m_X12_term 0 (am_ent [.ref 0] 5) [] (cmH (u1 (u1 (u1 (u1 (u1 z 8 bg) 9 n) 10 a) 11 (-1)) 12 dp) zl (uf (uf f 2 tb) 4 lt) fl 2) (fun rv h => ∃ r : Int, ∃ a' : Int, ∃ fa' : Int, ∃ dp' : Int, rv = some (.int (iz r)) ∧ h = cmH (u1 (u1 (u1 (u1 (u1 z 8 bg) 9 n) 10 a') 11 fa') 12 dp') zl (uf (uf f 2 tb) 4 lt) fl 2 ∧ mdR (termG n b (atomR n b 0) a) (ltL lt) dp r a' fa' dp' ∧ ((a ≤ a' ∧ a' ≤ n) ∧ (fa' = -1 ∨ (0 ≤ fa' ∧ fa' ≤ 160)) ∧ (-1000000 ≤ r ∧ r ≤ 1000000))) := by
      intro d z zl f fl tx dp n a bg tb b lt hT hM ha hL hdp
      exact m_rTerm2 d z zl f fl tx 1 0 hA dp n a bg tb b lt hT hM ha hL hdp
    intro d z zl f fl tx dp n a bg tb b lt hT hM ha hL hdp
    have q := m_rSum2 d z zl f fl tx 2 0 hT_ dp n a bg tb b lt hT hM ha hL hdp
    rw [← sumR_eq] at q
    exact q
  | succ rr ih =>
    have hA : ∀ (d : Nat) (z : Nat → Int) (zl : Nat → Int) (f : Nat → Int → Int) (fl : Nat → Int → Int) (tx : Nat)  (dp : Int) (n : Int) (a : Int) (bg : Int) (tb : Int → Int) (b : Int → Int) (lt : Int → Int) (hT : tOK n b) (hM : mOK n bg 640 tb b) (ha : 0 ≤ a ∧ a ≤ n) (hL : ∀ k : Int, 0 ≤ k → k < 128 → -1000000 ≤ lt k ∧ lt k ≤ 1000000) (hdp : 0 ≤ dp ∧ dp = 6 - ((rr + 1 : Nat) : Int)), Rx (d + (3 * rr + 4 + 2)) m_X12_atom 0 (am_ent [.ref 0] 4) [] (cmH (u1 (u1 (u1 (u1 (u1 z 8 bg) 9 n) 10 a) 11 (-1)) 12 dp) zl (uf (uf f 2 tb) 4 lt) fl 2) (fun rv h => ∃ r : Int, ∃ a' : Int, ∃ fa' : Int, ∃ dp' : Int, rv = some (.int (iz r)) ∧ h = cmH (u1 (u1 (u1 (u1 (u1 z 8 bg) 9 n) 10 a') 11 fa') 12 dp') zl (uf (uf f 2 tb) 4 lt) fl 2 ∧ mdR (atomR n b (rr + 1) a) (ltL lt) dp r a' fa' dp' ∧ ((a ≤ a' ∧ a' ≤ n) ∧ (fa' = -1 ∨ (0 ≤ fa' ∧ fa' ≤ 160)) ∧ (-1000000 ≤ r ∧ r ≤ 1000000))) := by
      intro d z zl f fl tx dp n a bg tb b lt hT hM ha hL hdp
      exact m_rAtom1_2 d z zl f fl tx (3 * rr + 3) rr ih dp n a bg tb b lt hT hM ha hL (by omega)
    have hT_ : ∀ (d : Nat) (z : Nat → Int) (zl : Nat → Int) (f : Nat → Int → Int) (fl : Nat → Int → Int) (tx : Nat)  (dp : Int) (n : Int) (a : Int) (bg : Int) (tb : Int → Int) (b : Int → Int) (lt : Int → Int) (hT : tOK n b) (hM : mOK n bg 640 tb b) (ha : 0 ≤ a ∧ a ≤ n) (hL : ∀ k : Int, 0 ≤ k → k < 128 → -1000000 ≤ lt k ∧ lt k ≤ 1000000) (hdp : 0 ≤ dp ∧ dp = 6 - ((rr + 1 : Nat) : Int)), Rx (d + (3 * rr + 5 + 2)) m_X12_term 0 (am_ent [.ref 0] 5) [] (cmH (u1 (u1 (u1 (u1 (u1 z 8 bg) 9 n) 10 a) 11 (-1)) 12 dp) zl (uf (uf f 2 tb) 4 lt) fl 2) (fun rv h => ∃ r : Int, ∃ a' : Int, ∃ fa' : Int, ∃ dp' : Int, rv = some (.int (iz r)) ∧ h = cmH (u1 (u1 (u1 (u1 (u1 z 8 bg) 9 n) 10 a') 11 fa') 12 dp') zl (uf (uf f 2 tb) 4 lt) fl 2 ∧ mdR (termG n b (atomR n b (rr + 1)) a) (ltL lt) dp r a' fa' dp' ∧ ((a ≤ a' ∧ a' ≤ n) ∧ (fa' = -1 ∨ (0 ≤ fa' ∧ fa' ≤ 160)) ∧ (-1000000 ≤ r ∧ r ≤ 1000000))) := by
      intro d z zl f fl tx dp n a bg tb b lt hT hM ha hL hdp
      exact m_rTerm2 d z zl f fl tx (3 * rr + 4) (rr + 1) hA dp n a bg tb b lt hT hM ha hL hdp
    intro d z zl f fl tx dp n a bg tb b lt hT hM ha hL hdp
    have q := m_rSum2 d z zl f fl tx (3 * rr + 5) (rr + 1) hT_ dp n a bg tb b lt hT hM ha hL hdp
    rw [← sumR_eq] at q
    exact q

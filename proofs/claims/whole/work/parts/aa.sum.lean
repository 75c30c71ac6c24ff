/-! sums of the class at every depth (printed by wip/whole/gensum.py) -/
set_option maxRecDepth 100000 in
set_option maxHeartbeats 4000000 in
theorem x_sumAll : ∀ (rr : Nat), ∀ (d : Nat) (z : Nat → Nat → Int) (f : Nat → Int → Int) (C : Nat → CuR) (T : Nat → TsR) (rc : Nat → Nat) (tl : AmH)  (dp : Int) (n : Int) (a : Int) (b : Int → Int) (sz : Int) (cd : Int → Int) (hT : tOK n b) (ha : 0 ≤ a ∧ a ≤ n) (hs : 0 ≤ sz ∧ sz ≤ a) (hdp : 0 ≤ dp ∧ dp = 6 - (rr : Int)), Rx (d + (3 * rr + 5)) m_X6_readsSum 0 (am_ent [.ref 12, .ref 1, .int (iz dp)] 5) [] (cxW (u2 (u2 (u2 z 1 1 n) 1 2 a) 12 1 sz) (uf (uf f 2 b) 13 cd) C T rc tl) (fun rv h => ∃ r : Int, ∃ a' : Int, ∃ sz' : Int, ∃ cd' : Int → Int, rv = some (.int (iz r)) ∧ h = cxW (u2 (u2 (u2 z 1 1 n) 1 2 a') 12 1 sz') (uf (uf f 2 b) 13 cd') C T rc tl ∧ rdR n b (sumR n b rr a) sz cd r a' sz' cd' ∧ ((r = 0 ∨ r = 1) ∧ (a ≤ a' ∧ a' ≤ n) ∧ (0 ≤ sz' ∧ sz' ≤ 161))) := by
  intro rr
  induction rr with
  | zero =>
    have hA : ∀ (d : Nat) (z : Nat → Nat → Int) (f : Nat → Int → Int) (C : Nat → CuR) (T : Nat → TsR) (rc : Nat → Nat) (tl : AmH)  (dp : Int) (n : Int) (a : Int) (b : Int → Int) (sz : Int) (cd : Int → Int) (hT : tOK n b) (ha : 0 ≤ a ∧ a ≤ n) (hs : 0 ≤ sz ∧ sz ≤ a) (hdp : 0 ≤ dp ∧ dp = 6 - ((0 : Nat) : Int)), Rx (d + (1 + 2)) m_X6_readsAtom 0 (am_ent [.ref 12, .ref 1, .int (iz dp)] 6) [] (cxW (u2 (u2 (u2 z 1 1 n) 1 2 a) 12 1 sz) (uf (uf f 2 b) 13 cd) C T rc tl) (fun rv h => ∃ r : Int, ∃ a' : Int, ∃ sz' : Int, ∃ cd' : Int → Int, rv = some (.int (iz r)) ∧ h = cxW (u2 (u2 (u2 z 1 1 n) 1 2 a') 12 1 sz') (uf (uf f 2 b) 13 cd') C T rc tl ∧ rdR n b (atomR n b 0 a) sz cd r a' sz' cd' ∧ ((r = 0 ∨ r = 1) ∧ (a ≤ a' ∧ a' ≤ n) ∧ (0 ≤ sz' ∧ sz' ≤ 161))) := by
      intro d z f C T rc tl dp n a b sz cd hT ha hs hdp
      exact x_rAtom0 d z f C T rc tl dp n a b sz cd hT ha hs (by omega)
    have hT_ : ∀ (d : Nat) (z : Nat → Nat → Int) (f : Nat → Int → Int) (C : Nat → CuR) (T : Nat → TsR) (rc : Nat → Nat) (tl : AmH)  (dp : Int) (n : Int) (a : Int) (b : Int → Int) (sz : Int) (cd : Int → Int) (hT : tOK n b) (ha : 0 ≤ a ∧ a ≤ n) (hs : 0 ≤ sz ∧ sz ≤ a) (hdp : 0 ≤ dp ∧ dp = 6 - ((0 : Nat) : Int)), Rx (d + (2 + 2)) m_X6_readsTerm 0 (am_ent [.ref 12, .ref 1, .int (iz dp)] 5) [] (cxW (u2 (u2 (u2 z 1 1 n) 1 2 a) 12 1 sz) (uf (uf f 2 b) 13 cd) C T rc tl) (fun rv h => ∃ r : Int, ∃ a' : Int, ∃ sz' : Int, ∃ cd' : Int → Int, rv = some (.int (iz r)) ∧ h = cxW (u2 (u2 (u2 z 1 1 n) 1 2 a') 12 1 sz') (uf (uf f 2 b) 13 cd') C T rc tl ∧ rdR n b (termG n b (atomR n b 0) a) sz cd r a' sz' cd' ∧ ((r = 0 ∨ r = 1) ∧ (a ≤ a' ∧ a' ≤ n) ∧ (0 ≤ sz' ∧ sz' ≤ 161))) := by
      intro d z f C T rc tl dp n a b sz cd hT ha hs hdp
      exact x_rTerm d z f C T rc tl 1 0 hA dp n a b sz cd hT ha hs hdp
    intro d z f C T rc tl dp n a b sz cd hT ha hs hdp
    have q := x_rSum d z f C T rc tl 2 0 hT_ dp n a b sz cd hT ha hs hdp
    rw [← sumR_eq] at q
    exact q
  | succ rr ih =>
    have hA : ∀ (d : Nat) (z : Nat → Nat → Int) (f : Nat → Int → Int) (C : Nat → CuR) (T : Nat → TsR) (rc : Nat → Nat) (tl : AmH)  (dp : Int) (n : Int) (a : Int) (b : Int → Int) (sz : Int) (cd : Int → Int) (hT : tOK n b) (ha : 0 ≤ a ∧ a ≤ n) (hs : 0 ≤ sz ∧ sz ≤ a) (hdp : 0 ≤ dp ∧ dp = 6 - ((rr + 1 : Nat) : Int)), Rx (d + (3 * rr + 4 + 2)) m_X6_readsAtom 0 (am_ent [.ref 12, .ref 1, .int (iz dp)] 6) [] (cxW (u2 (u2 (u2 z 1 1 n) 1 2 a) 12 1 sz) (uf (uf f 2 b) 13 cd) C T rc tl) (fun rv h => ∃ r : Int, ∃ a' : Int, ∃ sz' : Int, ∃ cd' : Int → Int, rv = some (.int (iz r)) ∧ h = cxW (u2 (u2 (u2 z 1 1 n) 1 2 a') 12 1 sz') (uf (uf f 2 b) 13 cd') C T rc tl ∧ rdR n b (atomR n b (rr + 1) a) sz cd r a' sz' cd' ∧ ((r = 0 ∨ r = 1) ∧ (a ≤ a' ∧ a' ≤ n) ∧ (0 ≤ sz' ∧ sz' ≤ 161))) := by
      intro d z f C T rc tl dp n a b sz cd hT ha hs hdp
      exact x_rAtom1 d z f C T rc tl (3 * rr + 3) rr ih dp n a b sz cd hT ha hs (by omega)
    have hT_ : ∀ (d : Nat) (z : Nat → Nat → Int) (f : Nat → Int → Int) (C : Nat → CuR) (T : Nat → TsR) (rc : Nat → Nat) (tl : AmH)  (dp : Int) (n : Int) (a : Int) (b : Int → Int) (sz : Int) (cd : Int → Int) (hT : tOK n b) (ha : 0 ≤ a ∧ a ≤ n) (hs : 0 ≤ sz ∧ sz ≤ a) (hdp : 0 ≤ dp ∧ dp = 6 - ((rr + 1 : Nat) : Int)), Rx (d + (3 * rr + 5 + 2)) m_X6_readsTerm 0 (am_ent [.ref 12, .ref 1, .int (iz dp)] 5) [] (cxW (u2 (u2 (u2 z 1 1 n) 1 2 a) 12 1 sz) (uf (uf f 2 b) 13 cd) C T rc tl) (fun rv h => ∃ r : Int, ∃ a' : Int, ∃ sz' : Int, ∃ cd' : Int → Int, rv = some (.int (iz r)) ∧ h = cxW (u2 (u2 (u2 z 1 1 n) 1 2 a') 12 1 sz') (uf (uf f 2 b) 13 cd') C T rc tl ∧ rdR n b (termG n b (atomR n b (rr + 1)) a) sz cd r a' sz' cd' ∧ ((r = 0 ∨ r = 1) ∧ (a ≤ a' ∧ a' ≤ n) ∧ (0 ≤ sz' ∧ sz' ≤ 161))) := by
      intro d z f C T rc tl dp n a b sz cd hT ha hs hdp
      exact x_rTerm d z f C T rc tl (3 * rr + 4) (rr + 1) hA dp n a b sz cd hT ha hs hdp
    intro d z f C T rc tl dp n a b sz cd hT ha hs hdp
    have q := x_rSum d z f C T rc tl (3 * rr + 5) (rr + 1) hT_ dp n a b sz cd hT ha hs hdp
    rw [← sumR_eq] at q
    exact q

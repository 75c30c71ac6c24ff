/-! rules: conditions at every depth; clauses pure (printed by wip/whole/gentie.py) -/
set_option maxRecDepth 100000 in
set_option maxHeartbeats 4000000 in
theorem x_unitAll : ∀ (rr : Nat), ∀ (d : Nat) (z : Nat → Nat → Int) (f : Nat → Int → Int) (C : Nat → CuR) (T : Nat → TsR) (rc : Nat → Nat) (tl : AmH)  (dp : Int) (n : Int) (a : Int) (b : Int → Int) (sz : Int) (cd : Int → Int) (hT : tOK n b) (ha : 0 ≤ a ∧ a ≤ n) (hs : 0 ≤ sz ∧ sz ≤ a) (hdp : 0 ≤ dp ∧ dp = 6 - (rr : Int)), Rx (d + (4 * rr + 6)) m_X6_readsUnit 0 (am_ent [.ref 12, .ref 1, .int (iz dp), .int (iz 0)] 5) [] (cxW (u2 (u2 (u2 z 1 1 n) 1 2 a) 12 1 sz) (uf (uf f 2 b) 13 cd) C T rc tl) (fun rv h => ∃ r : Int, ∃ a' : Int, ∃ sz' : Int, ∃ cd' : Int → Int, rv = some (.int (iz r)) ∧ h = cxW (u2 (u2 (u2 z 1 1 n) 1 2 a') 12 1 sz') (uf (uf f 2 b) 13 cd') C T rc tl ∧ rdR n b (unitR n b rr a) sz cd r a' sz' cd' ∧ ((r = 0 ∨ r = 1) ∧ (a ≤ a' ∧ a' ≤ n) ∧ (0 ≤ sz' ∧ sz' ≤ 161))) := by
  intro rr
  induction rr with
  | zero =>
    have hS : ∀ (d : Nat) (z : Nat → Nat → Int) (f : Nat → Int → Int) (C : Nat → CuR) (T : Nat → TsR) (rc : Nat → Nat) (tl : AmH)  (dp : Int) (n : Int) (a : Int) (b : Int → Int) (sz : Int) (cd : Int → Int) (hT : tOK n b) (ha : 0 ≤ a ∧ a ≤ n) (hs : 0 ≤ sz ∧ sz ≤ a) (hdp : 0 ≤ dp ∧ dp = 6 - ((0 : Nat) : Int)), Rx (d + (3 + 2)) m_X6_readsSum 0 (am_ent [.ref 12, .ref 1, .int (iz dp)] 5) [] (cxW (u2 (u2 (u2 z 1 1 n) 1 2 a) 12 1 sz) (uf (uf f 2 b) 13 cd) C T rc tl) (fun rv h => ∃ r : Int, ∃ a' : Int, ∃ sz' : Int, ∃ cd' : Int → Int, rv = some (.int (iz r)) ∧ h = cxW (u2 (u2 (u2 z 1 1 n) 1 2 a') 12 1 sz') (uf (uf f 2 b) 13 cd') C T rc tl ∧ rdR n b (sumR n b 0 a) sz cd r a' sz' cd' ∧ ((r = 0 ∨ r = 1) ∧ (a ≤ a' ∧ a' ≤ n) ∧ (0 ≤ sz' ∧ sz' ≤ 161))) := by
      intro d z f C T rc tl dp n a b sz cd hT ha hs hdp
      exact x_sumAll 0 d z f C T rc tl dp n a b sz cd hT ha hs hdp
    have hI : ∀ (d : Nat) (z : Nat → Nat → Int) (f : Nat → Int → Int) (C : Nat → CuR) (T : Nat → TsR) (rc : Nat → Nat) (tl : AmH)  (fi : Int) (dp : Int) (n : Int) (a : Int) (b : Int → Int) (sz : Int) (cd : Int → Int) (hT : tOK n b) (ha : 0 ≤ a ∧ a ≤ n) (hs : 0 ≤ sz ∧ sz ≤ a) (hdp : dp = 6) (hfi : (fi = 33 ∨ fi = 40) ∧ a < n), Rx (d + (3 + 2)) m_X6_readsInner 0 (am_ent [.ref 12, .ref 1, .int (iz dp), .int (iz fi)] 4) [] (cxW (u2 (u2 (u2 z 1 1 n) 1 2 a) 12 1 sz) (uf (uf f 2 b) 13 cd) C T rc tl) (fun rv h => ∃ r : Int, ∃ a' : Int, ∃ sz' : Int, ∃ cd' : Int → Int, rv = some (.int (iz r)) ∧ h = cxW (u2 (u2 (u2 z 1 1 n) 1 2 a') 12 1 sz') (uf (uf f 2 b) 13 cd') C T rc tl ∧ ((fi = 33 → rdR n b (rsF a) sz cd r a' sz' cd') ∧ (fi = 40 → rdR n b (rsF a) sz cd r a' sz' cd')) ∧ ((r = 0 ∨ r = 1) ∧ (a ≤ a' ∧ a' ≤ n) ∧ (0 ≤ sz' ∧ sz' ≤ 161))) := by
      intro d z f C T rc tl fi dp n a b sz cd hT ha hs hdp hfi
      exact x_rInner0 d z f C T rc tl 3 fi dp n a b sz cd hT ha hs hdp hfi
    intro d z f C T rc tl dp n a b sz cd hT ha hs hdp
    exact x_rUnit0 d z f C T rc tl 3 0 rfl hS hI dp n a b sz cd hT ha hs hdp
  | succ rr ih =>
    have hTr : ∀ (d : Nat) (z : Nat → Nat → Int) (f : Nat → Int → Int) (C : Nat → CuR) (T : Nat → TsR) (rc : Nat → Nat) (tl : AmH)  (dp : Int) (n : Int) (a : Int) (b : Int → Int) (sz : Int) (cd : Int → Int) (hT : tOK n b) (ha : 0 ≤ a ∧ a ≤ n) (hs : 0 ≤ sz ∧ sz ≤ a) (hdp : 0 ≤ dp ∧ dp = 6 - (rr : Int)), Rx (d + (4 * rr + 5 + 2)) m_X6_readsTruth 0 (am_ent [.ref 12, .ref 1, .int (iz dp), .int (iz 0)] 5) [] (cxW (u2 (u2 (u2 z 1 1 n) 1 2 a) 12 1 sz) (uf (uf f 2 b) 13 cd) C T rc tl) (fun rv h => ∃ r : Int, ∃ a' : Int, ∃ sz' : Int, ∃ cd' : Int → Int, rv = some (.int (iz r)) ∧ h = cxW (u2 (u2 (u2 z 1 1 n) 1 2 a') 12 1 sz') (uf (uf f 2 b) 13 cd') C T rc tl ∧ rdR n b (truthG n b (unitR n b rr) a) sz cd r a' sz' cd' ∧ ((r = 0 ∨ r = 1) ∧ (a ≤ a' ∧ a' ≤ n) ∧ (0 ≤ sz' ∧ sz' ≤ 161))) := by
      intro d z f C T rc tl dp n a b sz cd hT ha hs hdp
      exact x_rTruth d z f C T rc tl (4 * rr + 4) rr ih dp n a b sz cd hT ha hs hdp
    have hC : ∀ (d : Nat) (z : Nat → Nat → Int) (f : Nat → Int → Int) (C : Nat → CuR) (T : Nat → TsR) (rc : Nat → Nat) (tl : AmH)  (dp : Int) (n : Int) (a : Int) (b : Int → Int) (sz : Int) (cd : Int → Int) (hT : tOK n b) (ha : 0 ≤ a ∧ a ≤ n) (hs : 0 ≤ sz ∧ sz ≤ a) (hdp : 0 ≤ dp ∧ dp = 6 - (rr : Int)), Rx (d + (4 * rr + 6 + 2)) m_X6_readsCondition 0 (am_ent [.ref 12, .ref 1, .int (iz dp), .int (iz 0)] 5) [] (cxW (u2 (u2 (u2 z 1 1 n) 1 2 a) 12 1 sz) (uf (uf f 2 b) 13 cd) C T rc tl) (fun rv h => ∃ r : Int, ∃ a' : Int, ∃ sz' : Int, ∃ cd' : Int → Int, rv = some (.int (iz r)) ∧ h = cxW (u2 (u2 (u2 z 1 1 n) 1 2 a') 12 1 sz') (uf (uf f 2 b) 13 cd') C T rc tl ∧ rdR n b (condG n b (unitR n b rr) a) sz cd r a' sz' cd' ∧ ((r = 0 ∨ r = 1) ∧ (a ≤ a' ∧ a' ≤ n) ∧ (0 ≤ sz' ∧ sz' ≤ 161))) := by
      intro d z f C T rc tl dp n a b sz cd hT ha hs hdp
      exact x_rCond d z f C T rc tl (4 * rr + 5) rr hTr dp n a b sz cd hT ha hs hdp
    have hU : ∀ (d : Nat) (z : Nat → Nat → Int) (f : Nat → Int → Int) (C : Nat → CuR) (T : Nat → TsR) (rc : Nat → Nat) (tl : AmH)  (dp : Int) (n : Int) (a : Int) (b : Int → Int) (sz : Int) (cd : Int → Int) (hT : tOK n b) (ha : 0 ≤ a ∧ a ≤ n) (hs : 0 ≤ sz ∧ sz ≤ a) (hdp : 0 ≤ dp ∧ dp = 6 - (rr : Int)), Rx (d + (4 * rr + 6 + 2)) m_X6_readsUnit 0 (am_ent [.ref 12, .ref 1, .int (iz dp), .int (iz 0)] 5) [] (cxW (u2 (u2 (u2 z 1 1 n) 1 2 a) 12 1 sz) (uf (uf f 2 b) 13 cd) C T rc tl) (fun rv h => ∃ r : Int, ∃ a' : Int, ∃ sz' : Int, ∃ cd' : Int → Int, rv = some (.int (iz r)) ∧ h = cxW (u2 (u2 (u2 z 1 1 n) 1 2 a') 12 1 sz') (uf (uf f 2 b) 13 cd') C T rc tl ∧ rdR n b (unitR n b rr a) sz cd r a' sz' cd' ∧ ((r = 0 ∨ r = 1) ∧ (a ≤ a' ∧ a' ≤ n) ∧ (0 ≤ sz' ∧ sz' ≤ 161))) := by
      intro d z f C T rc tl dp n a b sz cd hT ha hs hdp
      exact (ih d z f C T rc tl dp n a b sz cd hT ha hs hdp).deep (by omega)
    have hI : ∀ (d : Nat) (z : Nat → Nat → Int) (f : Nat → Int → Int) (C : Nat → CuR) (T : Nat → TsR) (rc : Nat → Nat) (tl : AmH)  (fi : Int) (dp : Int) (n : Int) (a : Int) (b : Int → Int) (sz : Int) (cd : Int → Int) (hT : tOK n b) (ha : 0 ≤ a ∧ a ≤ n) (hs : 0 ≤ sz ∧ sz ≤ a) (hdp : 0 ≤ dp ∧ dp = 5 - (rr : Int)) (hfi : (fi = 33 ∨ fi = 40) ∧ a < n), Rx (d + (4 * rr + 7 + 2)) m_X6_readsInner 0 (am_ent [.ref 12, .ref 1, .int (iz dp), .int (iz fi)] 4) [] (cxW (u2 (u2 (u2 z 1 1 n) 1 2 a) 12 1 sz) (uf (uf f 2 b) 13 cd) C T rc tl) (fun rv h => ∃ r : Int, ∃ a' : Int, ∃ sz' : Int, ∃ cd' : Int → Int, rv = some (.int (iz r)) ∧ h = cxW (u2 (u2 (u2 z 1 1 n) 1 2 a') 12 1 sz') (uf (uf f 2 b) 13 cd') C T rc tl ∧ ((fi = 33 → rdR n b (notN (unitR n b rr (a + 1))) sz cd r a' sz' cd') ∧ (fi = 40 → rdR n b (clsN n b (condG n b (unitR n b rr) (a + 1)) 41) sz cd r a' sz' cd')) ∧ ((r = 0 ∨ r = 1) ∧ (a ≤ a' ∧ a' ≤ n) ∧ (0 ≤ sz' ∧ sz' ≤ 161))) := by
      intro d z f C T rc tl fi dp n a b sz cd hT ha hs hdp hfi
      exact x_rInner1 d z f C T rc tl (4 * rr + 6) rr hU hC fi dp n a b sz cd hT ha hs hdp hfi
    have hS : ∀ (d : Nat) (z : Nat → Nat → Int) (f : Nat → Int → Int) (C : Nat → CuR) (T : Nat → TsR) (rc : Nat → Nat) (tl : AmH)  (dp : Int) (n : Int) (a : Int) (b : Int → Int) (sz : Int) (cd : Int → Int) (hT : tOK n b) (ha : 0 ≤ a ∧ a ≤ n) (hs : 0 ≤ sz ∧ sz ≤ a) (hdp : 0 ≤ dp ∧ dp = 6 - ((rr + 1 : Nat) : Int)), Rx (d + (4 * rr + 7 + 2)) m_X6_readsSum 0 (am_ent [.ref 12, .ref 1, .int (iz dp)] 5) [] (cxW (u2 (u2 (u2 z 1 1 n) 1 2 a) 12 1 sz) (uf (uf f 2 b) 13 cd) C T rc tl) (fun rv h => ∃ r : Int, ∃ a' : Int, ∃ sz' : Int, ∃ cd' : Int → Int, rv = some (.int (iz r)) ∧ h = cxW (u2 (u2 (u2 z 1 1 n) 1 2 a') 12 1 sz') (uf (uf f 2 b) 13 cd') C T rc tl ∧ rdR n b (sumR n b (rr + 1) a) sz cd r a' sz' cd' ∧ ((r = 0 ∨ r = 1) ∧ (a ≤ a' ∧ a' ≤ n) ∧ (0 ≤ sz' ∧ sz' ≤ 161))) := by
      intro d z f C T rc tl dp n a b sz cd hT ha hs hdp
      exact (x_sumAll (rr + 1) d z f C T rc tl dp n a b sz cd hT ha hs hdp).deep (by omega)
    intro d z f C T rc tl dp n a b sz cd hT ha hs hdp
    exact x_rUnit1 d z f C T rc tl (4 * rr + 7) (rr + 1) rr rfl hS hI dp n a b sz cd hT ha hs hdp
set_option maxRecDepth 100000 in
set_option maxHeartbeats 4000000 in
theorem x_truth6 : ∀ (d : Nat) (z : Nat → Nat → Int) (f : Nat → Int → Int) (C : Nat → CuR) (T : Nat → TsR) (rc : Nat → Nat) (tl : AmH)  (dp : Int) (n : Int) (a : Int) (b : Int → Int) (sz : Int) (cd : Int → Int) (hT : tOK n b) (ha : 0 ≤ a ∧ a ≤ n) (hs : 0 ≤ sz ∧ sz ≤ a) (hdp : 0 ≤ dp ∧ dp = 6 - ((6 : Nat) : Int)), Rx (d + 31) m_X6_readsTruth 0 (am_ent [.ref 12, .ref 1, .int (iz dp), .int (iz 0)] 5) [] (cxW (u2 (u2 (u2 z 1 1 n) 1 2 a) 12 1 sz) (uf (uf f 2 b) 13 cd) C T rc tl) (fun rv h => ∃ r : Int, ∃ a' : Int, ∃ sz' : Int, ∃ cd' : Int → Int, rv = some (.int (iz r)) ∧ h = cxW (u2 (u2 (u2 z 1 1 n) 1 2 a') 12 1 sz') (uf (uf f 2 b) 13 cd') C T rc tl ∧ rdR n b (truthG n b (unitR n b 6) a) sz cd r a' sz' cd' ∧ ((r = 0 ∨ r = 1) ∧ (a ≤ a' ∧ a' ≤ n) ∧ (0 ≤ sz' ∧ sz' ≤ 161))) := by
  intro d z f C T rc tl dp n a b sz cd hT ha hs hdp
  exact x_rTruth d z f C T rc tl 28 6 (x_unitAll 6) dp n a b sz cd hT ha hs hdp

set_option maxRecDepth 100000 in
set_option maxHeartbeats 4000000 in
theorem x_cond6 : ∀ (d : Nat) (z : Nat → Nat → Int) (f : Nat → Int → Int) (C : Nat → CuR) (T : Nat → TsR) (rc : Nat → Nat) (tl : AmH)  (dp : Int) (n : Int) (a : Int) (b : Int → Int) (sz : Int) (cd : Int → Int) (hT : tOK n b) (ha : 0 ≤ a ∧ a ≤ n) (hs : 0 ≤ sz ∧ sz ≤ a) (hdp : 0 ≤ dp ∧ dp = 6 - ((6 : Nat) : Int)), Rx (d + 32) m_X6_readsCondition 0 (am_ent [.ref 12, .ref 1, .int (iz dp), .int (iz 0)] 5) [] (cxW (u2 (u2 (u2 z 1 1 n) 1 2 a) 12 1 sz) (uf (uf f 2 b) 13 cd) C T rc tl) (fun rv h => ∃ r : Int, ∃ a' : Int, ∃ sz' : Int, ∃ cd' : Int → Int, rv = some (.int (iz r)) ∧ h = cxW (u2 (u2 (u2 z 1 1 n) 1 2 a') 12 1 sz') (uf (uf f 2 b) 13 cd') C T rc tl ∧ rdR n b (condG n b (unitR n b 6) a) sz cd r a' sz' cd' ∧ ((r = 0 ∨ r = 1) ∧ (a ≤ a' ∧ a' ≤ n) ∧ (0 ≤ sz' ∧ sz' ≤ 161))) := by
  intro d z f C T rc tl dp n a b sz cd hT ha hs hdp
  exact x_rCond d z f C T rc tl 29 6 x_truth6 dp n a b sz cd hT ha hs hdp

set_option maxRecDepth 100000 in
set_option maxHeartbeats 4000000 in
theorem x_unitB6 : ∀ (d : Nat) (z : Nat → Nat → Int) (f : Nat → Int → Int) (C : Nat → CuR) (T : Nat → TsR) (rc : Nat → Nat) (tl : AmH)  (dp : Int) (n : Int) (a : Int) (b : Int → Int) (sz : Int) (cd : Int → Int) (sz0 : Int) (cd0 : Int → Int) (a0 : Int) (qq : RsT) (hT : tOK n b) (ha : 0 ≤ a ∧ a ≤ n) (ha0 : a0 ≤ a) (hdp : 0 ≤ dp ∧ dp = 6 - ((6 : Nat) : Int)) (hz0 : 0 ≤ sz0 ∧ sz0 ≤ a0) (hs : 0 ≤ sz ∧ sz ≤ 161) (hR : rdR n b qq sz0 cd0 1 a sz cd) (hsa : qq.1 = true → sz ≤ a) (hqa : qq.1 = true → (qq.2.2.1.length : Int) + a0 ≤ a ∧ a0 < a), Rx (d + 30) m_X6_readsUnit 0 (am_ent [.ref 12, .ref 1, .int (iz dp), .int (iz 1)] 5) [] (cxW (u2 (u2 (u2 z 1 1 n) 1 2 a) 12 1 sz) (uf (uf f 2 b) 13 cd) C T rc tl) (fun rv h => ∃ r : Int, ∃ a' : Int, ∃ sz' : Int, ∃ cd' : Int → Int, rv = some (.int (iz r)) ∧ h = cxW (u2 (u2 (u2 z 1 1 n) 1 2 a') 12 1 sz') (uf (uf f 2 b) 13 cd') C T rc tl ∧ rdR n b (cmpG n b (sumR n b 6) qq) sz0 cd0 r a' sz' cd' ∧ ((r = 0 ∨ r = 1) ∧ (a0 ≤ a' ∧ a' ≤ n) ∧ (0 ≤ sz' ∧ sz' ≤ 161))) := by
  intro d z f C T rc tl dp n a b sz cd sz0 cd0 a0 qq hT ha ha0 hdp hz0 hs hR hsa hqa
  exact (x_rUnitB d z f C T rc tl 21 6 (x_sumAll 6) dp n a b sz cd sz0 cd0 a0 qq hT ha ha0 hdp hz0 hs hR hsa hqa).deep (by omega)

set_option maxRecDepth 100000 in
set_option maxHeartbeats 4000000 in
theorem x_truthB6 : ∀ (d : Nat) (z : Nat → Nat → Int) (f : Nat → Int → Int) (C : Nat → CuR) (T : Nat → TsR) (rc : Nat → Nat) (tl : AmH)  (dp : Int) (n : Int) (a : Int) (b : Int → Int) (sz : Int) (cd : Int → Int) (sz0 : Int) (cd0 : Int → Int) (a0 : Int) (qq : RsT) (hT : tOK n b) (ha : 0 ≤ a ∧ a ≤ n) (ha0 : a0 ≤ a) (hdp : 0 ≤ dp ∧ dp = 6 - ((6 : Nat) : Int)) (hz0 : 0 ≤ sz0 ∧ sz0 ≤ a0) (hs : 0 ≤ sz ∧ sz ≤ 161) (hR : rdR n b qq sz0 cd0 1 a sz cd) (hsa : qq.1 = true → sz ≤ a) (hqa : qq.1 = true → (qq.2.2.1.length : Int) + a0 ≤ a ∧ a0 < a), Rx (d + 31) m_X6_readsTruth 0 (am_ent [.ref 12, .ref 1, .int (iz dp), .int (iz 1)] 5) [] (cxW (u2 (u2 (u2 z 1 1 n) 1 2 a) 12 1 sz) (uf (uf f 2 b) 13 cd) C T rc tl) (fun rv h => ∃ r : Int, ∃ a' : Int, ∃ sz' : Int, ∃ cd' : Int → Int, rv = some (.int (iz r)) ∧ h = cxW (u2 (u2 (u2 z 1 1 n) 1 2 a') 12 1 sz') (uf (uf f 2 b) 13 cd') C T rc tl ∧ rdR n b (opL n b 38 38 (-8) (-8) (unitR n b 6) 161 (cmpG n b (sumR n b 6) qq)) sz0 cd0 r a' sz' cd' ∧ ((r = 0 ∨ r = 1) ∧ (a0 ≤ a' ∧ a' ≤ n) ∧ (0 ≤ sz' ∧ sz' ≤ 161))) := by
  intro d z f C T rc tl dp n a b sz cd sz0 cd0 a0 qq hT ha ha0 hdp hz0 hs hR hsa hqa
  exact x_rTruthB d z f C T rc tl 28 6 (x_unitAll 6) x_unitB6 dp n a b sz cd sz0 cd0 a0 qq hT ha ha0 hdp hz0 hs hR hsa hqa

set_option maxRecDepth 100000 in
set_option maxHeartbeats 4000000 in
theorem x_condB6 : ∀ (d : Nat) (z : Nat → Nat → Int) (f : Nat → Int → Int) (C : Nat → CuR) (T : Nat → TsR) (rc : Nat → Nat) (tl : AmH)  (dp : Int) (n : Int) (a : Int) (b : Int → Int) (sz : Int) (cd : Int → Int) (sz0 : Int) (cd0 : Int → Int) (a0 : Int) (qq : RsT) (hT : tOK n b) (ha : 0 ≤ a ∧ a ≤ n) (ha0 : a0 ≤ a) (hdp : 0 ≤ dp ∧ dp = 6 - ((6 : Nat) : Int)) (hz0 : 0 ≤ sz0 ∧ sz0 ≤ a0) (hs : 0 ≤ sz ∧ sz ≤ 161) (hR : rdR n b qq sz0 cd0 1 a sz cd) (hsa : qq.1 = true → sz ≤ a) (hqa : qq.1 = true → (qq.2.2.1.length : Int) + a0 ≤ a ∧ a0 < a), Rx (d + 32) m_X6_readsCondition 0 (am_ent [.ref 12, .ref 1, .int (iz dp), .int (iz 1)] 5) [] (cxW (u2 (u2 (u2 z 1 1 n) 1 2 a) 12 1 sz) (uf (uf f 2 b) 13 cd) C T rc tl) (fun rv h => ∃ r : Int, ∃ a' : Int, ∃ sz' : Int, ∃ cd' : Int → Int, rv = some (.int (iz r)) ∧ h = cxW (u2 (u2 (u2 z 1 1 n) 1 2 a') 12 1 sz') (uf (uf f 2 b) 13 cd') C T rc tl ∧ rdR n b (opL n b 124 124 (-9) (-9) (truthG n b (unitR n b 6)) 161 (opL n b 38 38 (-8) (-8) (unitR n b 6) 161 (cmpG n b (sumR n b 6) qq))) sz0 cd0 r a' sz' cd' ∧ ((r = 0 ∨ r = 1) ∧ (a0 ≤ a' ∧ a' ≤ n) ∧ (0 ≤ sz' ∧ sz' ≤ 161))) := by
  intro d z f C T rc tl dp n a b sz cd sz0 cd0 a0 qq hT ha ha0 hdp hz0 hs hR hsa hqa
  exact x_rCondB d z f C T rc tl 29 6 x_truth6 x_truthB6 dp n a b sz cd sz0 cd0 a0 qq hT ha ha0 hdp hz0 hs hR hsa hqa

/-! clauses: what is read, and the condition -/
section Cl
variable (n : Int) (b : Int → Int)
/-- a condition whose first sum was read -/
def cndB (q : RsT) : RsT := opL n b 124 124 (-9) (-9) (truthG n b (unitR n b 6)) 161 (opL n b 38 38 (-8) (-8) (unitR n b 6) 161 (cmpG n b (sumR n b 6) q))
/-- behind a condition: the sum that it guards -/
def clQ (q : RsT) : RsT := if q.1 = true then (if sg n b (sks n b q.2.1) = 63 then (if (sumR n b 6 (sks n b q.2.1 + 1)).1 = true then (true, (sumR n b 6 (sks n b q.2.1 + 1)).2.1, q.2.2.1 ++ [-11] ++ (sumR n b 6 (sks n b q.2.1 + 1)).2.2.1 ++ [-12], (sumR n b 6 (sks n b q.2.1 + 1)).2.2.2) else rsF (sumR n b 6 (sks n b q.2.1 + 1)).2.1) else rsF (sks n b q.2.1)) else rsF q.2.1
/-- behind y: -/
def clU (u : Int) : RsT × ((Int → Int) → Int) :=
  if sg n b (sks n b u) = 33 ∨ sg n b (sks n b u) = 40 then (clQ n b (condG n b (unitR n b 6) (sks n b u)), (condG n b (unitR n b 6) (sks n b u)).2.2.2)
  else if (sumR n b 6 (sks n b u)).1 = true then (if cmpS (sg n b (sks n b (sumR n b 6 (sks n b u)).2.1)) = 0 then ((true, sks n b (sumR n b 6 (sks n b u)).2.1, (sumR n b 6 (sks n b u)).2.2.1 ++ [-12], (sumR n b 6 (sks n b u)).2.2.2), fun _ => 1) else (clQ n b (cndB n b (sumR n b 6 (sks n b u))), (cndB n b (sumR n b 6 (sks n b u))).2.2.2))
  else (rsF (sumR n b 6 (sks n b u)).2.1, fun _ => 1)
def clauseG (a : Int) : RsT × ((Int → Int) → Int) :=
  if sg n b (sks n b a) = 121 then (if sg n b (sks n b (sks n b a + 1)) = 58 then clU n b (sks n b (sks n b a + 1) + 1) else (rsF (sks n b (sks n b a + 1)), fun _ => 1)) else (rsF (sks n b a), fun _ => 1)
end Cl

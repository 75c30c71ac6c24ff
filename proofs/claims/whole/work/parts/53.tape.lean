/-! texts are read: the class's tape, the model's looks (printed by wip/whole/gentext.py) -/
set_option maxRecDepth 100000 in
set_option maxHeartbeats 4000000 in
theorem x_sign_l (d : Nat) (z : Nat → Nat → Int) (f : Nat → Int → Int) (rc : Nat → Nat) (tl : AmH) (n : Int) (hT : tOK n (f 2)) : ∀ (k : Nat) (a : Int), 0 ≤ a → a ≤ n → (n - a).toNat < k → Rx d m_X8_sign 0 [some (.ref 1)] [] (cxH (u2 (u2 z 1 1 n) 1 2 a) f rc tl) (fun rv h => rv = some (.int (iz (sg n (f 2) (sks n (f 2) a)))) ∧ h = cxH (u2 (u2 z 1 1 n) 1 2 (sks n (f 2) a)) f rc tl) := by
  have hn := hT.2.1
  intro k
  induction k with
  | zero => intro a h0 h1 hk; omega
  | succ k ih =>
    intro a h0 h1 hk
    refine Rx.walk 4 (pc' := 8) (L' := [some (.ref 1)]) (st' := [.int (iz n), .int (iz a)]) (h' := cxH (u2 (u2 z 1 1 n) 1 2 a) f rc tl) rfl ?_
    refine Rx.ge2 rfl rfl ⟨by omega, by omega⟩ ⟨by omega, by omega⟩ (fun b1 => ?_) (fun b1 => ?_)
    · refine Rx.walk 4 (pc' := 46) (L' := [some (.ref 1)]) (st' := [.int (iz n), .int (iz a)]) (h' := cxH (u2 (u2 z 1 1 n) 1 2 a) f rc tl) rfl ?_
      refine Rx.ge2 rfl rfl ⟨by omega, by omega⟩ ⟨by omega, by omega⟩ (fun b2 => ?_) (fun b2 => by omega)
      refine Rx.walk 1 (pc' := 62) (L' := [some (.ref 1)]) (st' := [.int (iz (-1))]) (h' := cxH (u2 (u2 z 1 1 n) 1 2 a) f rc tl) rfl ?_
      refine Rx.ret rfl ?_
      first | (rw [sks_at (by omega), sg_lt (by omega)]; exact ⟨rfl, rfl⟩) | (rw [sks_at (by omega), sg_ge (by omega)]; exact ⟨rfl, rfl⟩)
    · refine Rx.walk 4 (pc' := 19) (L' := [some (.ref 1)]) (st' := [.int (iz a), .ref 2]) (h' := cxH (u2 (u2 z 1 1 n) 1 2 a) f rc tl) rfl ?_
      refine Rx.ial rfl rfl (by omega) (by omega) (by omega) ?_
      have y := hT.2.2 a (by omega) (by omega)
      refine Rx.walk 1 (pc' := 22) (L' := [some (.ref 1)]) (st' := [.int (iz 32), .int (iz (f 2 a))]) (h' := cxH (u2 (u2 z 1 1 n) 1 2 a) f rc tl) rfl ?_
      refine Rx.ne2 rfl rfl ⟨by omega, by omega⟩ ⟨by omega, by omega⟩ (fun b3 => ?_) (fun b3 => ?_)
      · refine Rx.walk 4 (pc' := 46) (L' := [some (.ref 1)]) (st' := [.int (iz n), .int (iz a)]) (h' := cxH (u2 (u2 z 1 1 n) 1 2 a) f rc tl) rfl ?_
        refine Rx.ge2 rfl rfl ⟨by omega, by omega⟩ ⟨by omega, by omega⟩ (fun b4 => by omega) (fun b4 => ?_)
        refine Rx.walk 4 (pc' := 57) (L' := [some (.ref 1)]) (st' := [.int (iz a), .ref 2]) (h' := cxH (u2 (u2 z 1 1 n) 1 2 a) f rc tl) rfl ?_
        refine Rx.ial rfl rfl (by omega) (by omega) (by omega) ?_
        refine Rx.walk 1 (pc' := 62) (L' := [some (.ref 1)]) (st' := [.int (iz (f 2 a))]) (h' := cxH (u2 (u2 z 1 1 n) 1 2 a) f rc tl) rfl ?_
        refine Rx.ret rfl ?_
        first | (rw [sks_at (by omega), sg_lt (by omega)]; exact ⟨rfl, rfl⟩) | (rw [sks_at (by omega), sg_ge (by omega)]; exact ⟨rfl, rfl⟩)
      · refine Rx.walk 4 (pc' := 31) (L' := [some (.ref 1)]) (st' := [.int (iz 1), .int (iz a), .ref 1]) (h' := cxH (u2 (u2 z 1 1 n) 1 2 a) f rc tl) rfl ?_
        refine Rx.iadd rfl ?_
        refine Rx.walk 2 (pc' := 0) (L' := [some (.ref 1)]) (st' := []) (h' := cxH (u2 (u2 z 1 1 n) 1 2 (a + 1)) f rc tl) rfl ?_
        rw [sks_sp (by omega) (by omega)]
        exact ih (a + 1) (by omega) (by omega) (by omega)
theorem x_sign (d : Nat) (z : Nat → Nat → Int) (f : Nat → Int → Int) (rc : Nat → Nat) (tl : AmH) (n a : Int) (hT : tOK n (f 2)) (h0 : 0 ≤ a) (h1 : a ≤ n) : Rx d m_X8_sign 0 (am_ent [.ref 1] 1) [] (cxH (u2 (u2 z 1 1 n) 1 2 a) f rc tl) (fun rv h => rv = some (.int (iz (sg n (f 2) (sks n (f 2) a)))) ∧ h = cxH (u2 (u2 z 1 1 n) 1 2 (sks n (f 2) a)) f rc tl) := x_sign_l d z f rc tl n hT _ a h0 h1 (Nat.lt_succ_self _)
set_option maxRecDepth 100000 in
set_option maxHeartbeats 4000000 in
theorem x_isDigit (d : Nat) (h : AmH) (e : Int) (he : bI e) : Rx d m_X8_isDigit 0 (am_ent [.int (iz e)] 1) [] h (fun rv h1 => rv = some (.int (iz (bz (decide (48 ≤ e ∧ e ≤ 57))))) ∧ h1 = h) := by
  have he2 := he
  unfold bI at he2
  refine Rx.walk 2 (pc' := 3) (L' := [some (.int (iz e))]) (st' := [.int (iz 48), .int (iz e)]) (h' := h) rfl ?_
  refine Rx.lt2 rfl rfl he ⟨by omega, by omega⟩ (fun b1 => ?_) (fun b1 => ?_)
  · refine Rx.walk 1 (pc' := 17) (L' := [some (.int (iz e))]) (st' := [.int (iz 0)]) (h' := h) rfl ?_
    refine Rx.ret rfl ?_
    rw [decide_eq_false (by omega)]
    exact ⟨rfl, rfl⟩
  · refine Rx.walk 2 (pc' := 9) (L' := [some (.int (iz e))]) (st' := [.int (iz 57), .int (iz e)]) (h' := h) rfl ?_
    refine Rx.gt2 rfl rfl he ⟨by omega, by omega⟩ (fun b2 => ?_) (fun b2 => ?_)
    · refine Rx.walk 1 (pc' := 17) (L' := [some (.int (iz e))]) (st' := [.int (iz 0)]) (h' := h) rfl ?_
      refine Rx.ret rfl ?_
      rw [decide_eq_false (by omega)]
      exact ⟨rfl, rfl⟩
    · refine Rx.walk 2 (pc' := 17) (L' := [some (.int (iz e))]) (st' := [.int (iz 1)]) (h' := h) rfl ?_
      refine Rx.ret rfl ?_
      rw [decide_eq_true (by omega)]
      exact ⟨rfl, rfl⟩
set_option maxRecDepth 100000 in
set_option maxHeartbeats 4000000 in
theorem x_accepts (d : Nat) (z : Nat → Nat → Int) (f : Nat → Int → Int) (rc : Nat → Nat) (tl : AmH) (n a c : Int) (hc : bI c) (hT : tOK n (f 2)) (h0 : 0 ≤ a) (h1 : a ≤ n) : Rx (d + 1) m_X8_accepts 0 (am_ent [.ref 1, .int (iz c)] 2) [] (cxH (u2 (u2 z 1 1 n) 1 2 a) f rc tl) (fun rv h => (sg n (f 2) (sks n (f 2) a) = c ∧ rv = some (.int (iz 1)) ∧ h = cxH (u2 (u2 z 1 1 n) 1 2 ((sks n (f 2) a) + 1)) f rc tl) ∨ (sg n (f 2) (sks n (f 2) a) ≠ c ∧ rv = some (.int (iz 0)) ∧ h = cxH (u2 (u2 z 1 1 n) 1 2 (sks n (f 2) a)) f rc tl)) := by
  have hn := hT.2.1
  have hs1 := sks_le n (f 2) a
  have hs2 := sks_n (f 2) h1
  have hs := sg_bI hT (a := sks n (f 2) a) (by omega)
  obtain ⟨hc1, hc2⟩ := hc
  refine Rx.walk 0 (pc' := 0) (L' := [some (.ref 1), some (.int (iz c))]) (st' := []) (h' := cxH (u2 (u2 z 1 1 n) 1 2 a) f rc tl) rfl ?_
  refine Rx.walk 1 (pc' := 1) (L' := [some (.ref 1), some (.int (iz c))]) (st' := [.ref 1]) (h' := cxH (u2 (u2 z 1 1 n) 1 2 a) f rc tl) rfl ?_
  refine Rx.callx (m' := m_X8_sign) (as := [.ref 1]) (rest := []) rfl (x_sign _ (u2 (u2 z 1 1 n) 1 2 a) f rc tl n a hT (by omega) (by omega)) (fun v1 h2 q3 => ?_)
  obtain ⟨rfl, rfl⟩ := q3
  refine Rx.walk 0 (pc' := 4) (L' := [some (.ref 1), some (.int (iz c))]) (st' := [.int (iz (sg n (f 2) (sks n (f 2) a)))]) (h' := cxH (u2 (u2 z 1 1 n) 1 2 (sks n (f 2) a)) f rc tl) rfl ?_
  refine Rx.walk 1 (pc' := 5) (L' := [some (.ref 1), some (.int (iz c))]) (st' := [.int (iz c), .int (iz (sg n (f 2) (sks n (f 2) a)))]) (h' := cxH (u2 (u2 z 1 1 n) 1 2 (sks n (f 2) a)) f rc tl) rfl ?_
  refine Rx.eq2 rfl rfl ⟨by omega, by omega⟩ ⟨by omega, by omega⟩ (fun b4 => ?_) (fun b4 => ?_)
  · refine Rx.walk 4 (pc' := 16) (L' := [some (.ref 1), some (.int (iz c))]) (st' := [.int (iz 1), .int (iz (sks n (f 2) a)), .ref 1]) (h' := cxH (u2 (u2 z 1 1 n) 1 2 (sks n (f 2) a)) f rc tl) rfl ?_
    refine Rx.iadd rfl ?_
    refine Rx.walk 2 (pc' := 21) (L' := [some (.ref 1), some (.int (iz c))]) (st' := [.int (iz 1)]) (h' := cxH (u2 (u2 z 1 1 n) 1 2 ((sks n (f 2) a) + 1)) f rc tl) rfl ?_
    refine Rx.ret rfl ?_
    exact Or.inl ⟨by omega, rfl, rfl⟩
  · refine Rx.walk 1 (pc' := 9) (L' := [some (.ref 1), some (.int (iz c))]) (st' := [.int (iz 0)]) (h' := cxH (u2 (u2 z 1 1 n) 1 2 (sks n (f 2) a)) f rc tl) rfl ?_
    refine Rx.ret rfl ?_
    exact Or.inr ⟨by omega, rfl, rfl⟩
set_option maxRecDepth 100000 in
set_option maxHeartbeats 4000000 in
theorem x_digits_l (d : Nat) (z : Nat → Nat → Int) (f : Nat → Int → Int) (rc : Nat → Nat) (tl : AmH) (n mo : Int) (hm : mo ≤ 4) (hT : tOK n (f 2)) : ∀ (k : Nat) (i p v : Int), 0 ≤ p → p ≤ n → 0 ≤ i → 0 ≤ v → mo - i = k → Rx (d + 1) m_X8_digits 16 [some (.ref 1), some (.int (iz mo)), some (.int (iz v)), some (.int (iz i))] [] (cxH (u2 (u2 z 1 1 n) 1 2 p) f rc tl) (fun rv h => rv = some (.int (iz (dg n (f 2) k p v).2)) ∧ h = cxH (u2 (u2 z 1 1 n) 1 2 ((dg n (f 2) k p v).1)) f rc tl) := by
  have hn := hT.2.1
  intro k
  induction k using Nat.strongRecOn with
  | ind k ih =>
    intro i p v h0 h1 hi hv hk
    refine Rx.walk 2 (pc' := 18) (L' := [some (.ref 1), some (.int (iz mo)), some (.int (iz v)), some (.int (iz i))]) (st' := [.int (iz mo), .int (iz i)]) (h' := cxH (u2 (u2 z 1 1 n) 1 2 p) f rc tl) rfl ?_
    refine Rx.ge2 rfl rfl ⟨by omega, by omega⟩ ⟨by omega, by omega⟩ (fun b1 => ?_) (fun b1 => ?_)
    · refine Rx.walk 1 (pc' := 82) (L' := [some (.ref 1), some (.int (iz mo)), some (.int (iz v)), some (.int (iz i))]) (st' := [.int (iz v)]) (h' := cxH (u2 (u2 z 1 1 n) 1 2 p) f rc tl) rfl ?_
      refine Rx.ret rfl ?_
      obtain rfl : k = 0 := by omega
      exact ⟨rfl, rfl⟩
    · refine Rx.walk 4 (pc' := 29) (L' := [some (.ref 1), some (.int (iz mo)), some (.int (iz v)), some (.int (iz i))]) (st' := [.int (iz n), .int (iz p)]) (h' := cxH (u2 (u2 z 1 1 n) 1 2 p) f rc tl) rfl ?_
      refine Rx.ge2 rfl rfl ⟨by omega, by omega⟩ ⟨by omega, by omega⟩ (fun b2 => ?_) (fun b2 => ?_)
      · refine Rx.walk 1 (pc' := 82) (L' := [some (.ref 1), some (.int (iz mo)), some (.int (iz v)), some (.int (iz i))]) (st' := [.int (iz v)]) (h' := cxH (u2 (u2 z 1 1 n) 1 2 p) f rc tl) rfl ?_
        refine Rx.ret rfl ?_
        rw [dg_f (isD_f.mpr (by omega))]
        exact ⟨rfl, rfl⟩
      · refine Rx.walk 4 (pc' := 40) (L' := [some (.ref 1), some (.int (iz mo)), some (.int (iz v)), some (.int (iz i))]) (st' := [.int (iz p), .ref 2]) (h' := cxH (u2 (u2 z 1 1 n) 1 2 p) f rc tl) rfl ?_
        refine Rx.ial rfl rfl (by omega) (by omega) (by omega) ?_
        have y := hT.2.2 p (by omega) (by omega)
        refine Rx.callx (m' := m_X8_isDigit) (as := [.int (iz (f 2 p))]) (rest := []) rfl (x_isDigit _ _ (f 2 p) ⟨by omega, by omega⟩) (fun v3 h4 q5 => ?_)
        obtain ⟨rfl, rfl⟩ := q5
        refine Rx.walk 0 (pc' := 44) (L' := [some (.ref 1), some (.int (iz mo)), some (.int (iz v)), some (.int (iz i))]) (st' := [.int (iz (bz (decide (48 ≤ (f 2 p) ∧ (f 2 p) ≤ 57))))]) (h' := cxH (u2 (u2 z 1 1 n) 1 2 p) f rc tl) rfl ?_
        refine Rx.eqb rfl rfl (fun b6 => ?_) (fun b6 => ?_)
        · refine Rx.walk 1 (pc' := 82) (L' := [some (.ref 1), some (.int (iz mo)), some (.int (iz v)), some (.int (iz i))]) (st' := [.int (iz v)]) (h' := cxH (u2 (u2 z 1 1 n) 1 2 p) f rc tl) rfl ?_
          refine Rx.ret rfl ?_
          rw [dg_f (isD_f.mpr (by have y3 := of_decide_eq_false b6; omega))]
          exact ⟨rfl, rfl⟩
        · have y2 := of_decide_eq_true b6
          refine Rx.walk 2 (pc' := 50) (L' := [some (.ref 1), some (.int (iz mo)), some (.int (iz v)), some (.int (iz i))]) (st' := [.int (iz 10), .int (iz v)]) (h' := cxH (u2 (u2 z 1 1 n) 1 2 p) f rc tl) rfl ?_
          refine Rx.imul rfl ?_
          refine Rx.walk 4 (pc' := 59) (L' := [some (.ref 1), some (.int (iz mo)), some (.int (iz v)), some (.int (iz i))]) (st' := [.int (iz p), .ref 2, .int (iz (v * 10))]) (h' := cxH (u2 (u2 z 1 1 n) 1 2 p) f rc tl) rfl ?_
          refine Rx.ial rfl rfl (by omega) (by omega) (by omega) ?_
          refine Rx.iadd rfl ?_
          refine Rx.walk 1 (pc' := 63) (L' := [some (.ref 1), some (.int (iz mo)), some (.int (iz v)), some (.int (iz i))]) (st' := [.int (iz 48), .int (iz ((v * 10) + (f 2 p)))]) (h' := cxH (u2 (u2 z 1 1 n) 1 2 p) f rc tl) rfl ?_
          refine Rx.isub rfl ?_
          refine Rx.walk 5 (pc' := 71) (L' := [some (.ref 1), some (.int (iz mo)), some (.int (iz (((v * 10) + (f 2 p)) - 48))), some (.int (iz i))]) (st' := [.int (iz 1), .int (iz p), .ref 1]) (h' := cxH (u2 (u2 z 1 1 n) 1 2 p) f rc tl) rfl ?_
          refine Rx.iadd rfl ?_
          refine Rx.walk 1 (pc' := 75) (L' := [some (.ref 1), some (.int (iz mo)), some (.int (iz (((v * 10) + (f 2 p)) - 48))), some (.int (iz i))]) (st' := []) (h' := cxH (u2 (u2 z 1 1 n) 1 2 (p + 1)) f rc tl) rfl ?_
          refine Rx.iinc (b := 1) rfl rfl rfl ?_
          refine Rx.walk 0 (pc' := 78) (L' := [some (.ref 1), some (.int (iz mo)), some (.int (iz (((v * 10) + (f 2 p)) - 48))), some (.int (iz (i + 1)))]) (st' := []) (h' := cxH (u2 (u2 z 1 1 n) 1 2 (p + 1)) f rc tl) rfl ?_
          refine Rx.walk 1 (pc' := 16) (L' := [some (.ref 1), some (.int (iz mo)), some (.int (iz (((v * 10) + (f 2 p)) - 48))), some (.int (iz (i + 1)))]) (st' := []) (h' := cxH (u2 (u2 z 1 1 n) 1 2 (p + 1)) f rc tl) rfl ?_
          have e1 : isD n (f 2) p = true := isD_t.mpr ⟨by omega, by omega, by omega⟩
          obtain ⟨j, rfl⟩ : ∃ j, k = j + 1 := ⟨k - 1, by omega⟩
          rw [dg_t e1, show 10 * v + f 2 p - 48 = v * 10 + f 2 p - 48 by omega]
          exact ih j (by omega) _ _ _ (by omega) (by omega) (by omega) (by omega) (by omega)
set_option maxRecDepth 100000 in
set_option maxHeartbeats 4000000 in
theorem x_digits (d : Nat) (z : Nat → Nat → Int) (f : Nat → Int → Int) (rc : Nat → Nat) (tl : AmH) (n a : Int) (k : Nat) (hk : k ≤ 4) (hT : tOK n (f 2)) (h0 : 0 ≤ a) (h1 : a ≤ n) : Rx (d + 1) m_X8_digits 0 (am_ent [.ref 1, .int (iz (k : Int))] 4) [] (cxH (u2 (u2 z 1 1 n) 1 2 a) f rc tl) (fun rv h => (isD n (f 2) (sks n (f 2) a) = true ∧ rv = some (.int (iz (dg n (f 2) k (sks n (f 2) a) 0).2)) ∧ h = cxH (u2 (u2 z 1 1 n) 1 2 ((dg n (f 2) k (sks n (f 2) a) 0).1)) f rc tl) ∨ (isD n (f 2) (sks n (f 2) a) = false ∧ rv = some (.int (iz (-1))) ∧ h = cxH (u2 (u2 z 1 1 n) 1 2 (sks n (f 2) a)) f rc tl)) := by
  have hn := hT.2.1
  have hs1 := sks_le n (f 2) a
  have hs2 := sks_n (f 2) h1
  have hs := sg_bI hT (a := sks n (f 2) a) (by omega)
  refine Rx.walk 0 (pc' := 0) (L' := [some (.ref 1), some (.int (iz (k : Int))), none, none]) (st' := []) (h' := cxH (u2 (u2 z 1 1 n) 1 2 a) f rc tl) rfl ?_
  refine Rx.walk 1 (pc' := 1) (L' := [some (.ref 1), some (.int (iz (k : Int))), none, none]) (st' := [.ref 1]) (h' := cxH (u2 (u2 z 1 1 n) 1 2 a) f rc tl) rfl ?_
  refine Rx.callx (m' := m_X8_sign) (as := [.ref 1]) (rest := []) rfl (x_sign _ (u2 (u2 z 1 1 n) 1 2 a) f rc tl n a hT (by omega) (by omega)) (fun v1 h2 q3 => ?_)
  obtain ⟨rfl, rfl⟩ := q3
  refine Rx.walk 0 (pc' := 4) (L' := [some (.ref 1), some (.int (iz (k : Int))), none, none]) (st' := [.int (iz (sg n (f 2) (sks n (f 2) a)))]) (h' := cxH (u2 (u2 z 1 1 n) 1 2 (sks n (f 2) a)) f rc tl) rfl ?_
  refine Rx.callx (m' := m_X8_isDigit) (as := [.int (iz (sg n (f 2) (sks n (f 2) a)))]) (rest := []) rfl (x_isDigit _ _ (sg n (f 2) (sks n (f 2) a)) ⟨by omega, by omega⟩) (fun v4 h5 q6 => ?_)
  obtain ⟨rfl, rfl⟩ := q6
  refine Rx.walk 0 (pc' := 7) (L' := [some (.ref 1), some (.int (iz (k : Int))), none, none]) (st' := [.int (iz (bz (decide (48 ≤ (sg n (f 2) (sks n (f 2) a)) ∧ (sg n (f 2) (sks n (f 2) a)) ≤ 57))))]) (h' := cxH (u2 (u2 z 1 1 n) 1 2 (sks n (f 2) a)) f rc tl) rfl ?_
  refine Rx.neb rfl rfl (fun b7 => ?_) (fun b7 => ?_)
  · refine Rx.walk 4 (pc' := 16) (L' := [some (.ref 1), some (.int (iz (k : Int))), some (.int (iz 0)), some (.int (iz 0))]) (st' := []) (h' := cxH (u2 (u2 z 1 1 n) 1 2 (sks n (f 2) a)) f rc tl) rfl ?_
    have y := of_decide_eq_true b7
    have y2 : isD n (f 2) (sks n (f 2) a) = true := isD_t.mpr (by unfold sg at y; split at y <;> omega)
    refine (x_digits_l d z f rc tl n k (by omega) hT k 0 _ 0 (by omega) (by omega) (by omega) (by omega) (by omega)).mono (fun a b q => ?_)
    exact Or.inl ⟨y2, q.1, q.2⟩
  · refine Rx.walk 1 (pc' := 11) (L' := [some (.ref 1), some (.int (iz (k : Int))), none, none]) (st' := [.int (iz (-1))]) (h' := cxH (u2 (u2 z 1 1 n) 1 2 (sks n (f 2) a)) f rc tl) rfl ?_
    refine Rx.ret rfl ?_
    have y := of_decide_eq_false b7
    exact Or.inr ⟨isD_f.mpr (by unfold sg at y; split at y <;> omega), rfl, rfl⟩
set_option maxRecDepth 100000 in
set_option maxHeartbeats 4000000 in
theorem x_bounded (d : Nat) (z : Nat → Nat → Int) (f : Nat → Int → Int) (rc : Nat → Nat) (tl : AmH) (n a lo hi : Int) (hlo : bI lo) (hhi : bI hi) (hT : tOK n (f 2)) (h0 : 0 ≤ a) (h1 : a ≤ n) : Rx (d + 2) m_X8_bounded 0 (am_ent [.ref 1, .int (iz lo), .int (iz hi)] 4) [] (cxH (u2 (u2 z 1 1 n) 1 2 a) f rc tl) (fun rv h => rv = some (.int (iz ((nmP n (f 2) lo hi a).2.getD (-1)))) ∧ h = cxH (u2 (u2 z 1 1 n) 1 2 ((nmP n (f 2) lo hi a).1)) f rc tl) := by
  have hn := hT.2.1
  have hs1 := sks_le n (f 2) a
  have hs2 := sks_n (f 2) h1
  have hs := sg_bI hT (a := sks n (f 2) a) (by omega)
  obtain ⟨hlo1, hlo2⟩ := hlo
  obtain ⟨hhi1, hhi2⟩ := hhi
  have hd2 := dg_2 (n := n) (b := f 2) (p := sks n (f 2) a) (v := 0) (by omega)
  refine Rx.walk 0 (pc' := 0) (L' := [some (.ref 1), some (.int (iz lo)), some (.int (iz hi)), none]) (st' := []) (h' := cxH (u2 (u2 z 1 1 n) 1 2 a) f rc tl) rfl ?_
  refine Rx.walk 2 (pc' := 2) (L' := [some (.ref 1), some (.int (iz lo)), some (.int (iz hi)), none]) (st' := [.int (iz 2), .ref 1]) (h' := cxH (u2 (u2 z 1 1 n) 1 2 a) f rc tl) rfl ?_
  refine Rx.callx (m' := m_X8_digits) (as := [.ref 1, .int (iz 2)]) (rest := []) rfl (x_digits _ (u2 (u2 z 1 1 n) 1 2 a) f rc tl n a 2 (by omega) hT (by omega) (by omega)) (fun v1 h2 q3 => ?_)
  rcases q3 with ⟨qd, rfl, rfl⟩ | ⟨qd, rfl, rfl⟩
  · have hd := dg_props (n := n) (b := (f 2)) 2 (sks n (f 2) a) 0 (by omega) (by omega)
    refine Rx.walk 0 (pc' := 5) (L' := [some (.ref 1), some (.int (iz lo)), some (.int (iz hi)), none]) (st' := [.int (iz ((dg n (f 2) 2 (sks n (f 2) a) 0).2))]) (h' := cxH (u2 (u2 z 1 1 n) 1 2 ((dg n (f 2) 2 (sks n (f 2) a) 0).1)) f rc tl) rfl ?_
    refine Rx.walk 3 (pc' := 8) (L' := [some (.ref 1), some (.int (iz lo)), some (.int (iz hi)), some (.int (iz ((dg n (f 2) 2 (sks n (f 2) a) 0).2)))]) (st' := [.int (iz (-1)), .int (iz ((dg n (f 2) 2 (sks n (f 2) a) 0).2))]) (h' := cxH (u2 (u2 z 1 1 n) 1 2 ((dg n (f 2) 2 (sks n (f 2) a) 0).1)) f rc tl) rfl ?_
    refine Rx.eq2 rfl rfl ⟨by omega, by omega⟩ ⟨by omega, by omega⟩ (fun b4 => by omega) (fun b4 => ?_)
    refine Rx.walk 4 (pc' := 19) (L' := [some (.ref 1), some (.int (iz lo)), some (.int (iz hi)), some (.int (iz ((dg n (f 2) 2 (sks n (f 2) a) 0).2)))]) (st' := [.int (iz n), .int (iz ((dg n (f 2) 2 (sks n (f 2) a) 0).1))]) (h' := cxH (u2 (u2 z 1 1 n) 1 2 ((dg n (f 2) 2 (sks n (f 2) a) 0).1)) f rc tl) rfl ?_
    refine Rx.ge2 rfl rfl ⟨by omega, by omega⟩ ⟨by omega, by omega⟩ (fun b5 => ?_) (fun b5 => ?_)
    · refine Rx.walk 2 (pc' := 41) (L' := [some (.ref 1), some (.int (iz lo)), some (.int (iz hi)), some (.int (iz ((dg n (f 2) 2 (sks n (f 2) a) 0).2)))]) (st' := [.int (iz lo), .int (iz ((dg n (f 2) 2 (sks n (f 2) a) 0).2))]) (h' := cxH (u2 (u2 z 1 1 n) 1 2 ((dg n (f 2) 2 (sks n (f 2) a) 0).1)) f rc tl) rfl ?_
      refine Rx.lt2 rfl rfl ⟨by omega, by omega⟩ ⟨by omega, by omega⟩ (fun b6 => ?_) (fun b6 => ?_)
      · refine Rx.walk 4 (pc' := 55) (L' := [some (.ref 1), some (.int (iz lo)), some (.int (iz hi)), some (.int (iz ((dg n (f 2) 2 (sks n (f 2) a) 0).2)))]) (st' := [.int (iz 1), .int (iz ((dg n (f 2) 2 (sks n (f 2) a) 0).1)), .ref 1]) (h' := cxH (u2 (u2 z 1 1 n) 1 2 ((dg n (f 2) 2 (sks n (f 2) a) 0).1)) f rc tl) rfl ?_
        refine Rx.isub rfl ?_
        refine Rx.walk 2 (pc' := 60) (L' := [some (.ref 1), some (.int (iz lo)), some (.int (iz hi)), some (.int (iz ((dg n (f 2) 2 (sks n (f 2) a) 0).2)))]) (st' := [.int (iz (-1))]) (h' := cxH (u2 (u2 z 1 1 n) 1 2 ((dg n (f 2) 2 (sks n (f 2) a) 0).1 - 1)) f rc tl) rfl ?_
        refine Rx.ret rfl ?_
        have y4 : isD n (f 2) (dg n (f 2) 2 (sks n (f 2) a) 0).1 = false := isD_f.mpr (by omega)
        rw [show nmP n (f 2) lo hi a = ((dg n (f 2) 2 (sks n (f 2) a) 0).1 - 1, none) by unfold nmP; rw [if_pos qd, if_neg (by rw [y4]; decide), if_neg (by omega)]]
        exact ⟨rfl, rfl⟩
      · refine Rx.walk 2 (pc' := 46) (L' := [some (.ref 1), some (.int (iz lo)), some (.int (iz hi)), some (.int (iz ((dg n (f 2) 2 (sks n (f 2) a) 0).2)))]) (st' := [.int (iz hi), .int (iz ((dg n (f 2) 2 (sks n (f 2) a) 0).2))]) (h' := cxH (u2 (u2 z 1 1 n) 1 2 ((dg n (f 2) 2 (sks n (f 2) a) 0).1)) f rc tl) rfl ?_
        refine Rx.le2 rfl rfl ⟨by omega, by omega⟩ ⟨by omega, by omega⟩ (fun b7 => ?_) (fun b7 => ?_)
        · refine Rx.walk 1 (pc' := 62) (L' := [some (.ref 1), some (.int (iz lo)), some (.int (iz hi)), some (.int (iz ((dg n (f 2) 2 (sks n (f 2) a) 0).2)))]) (st' := [.int (iz ((dg n (f 2) 2 (sks n (f 2) a) 0).2))]) (h' := cxH (u2 (u2 z 1 1 n) 1 2 ((dg n (f 2) 2 (sks n (f 2) a) 0).1)) f rc tl) rfl ?_
          refine Rx.ret rfl ?_
          have y4 : isD n (f 2) (dg n (f 2) 2 (sks n (f 2) a) 0).1 = false := isD_f.mpr (by omega)
          rw [show nmP n (f 2) lo hi a = ((dg n (f 2) 2 (sks n (f 2) a) 0).1, some (dg n (f 2) 2 (sks n (f 2) a) 0).2) by unfold nmP; rw [if_pos qd, if_neg (by rw [y4]; decide), if_pos ⟨by omega, by omega⟩]]
          exact ⟨rfl, rfl⟩
        · refine Rx.walk 4 (pc' := 55) (L' := [some (.ref 1), some (.int (iz lo)), some (.int (iz hi)), some (.int (iz ((dg n (f 2) 2 (sks n (f 2) a) 0).2)))]) (st' := [.int (iz 1), .int (iz ((dg n (f 2) 2 (sks n (f 2) a) 0).1)), .ref 1]) (h' := cxH (u2 (u2 z 1 1 n) 1 2 ((dg n (f 2) 2 (sks n (f 2) a) 0).1)) f rc tl) rfl ?_
          refine Rx.isub rfl ?_
          refine Rx.walk 2 (pc' := 60) (L' := [some (.ref 1), some (.int (iz lo)), some (.int (iz hi)), some (.int (iz ((dg n (f 2) 2 (sks n (f 2) a) 0).2)))]) (st' := [.int (iz (-1))]) (h' := cxH (u2 (u2 z 1 1 n) 1 2 ((dg n (f 2) 2 (sks n (f 2) a) 0).1 - 1)) f rc tl) rfl ?_
          refine Rx.ret rfl ?_
          have y4 : isD n (f 2) (dg n (f 2) 2 (sks n (f 2) a) 0).1 = false := isD_f.mpr (by omega)
          rw [show nmP n (f 2) lo hi a = ((dg n (f 2) 2 (sks n (f 2) a) 0).1 - 1, none) by unfold nmP; rw [if_pos qd, if_neg (by rw [y4]; decide), if_neg (by omega)]]
          exact ⟨rfl, rfl⟩
    · refine Rx.walk 4 (pc' := 30) (L' := [some (.ref 1), some (.int (iz lo)), some (.int (iz hi)), some (.int (iz ((dg n (f 2) 2 (sks n (f 2) a) 0).2)))]) (st' := [.int (iz ((dg n (f 2) 2 (sks n (f 2) a) 0).1)), .ref 2]) (h' := cxH (u2 (u2 z 1 1 n) 1 2 ((dg n (f 2) 2 (sks n (f 2) a) 0).1)) f rc tl) rfl ?_
      refine Rx.ial rfl rfl (by omega) (by omega) (by omega) ?_
      have y := hT.2.2 (dg n (f 2) 2 (sks n (f 2) a) 0).1 (by omega) (by omega)
      refine Rx.callx (m' := m_X8_isDigit) (as := [.int (iz (f 2 ((dg n (f 2) 2 (sks n (f 2) a) 0).1)))]) (rest := []) rfl (x_isDigit _ _ (f 2 ((dg n (f 2) 2 (sks n (f 2) a) 0).1)) ⟨by omega, by omega⟩) (fun v8 h9 q10 => ?_)
      obtain ⟨rfl, rfl⟩ := q10
      refine Rx.walk 0 (pc' := 34) (L' := [some (.ref 1), some (.int (iz lo)), some (.int (iz hi)), some (.int (iz ((dg n (f 2) 2 (sks n (f 2) a) 0).2)))]) (st' := [.int (iz (bz (decide (48 ≤ (f 2 ((dg n (f 2) 2 (sks n (f 2) a) 0).1)) ∧ (f 2 ((dg n (f 2) 2 (sks n (f 2) a) 0).1)) ≤ 57))))]) (h' := cxH (u2 (u2 z 1 1 n) 1 2 ((dg n (f 2) 2 (sks n (f 2) a) 0).1)) f rc tl) rfl ?_
      refine Rx.eqb rfl rfl (fun b11 => ?_) (fun b11 => ?_)
      · refine Rx.walk 2 (pc' := 41) (L' := [some (.ref 1), some (.int (iz lo)), some (.int (iz hi)), some (.int (iz ((dg n (f 2) 2 (sks n (f 2) a) 0).2)))]) (st' := [.int (iz lo), .int (iz ((dg n (f 2) 2 (sks n (f 2) a) 0).2))]) (h' := cxH (u2 (u2 z 1 1 n) 1 2 ((dg n (f 2) 2 (sks n (f 2) a) 0).1)) f rc tl) rfl ?_
        refine Rx.lt2 rfl rfl ⟨by omega, by omega⟩ ⟨by omega, by omega⟩ (fun b12 => ?_) (fun b12 => ?_)
        · refine Rx.walk 4 (pc' := 55) (L' := [some (.ref 1), some (.int (iz lo)), some (.int (iz hi)), some (.int (iz ((dg n (f 2) 2 (sks n (f 2) a) 0).2)))]) (st' := [.int (iz 1), .int (iz ((dg n (f 2) 2 (sks n (f 2) a) 0).1)), .ref 1]) (h' := cxH (u2 (u2 z 1 1 n) 1 2 ((dg n (f 2) 2 (sks n (f 2) a) 0).1)) f rc tl) rfl ?_
          refine Rx.isub rfl ?_
          refine Rx.walk 2 (pc' := 60) (L' := [some (.ref 1), some (.int (iz lo)), some (.int (iz hi)), some (.int (iz ((dg n (f 2) 2 (sks n (f 2) a) 0).2)))]) (st' := [.int (iz (-1))]) (h' := cxH (u2 (u2 z 1 1 n) 1 2 ((dg n (f 2) 2 (sks n (f 2) a) 0).1 - 1)) f rc tl) rfl ?_
          refine Rx.ret rfl ?_
          have y4 : isD n (f 2) (dg n (f 2) 2 (sks n (f 2) a) 0).1 = false := isD_f.mpr (by have y5 := of_decide_eq_false b11; omega)
          rw [show nmP n (f 2) lo hi a = ((dg n (f 2) 2 (sks n (f 2) a) 0).1 - 1, none) by unfold nmP; rw [if_pos qd, if_neg (by rw [y4]; decide), if_neg (by omega)]]
          exact ⟨rfl, rfl⟩
        · refine Rx.walk 2 (pc' := 46) (L' := [some (.ref 1), some (.int (iz lo)), some (.int (iz hi)), some (.int (iz ((dg n (f 2) 2 (sks n (f 2) a) 0).2)))]) (st' := [.int (iz hi), .int (iz ((dg n (f 2) 2 (sks n (f 2) a) 0).2))]) (h' := cxH (u2 (u2 z 1 1 n) 1 2 ((dg n (f 2) 2 (sks n (f 2) a) 0).1)) f rc tl) rfl ?_
          refine Rx.le2 rfl rfl ⟨by omega, by omega⟩ ⟨by omega, by omega⟩ (fun b13 => ?_) (fun b13 => ?_)
          · refine Rx.walk 1 (pc' := 62) (L' := [some (.ref 1), some (.int (iz lo)), some (.int (iz hi)), some (.int (iz ((dg n (f 2) 2 (sks n (f 2) a) 0).2)))]) (st' := [.int (iz ((dg n (f 2) 2 (sks n (f 2) a) 0).2))]) (h' := cxH (u2 (u2 z 1 1 n) 1 2 ((dg n (f 2) 2 (sks n (f 2) a) 0).1)) f rc tl) rfl ?_
            refine Rx.ret rfl ?_
            have y4 : isD n (f 2) (dg n (f 2) 2 (sks n (f 2) a) 0).1 = false := isD_f.mpr (by have y5 := of_decide_eq_false b11; omega)
            rw [show nmP n (f 2) lo hi a = ((dg n (f 2) 2 (sks n (f 2) a) 0).1, some (dg n (f 2) 2 (sks n (f 2) a) 0).2) by unfold nmP; rw [if_pos qd, if_neg (by rw [y4]; decide), if_pos ⟨by omega, by omega⟩]]
            exact ⟨rfl, rfl⟩
          · refine Rx.walk 4 (pc' := 55) (L' := [some (.ref 1), some (.int (iz lo)), some (.int (iz hi)), some (.int (iz ((dg n (f 2) 2 (sks n (f 2) a) 0).2)))]) (st' := [.int (iz 1), .int (iz ((dg n (f 2) 2 (sks n (f 2) a) 0).1)), .ref 1]) (h' := cxH (u2 (u2 z 1 1 n) 1 2 ((dg n (f 2) 2 (sks n (f 2) a) 0).1)) f rc tl) rfl ?_
            refine Rx.isub rfl ?_
            refine Rx.walk 2 (pc' := 60) (L' := [some (.ref 1), some (.int (iz lo)), some (.int (iz hi)), some (.int (iz ((dg n (f 2) 2 (sks n (f 2) a) 0).2)))]) (st' := [.int (iz (-1))]) (h' := cxH (u2 (u2 z 1 1 n) 1 2 ((dg n (f 2) 2 (sks n (f 2) a) 0).1 - 1)) f rc tl) rfl ?_
            refine Rx.ret rfl ?_
            have y4 : isD n (f 2) (dg n (f 2) 2 (sks n (f 2) a) 0).1 = false := isD_f.mpr (by have y5 := of_decide_eq_false b11; omega)
            rw [show nmP n (f 2) lo hi a = ((dg n (f 2) 2 (sks n (f 2) a) 0).1 - 1, none) by unfold nmP; rw [if_pos qd, if_neg (by rw [y4]; decide), if_neg (by omega)]]
            exact ⟨rfl, rfl⟩
      · refine Rx.walk 1 (pc' := 38) (L' := [some (.ref 1), some (.int (iz lo)), some (.int (iz hi)), some (.int (iz ((dg n (f 2) 2 (sks n (f 2) a) 0).2)))]) (st' := [.int (iz (-1))]) (h' := cxH (u2 (u2 z 1 1 n) 1 2 ((dg n (f 2) 2 (sks n (f 2) a) 0).1)) f rc tl) rfl ?_
        refine Rx.ret rfl ?_
        have y4 := of_decide_eq_true b11
        rw [show nmP n (f 2) lo hi a = ((dg n (f 2) 2 (sks n (f 2) a) 0).1, none) by unfold nmP; rw [if_pos qd, if_pos (isD_t.mpr ⟨by omega, by omega, by omega⟩)]]
        exact ⟨rfl, rfl⟩
  · refine Rx.walk 0 (pc' := 5) (L' := [some (.ref 1), some (.int (iz lo)), some (.int (iz hi)), none]) (st' := [.int (iz (-1))]) (h' := cxH (u2 (u2 z 1 1 n) 1 2 (sks n (f 2) a)) f rc tl) rfl ?_
    refine Rx.walk 3 (pc' := 8) (L' := [some (.ref 1), some (.int (iz lo)), some (.int (iz hi)), some (.int (iz (-1)))]) (st' := [.int (iz (-1)), .int (iz (-1))]) (h' := cxH (u2 (u2 z 1 1 n) 1 2 (sks n (f 2) a)) f rc tl) rfl ?_
    refine Rx.eq2 rfl rfl ⟨by omega, by omega⟩ ⟨by omega, by omega⟩ (fun b14 => ?_) (fun b14 => by omega)
    refine Rx.walk 1 (pc' := 38) (L' := [some (.ref 1), some (.int (iz lo)), some (.int (iz hi)), some (.int (iz (-1)))]) (st' := [.int (iz (-1))]) (h' := cxH (u2 (u2 z 1 1 n) 1 2 (sks n (f 2) a)) f rc tl) rfl ?_
    refine Rx.ret rfl ?_
    rw [show nmP n (f 2) lo hi a = ((sks n (f 2) a), none) by unfold nmP; rw [if_neg (by rw [qd]; decide)]]
    exact ⟨rfl, rfl⟩

/-! texts are read: the model's looks (printed by wip/whole/genlook.py) -/
set_option maxRecDepth 100000 in
set_option maxHeartbeats 4000000 in
theorem r_failsN (d : Nat) (z : Nat → Int) (zl : Nat → Int) (f : Nat → Int → Int) (fl : Nat → Int → Int) (tx : Nat) : Rx (d) m_X12_fails 0 (am_ent [.ref 0] 1) [] (cmH (u1 z 11 (-1)) zl f fl tx) (fun rv h => rv = some (.int (iz 0)) ∧ h = cmH (u1 z 11 (z 10)) zl f fl tx) := by
  refine Rx.walk 0 (pc' := 0) (L' := [some (.ref 0)]) (st' := []) (h' := cmH (u1 z 11 (-1)) zl f fl tx) rfl ?_
  refine Rx.walk 3 (pc' := 5) (L' := [some (.ref 0)]) (st' := [.int (iz (-1)), .int (iz (-1))]) (h' := cmH (u1 z 11 (-1)) zl f fl tx) rfl ?_
  refine Rx.ne2 rfl rfl ⟨by omega, by omega⟩ ⟨by omega, by omega⟩ (fun b1 => by omega) (fun b1 => ?_)
  refine Rx.walk 5 (pc' := 17) (L' := [some (.ref 0)]) (st' := [.int (iz 0)]) (h' := cmH (u1 z 11 (z 10)) zl f fl tx) rfl ?_
  refine Rx.ret rfl ?_
  exact ⟨rfl, rfl⟩
set_option maxRecDepth 100000 in
set_option maxHeartbeats 4000000 in
theorem r_failsS (d : Nat) (z : Nat → Int) (zl : Nat → Int) (f : Nat → Int → Int) (fl : Nat → Int → Int) (tx : Nat) (fa : Int) (h0 : 0 ≤ fa) (h1 : fa ≤ 160) : Rx (d) m_X12_fails 0 (am_ent [.ref 0] 1) [] (cmH (u1 z 11 fa) zl f fl tx) (fun rv h => rv = some (.int (iz 0)) ∧ h = cmH (u1 z 11 fa) zl f fl tx) := by
  refine Rx.walk 0 (pc' := 0) (L' := [some (.ref 0)]) (st' := []) (h' := cmH (u1 z 11 fa) zl f fl tx) rfl ?_
  refine Rx.walk 3 (pc' := 5) (L' := [some (.ref 0)]) (st' := [.int (iz (-1)), .int (iz fa)]) (h' := cmH (u1 z 11 fa) zl f fl tx) rfl ?_
  refine Rx.ne2 rfl rfl ⟨by omega, by omega⟩ ⟨by omega, by omega⟩ (fun b1 => ?_) (fun b1 => by omega)
  refine Rx.walk 1 (pc' := 17) (L' := [some (.ref 0)]) (st' := [.int (iz 0)]) (h' := cmH (u1 z 11 fa) zl f fl tx) rfl ?_
  refine Rx.ret rfl ?_
  exact ⟨rfl, rfl⟩
set_option maxRecDepth 100000 in
set_option maxHeartbeats 4000000 in
theorem r_isIn (d : Nat) (h : AmH) (x y w : Int) (hx : bJ x) (hy : bJ y) (hw : bJ w) : Rx (d) m_X12_isIn 0 (am_ent [.long (jz x), .long (jz y), .long (jz w)] 6) [] (h) (fun rv h1 => rv = some (.int (iz (bz (decide (y ≤ x ∧ x ≤ w))))) ∧ h1 = h) := by
  obtain ⟨hx1, hx2⟩ := hx
  obtain ⟨hy1, hy2⟩ := hy
  obtain ⟨hw1, hw2⟩ := hw
  refine Rx.walk 0 (pc' := 0) (L' := [some (.long (jz x)), none, some (.long (jz y)), none, some (.long (jz w)), none]) (st' := []) (h' := h) rfl ?_
  refine Rx.walk 2 (pc' := 2) (L' := [some (.long (jz x)), none, some (.long (jz y)), none, some (.long (jz w)), none]) (st' := [.long (jz y), .long (jz x)]) (h' := h) rfl ?_
  refine Rx.lcmp rfl ⟨by omega, by omega⟩ ⟨by omega, by omega⟩ ?_
  refine Rx.ltc rfl rfl (fun b1 => ?_) (fun b1 => ?_)
  · refine Rx.walk 1 (pc' := 18) (L' := [some (.long (jz x)), none, some (.long (jz y)), none, some (.long (jz w)), none]) (st' := [.int (iz 0)]) (h' := h) rfl ?_
    refine Rx.ret rfl ?_
    rw [decide_eq_false (by omega)]
    exact ⟨rfl, rfl⟩
  · refine Rx.walk 2 (pc' := 9) (L' := [some (.long (jz x)), none, some (.long (jz y)), none, some (.long (jz w)), none]) (st' := [.long (jz w), .long (jz x)]) (h' := h) rfl ?_
    refine Rx.lcmp rfl ⟨by omega, by omega⟩ ⟨by omega, by omega⟩ ?_
    refine Rx.gtc rfl rfl (fun b2 => ?_) (fun b2 => ?_)
    · refine Rx.walk 1 (pc' := 18) (L' := [some (.long (jz x)), none, some (.long (jz y)), none, some (.long (jz w)), none]) (st' := [.int (iz 0)]) (h' := h) rfl ?_
      refine Rx.ret rfl ?_
      rw [decide_eq_false (by omega)]
      exact ⟨rfl, rfl⟩
    · refine Rx.walk 2 (pc' := 18) (L' := [some (.long (jz x)), none, some (.long (jz y)), none, some (.long (jz w)), none]) (st' := [.int (iz 1)]) (h' := h) rfl ?_
      refine Rx.ret rfl ?_
      rw [decide_eq_true (by omega)]
      exact ⟨rfl, rfl⟩
set_option maxRecDepth 100000 in
set_option maxHeartbeats 4000000 in
theorem r_look_l1 (d : Nat) (z : Nat → Int) (zl : Nat → Int) (f : Nat → Int → Int) (fl : Nat → Int → Int) (n bg fa : Int) (b : Int → Int) (hT : tOK n b) (hM : mOK n bg 160 (f 1) b) : ∀ (k : Nat) (a : Int), 0 ≤ a → a ≤ n → (n - a).toNat < k → Rx d m_X12_look 0 [some (.ref 0)] [] (cmH (u1 (u1 (u1 (u1 z 8 bg) 9 n) 10 a) 11 fa) zl f fl 1) (fun rv h => rv = some (.int (iz (sg n b (sks n b a)))) ∧ h = cmH (u1 (u1 (u1 (u1 z 8 bg) 9 n) 10 (sks n b a)) 11 fa) zl f fl 1) := by
  have hn := hT.2.1
  obtain ⟨hm1, hm2, hm3⟩ := id hM
  intro k
  induction k with
  | zero => intro a h0 h1 hk; omega
  | succ k ih =>
    intro a h0 h1 hk
    refine Rx.walk 4 (pc' := 8) (L' := [some (.ref 0)]) (st' := [.int (iz n), .int (iz a)]) (h' := cmH (u1 (u1 (u1 (u1 z 8 bg) 9 n) 10 a) 11 fa) zl f fl 1) rfl ?_
    refine Rx.ge2 rfl rfl ⟨by omega, by omega⟩ ⟨by omega, by omega⟩ (fun b1 => ?_) (fun b1 => ?_)
    · refine Rx.walk 4 (pc' := 51) (L' := [some (.ref 0)]) (st' := [.int (iz n), .int (iz a)]) (h' := cmH (u1 (u1 (u1 (u1 z 8 bg) 9 n) 10 a) 11 fa) zl f fl 1) rfl ?_
      refine Rx.ge2 rfl rfl ⟨by omega, by omega⟩ ⟨by omega, by omega⟩ (fun b2 => ?_) (fun b2 => by omega)
      refine Rx.walk 1 (pc' := 76) (L' := [some (.ref 0)]) (st' := [.int (iz (-1))]) (h' := cmH (u1 (u1 (u1 (u1 z 8 bg) 9 n) 10 a) 11 fa) zl f fl 1) rfl ?_
      refine Rx.ret rfl ?_
      first | (rw [sks_at (by omega), sg_lt (by omega)]; exact ⟨rfl, rfl⟩) | (rw [sks_at (by omega), sg_ge (by omega)]; exact ⟨rfl, rfl⟩)
    · refine Rx.walk 4 (pc' := 19) (L' := [some (.ref 0)]) (st' := [.int (iz bg), .ref 1]) (h' := cmH (u1 (u1 (u1 (u1 z 8 bg) 9 n) 10 a) 11 fa) zl f fl 1) rfl ?_
      have y := mOK_at hM hT (a := a) (by omega) (by omega)
      refine Rx.walk 2 (pc' := 23) (L' := [some (.ref 0)]) (st' := [.int (iz a), .int (iz bg), .ref 1]) (h' := cmH (u1 (u1 (u1 (u1 z 8 bg) 9 n) 10 a) 11 fa) zl f fl 1) rfl ?_
      refine Rx.iadd rfl ?_
      refine Rx.bal rfl rfl (by omega) (by omega) (by omega) ?_
      refine Rx.walk 1 (pc' := 27) (L' := [some (.ref 0)]) (st' := [.int (iz 32), .int (iz (f 1 (bg + a)))]) (h' := cmH (u1 (u1 (u1 (u1 z 8 bg) 9 n) 10 a) 11 fa) zl f fl 1) rfl ?_
      refine Rx.ne2 rfl rfl ⟨by omega, by omega⟩ ⟨by omega, by omega⟩ (fun b3 => ?_) (fun b3 => ?_)
      · refine Rx.walk 4 (pc' := 51) (L' := [some (.ref 0)]) (st' := [.int (iz n), .int (iz a)]) (h' := cmH (u1 (u1 (u1 (u1 z 8 bg) 9 n) 10 a) 11 fa) zl f fl 1) rfl ?_
        refine Rx.ge2 rfl rfl ⟨by omega, by omega⟩ ⟨by omega, by omega⟩ (fun b4 => by omega) (fun b4 => ?_)
        refine Rx.walk 6 (pc' := 66) (L' := [some (.ref 0)]) (st' := [.int (iz a), .int (iz bg), .ref 1]) (h' := cmH (u1 (u1 (u1 (u1 z 8 bg) 9 n) 10 a) 11 fa) zl f fl 1) rfl ?_
        refine Rx.iadd rfl ?_
        refine Rx.bal rfl rfl (by omega) (by omega) (by omega) ?_
        refine Rx.walk 1 (pc' := 71) (L' := [some (.ref 0)]) (st' := [.int (iz 255), .int (iz (f 1 (bg + a)))]) (h' := cmH (u1 (u1 (u1 (u1 z 8 bg) 9 n) 10 a) 11 fa) zl f fl 1) rfl ?_
        refine Rx.iand (c := b a) rfl (iz_and255' (by omega)) ?_
        refine Rx.walk 1 (pc' := 76) (L' := [some (.ref 0)]) (st' := [.int (iz (b a))]) (h' := cmH (u1 (u1 (u1 (u1 z 8 bg) 9 n) 10 a) 11 fa) zl f fl 1) rfl ?_
        refine Rx.ret rfl ?_
        first | (rw [sks_at (by omega), sg_lt (by omega)]; exact ⟨rfl, rfl⟩) | (rw [sks_at (by omega), sg_ge (by omega)]; exact ⟨rfl, rfl⟩)
      · refine Rx.walk 4 (pc' := 36) (L' := [some (.ref 0)]) (st' := [.int (iz 1), .int (iz a), .ref 0]) (h' := cmH (u1 (u1 (u1 (u1 z 8 bg) 9 n) 10 a) 11 fa) zl f fl 1) rfl ?_
        refine Rx.iadd rfl ?_
        refine Rx.walk 2 (pc' := 0) (L' := [some (.ref 0)]) (st' := []) (h' := cmH (u1 (u1 (u1 (u1 z 8 bg) 9 n) 10 (a + 1)) 11 fa) zl f fl 1) rfl ?_
        rw [sks_sp (by omega) (by omega)]
        exact ih (a + 1) (by omega) (by omega) (by omega)
theorem r_look1 (d : Nat) (z : Nat → Int) (zl : Nat → Int) (f : Nat → Int → Int) (fl : Nat → Int → Int) (n a bg fa : Int) (b : Int → Int) (hT : tOK n b) (hM : mOK n bg 160 (f 1) b) (h0 : 0 ≤ a) (h1 : a ≤ n) : Rx d m_X12_look 0 (am_ent [.ref 0] 1) [] (cmH (u1 (u1 (u1 (u1 z 8 bg) 9 n) 10 a) 11 fa) zl f fl 1) (fun rv h => rv = some (.int (iz (sg n b (sks n b a)))) ∧ h = cmH (u1 (u1 (u1 (u1 z 8 bg) 9 n) 10 (sks n b a)) 11 fa) zl f fl 1) := r_look_l1 d z zl f fl n bg fa b hT hM _ a h0 h1 (Nat.lt_succ_self _)
set_option maxRecDepth 100000 in
set_option maxHeartbeats 4000000 in
theorem r_isDigit1 (d : Nat) (z : Nat → Int) (zl : Nat → Int) (f : Nat → Int → Int) (fl : Nat → Int → Int) (n a bg fa : Int) (b : Int → Int) (hT : tOK n b) (hM : mOK n bg 160 (f 1) b) (h0 : 0 ≤ a) (h1 : a ≤ n) : Rx (d) m_X12_isDigit 0 (am_ent [.ref 0] 1) [] (cmH (u1 (u1 (u1 (u1 z 8 bg) 9 n) 10 a) 11 fa) zl f fl 1) (fun rv h => rv = some (.int (iz (bz (isD n b a)))) ∧ h = cmH (u1 (u1 (u1 (u1 z 8 bg) 9 n) 10 a) 11 fa) zl f fl 1) := by
  have hn := hT.2.1
  obtain ⟨hm1, hm2, hm3⟩ := id hM
  refine Rx.walk 0 (pc' := 0) (L' := [some (.ref 0)]) (st' := []) (h' := cmH (u1 (u1 (u1 (u1 z 8 bg) 9 n) 10 a) 11 fa) zl f fl 1) rfl ?_
  refine Rx.walk 4 (pc' := 8) (L' := [some (.ref 0)]) (st' := [.int (iz n), .int (iz a)]) (h' := cmH (u1 (u1 (u1 (u1 z 8 bg) 9 n) 10 a) 11 fa) zl f fl 1) rfl ?_
  refine Rx.ge2 rfl rfl ⟨by omega, by omega⟩ ⟨by omega, by omega⟩ (fun b1 => ?_) (fun b1 => ?_)
  · refine Rx.walk 1 (pc' := 54) (L' := [some (.ref 0)]) (st' := [.int (iz 0)]) (h' := cmH (u1 (u1 (u1 (u1 z 8 bg) 9 n) 10 a) 11 fa) zl f fl 1) rfl ?_
    refine Rx.ret rfl ?_
    rw [isD_f.mpr (by omega)]
    exact ⟨rfl, rfl⟩
  · refine Rx.walk 4 (pc' := 19) (L' := [some (.ref 0)]) (st' := [.int (iz bg), .ref 1]) (h' := cmH (u1 (u1 (u1 (u1 z 8 bg) 9 n) 10 a) 11 fa) zl f fl 1) rfl ?_
    have y := mOK_at hM hT (a := a) (by omega) (by omega)
    refine Rx.walk 2 (pc' := 23) (L' := [some (.ref 0)]) (st' := [.int (iz a), .int (iz bg), .ref 1]) (h' := cmH (u1 (u1 (u1 (u1 z 8 bg) 9 n) 10 a) 11 fa) zl f fl 1) rfl ?_
    refine Rx.iadd rfl ?_
    refine Rx.bal rfl rfl (by omega) (by omega) (by omega) ?_
    refine Rx.walk 1 (pc' := 27) (L' := [some (.ref 0)]) (st' := [.int (iz 48), .int (iz (f 1 (bg + a)))]) (h' := cmH (u1 (u1 (u1 (u1 z 8 bg) 9 n) 10 a) 11 fa) zl f fl 1) rfl ?_
    refine Rx.lt2 rfl rfl ⟨by omega, by omega⟩ ⟨by omega, by omega⟩ (fun b2 => ?_) (fun b2 => ?_)
    · refine Rx.walk 1 (pc' := 54) (L' := [some (.ref 0)]) (st' := [.int (iz 0)]) (h' := cmH (u1 (u1 (u1 (u1 z 8 bg) 9 n) 10 a) 11 fa) zl f fl 1) rfl ?_
      refine Rx.ret rfl ?_
      rw [isD_f.mpr (by omega)]
      exact ⟨rfl, rfl⟩
    · refine Rx.walk 6 (pc' := 42) (L' := [some (.ref 0)]) (st' := [.int (iz a), .int (iz bg), .ref 1]) (h' := cmH (u1 (u1 (u1 (u1 z 8 bg) 9 n) 10 a) 11 fa) zl f fl 1) rfl ?_
      refine Rx.iadd rfl ?_
      refine Rx.bal rfl rfl (by omega) (by omega) (by omega) ?_
      refine Rx.walk 1 (pc' := 46) (L' := [some (.ref 0)]) (st' := [.int (iz 57), .int (iz (f 1 (bg + a)))]) (h' := cmH (u1 (u1 (u1 (u1 z 8 bg) 9 n) 10 a) 11 fa) zl f fl 1) rfl ?_
      refine Rx.gt2 rfl rfl ⟨by omega, by omega⟩ ⟨by omega, by omega⟩ (fun b3 => ?_) (fun b3 => ?_)
      · refine Rx.walk 1 (pc' := 54) (L' := [some (.ref 0)]) (st' := [.int (iz 0)]) (h' := cmH (u1 (u1 (u1 (u1 z 8 bg) 9 n) 10 a) 11 fa) zl f fl 1) rfl ?_
        refine Rx.ret rfl ?_
        rw [isD_f.mpr (by omega)]
        exact ⟨rfl, rfl⟩
      · refine Rx.walk 2 (pc' := 54) (L' := [some (.ref 0)]) (st' := [.int (iz 1)]) (h' := cmH (u1 (u1 (u1 (u1 z 8 bg) 9 n) 10 a) 11 fa) zl f fl 1) rfl ?_
        refine Rx.ret rfl ?_
        rw [isD_t.mpr (by omega)]
        exact ⟨rfl, rfl⟩
set_option maxRecDepth 100000 in
set_option maxHeartbeats 4000000 in
theorem r_here1 (d : Nat) (z : Nat → Int) (zl : Nat → Int) (f : Nat → Int → Int) (fl : Nat → Int → Int) (n a bg fa : Int) (b : Int → Int) (hT : tOK n b) (hM : mOK n bg 160 (f 1) b) (h0 : 0 ≤ a) (h1 : a ≤ n) : Rx (d) m_X12_here 0 (am_ent [.ref 0] 1) [] (cmH (u1 (u1 (u1 (u1 z 8 bg) 9 n) 10 a) 11 fa) zl f fl 1) (fun rv h => rv = some (.int (iz (sg n b a))) ∧ h = cmH (u1 (u1 (u1 (u1 z 8 bg) 9 n) 10 a) 11 fa) zl f fl 1) := by
  have hn := hT.2.1
  obtain ⟨hm1, hm2, hm3⟩ := id hM
  refine Rx.walk 0 (pc' := 0) (L' := [some (.ref 0)]) (st' := []) (h' := cmH (u1 (u1 (u1 (u1 z 8 bg) 9 n) 10 a) 11 fa) zl f fl 1) rfl ?_
  refine Rx.walk 4 (pc' := 8) (L' := [some (.ref 0)]) (st' := [.int (iz n), .int (iz a)]) (h' := cmH (u1 (u1 (u1 (u1 z 8 bg) 9 n) 10 a) 11 fa) zl f fl 1) rfl ?_
  refine Rx.ge2 rfl rfl ⟨by omega, by omega⟩ ⟨by omega, by omega⟩ (fun b1 => ?_) (fun b1 => ?_)
  · refine Rx.walk 1 (pc' := 33) (L' := [some (.ref 0)]) (st' := [.int (iz (-1))]) (h' := cmH (u1 (u1 (u1 (u1 z 8 bg) 9 n) 10 a) 11 fa) zl f fl 1) rfl ?_
    refine Rx.ret rfl ?_
    first | (rw [sg_lt (by omega)]; exact ⟨rfl, rfl⟩) | (rw [sg_ge (by omega)]; exact ⟨rfl, rfl⟩)
  · refine Rx.walk 4 (pc' := 19) (L' := [some (.ref 0)]) (st' := [.int (iz bg), .ref 1]) (h' := cmH (u1 (u1 (u1 (u1 z 8 bg) 9 n) 10 a) 11 fa) zl f fl 1) rfl ?_
    have y := mOK_at hM hT (a := a) (by omega) (by omega)
    refine Rx.walk 2 (pc' := 23) (L' := [some (.ref 0)]) (st' := [.int (iz a), .int (iz bg), .ref 1]) (h' := cmH (u1 (u1 (u1 (u1 z 8 bg) 9 n) 10 a) 11 fa) zl f fl 1) rfl ?_
    refine Rx.iadd rfl ?_
    refine Rx.bal rfl rfl (by omega) (by omega) (by omega) ?_
    refine Rx.walk 1 (pc' := 28) (L' := [some (.ref 0)]) (st' := [.int (iz 255), .int (iz (f 1 (bg + a)))]) (h' := cmH (u1 (u1 (u1 (u1 z 8 bg) 9 n) 10 a) 11 fa) zl f fl 1) rfl ?_
    refine Rx.iand (c := b a) rfl (iz_and255' (by omega)) ?_
    refine Rx.walk 1 (pc' := 33) (L' := [some (.ref 0)]) (st' := [.int (iz (b a))]) (h' := cmH (u1 (u1 (u1 (u1 z 8 bg) 9 n) 10 a) 11 fa) zl f fl 1) rfl ?_
    refine Rx.ret rfl ?_
    first | (rw [sg_lt (by omega)]; exact ⟨rfl, rfl⟩) | (rw [sg_ge (by omega)]; exact ⟨rfl, rfl⟩)
set_option maxRecDepth 100000 in
set_option maxHeartbeats 4000000 in
theorem r_takes1 (d : Nat) (z : Nat → Int) (zl : Nat → Int) (f : Nat → Int → Int) (fl : Nat → Int → Int) (n a bg : Int) (b : Int → Int) (hT : tOK n b) (hM : mOK n bg 160 (f 1) b) (h0 : 0 ≤ a) (h1 : a ≤ n) (c : Int) (hc : bI c) : Rx (d + 1) m_X12_takes 0 (am_ent [.ref 0, .int (iz c)] 2) [] (cmH (u1 (u1 (u1 (u1 z 8 bg) 9 n) 10 a) 11 (-1)) zl f fl 1) (fun rv h => (sg n b (sks n b a) = c ∧ rv = some (.int (iz 1)) ∧ h = cmH (u1 (u1 (u1 (u1 z 8 bg) 9 n) 10 ((sks n b a) + 1)) 11 (-1)) zl f fl 1) ∨ (sg n b (sks n b a) ≠ c ∧ rv = some (.int (iz 0)) ∧ h = cmH (u1 (u1 (u1 (u1 z 8 bg) 9 n) 10 (sks n b a)) 11 (sks n b a)) zl f fl 1)) := by
  have hn := hT.2.1
  obtain ⟨hm1, hm2, hm3⟩ := id hM
  obtain ⟨hc1, hc2⟩ := hc
  refine Rx.walk 0 (pc' := 0) (L' := [some (.ref 0), some (.int (iz c))]) (st' := []) (h' := cmH (u1 (u1 (u1 (u1 z 8 bg) 9 n) 10 a) 11 (-1)) zl f fl 1) rfl ?_
  refine Rx.walk 3 (pc' := 5) (L' := [some (.ref 0), some (.int (iz c))]) (st' := [.int (iz (-1)), .int (iz (-1))]) (h' := cmH (u1 (u1 (u1 (u1 z 8 bg) 9 n) 10 a) 11 (-1)) zl f fl 1) rfl ?_
  refine Rx.ne2 rfl rfl ⟨by omega, by omega⟩ ⟨by omega, by omega⟩ (fun b1 => by omega) (fun b1 => ?_)
  refine Rx.walk 1 (pc' := 9) (L' := [some (.ref 0), some (.int (iz c))]) (st' := [.ref 0]) (h' := cmH (u1 (u1 (u1 (u1 z 8 bg) 9 n) 10 a) 11 (-1)) zl f fl 1) rfl ?_
  refine Rx.callx (m' := m_X12_look) (as := [.ref 0]) (rest := []) rfl (r_look1 _ (u1 (u1 (u1 (u1 z 8 bg) 9 n) 10 a) 11 (-1)) zl f fl n a bg (-1) b hT hM (by omega) (by omega)) (fun v3 h4 q5 => ?_)
  obtain ⟨rfl, rfl⟩ := q5
  have k2a := sks_le n b a
  have k2b := sks_n (n := n) b (a := a) (by omega)
  have k2c := sg_bI hT (a := (sks n b a)) (by omega)
  refine Rx.walk 0 (pc' := 12) (L' := [some (.ref 0), some (.int (iz c))]) (st' := [.int (iz (sg n b (sks n b a)))]) (h' := cmH (u1 (u1 (u1 (u1 z 8 bg) 9 n) 10 (sks n b a)) 11 (-1)) zl f fl 1) rfl ?_
  refine Rx.walk 1 (pc' := 13) (L' := [some (.ref 0), some (.int (iz c))]) (st' := [.int (iz c), .int (iz (sg n b (sks n b a)))]) (h' := cmH (u1 (u1 (u1 (u1 z 8 bg) 9 n) 10 (sks n b a)) 11 (-1)) zl f fl 1) rfl ?_
  refine Rx.eq2 rfl rfl ⟨by omega, by omega⟩ ⟨by omega, by omega⟩ (fun b6 => ?_) (fun b6 => ?_)
  · refine Rx.walk 4 (pc' := 27) (L' := [some (.ref 0), some (.int (iz c))]) (st' := [.int (iz 1), .int (iz (sks n b a)), .ref 0]) (h' := cmH (u1 (u1 (u1 (u1 z 8 bg) 9 n) 10 (sks n b a)) 11 (-1)) zl f fl 1) rfl ?_
    refine Rx.iadd rfl ?_
    refine Rx.walk 2 (pc' := 32) (L' := [some (.ref 0), some (.int (iz c))]) (st' := [.int (iz 1)]) (h' := cmH (u1 (u1 (u1 (u1 z 8 bg) 9 n) 10 ((sks n b a) + 1)) 11 (-1)) zl f fl 1) rfl ?_
    refine Rx.ret rfl ?_
    exact Or.inl ⟨by omega, rfl, rfl⟩
  · refine Rx.walk 1 (pc' := 17) (L' := [some (.ref 0), some (.int (iz c))]) (st' := [.ref 0]) (h' := cmH (u1 (u1 (u1 (u1 z 8 bg) 9 n) 10 (sks n b a)) 11 (-1)) zl f fl 1) rfl ?_
    refine Rx.callx (m' := m_X12_fails) (as := [.ref 0]) (rest := []) rfl (r_failsN _ (u1 (u1 (u1 (u1 z 8 bg) 9 n) 10 (sks n b a)) 11 (-1)) zl f fl 1) (fun v7 h8 q9 => ?_)
    obtain ⟨rfl, rfl⟩ := q9
    refine Rx.walk 0 (pc' := 20) (L' := [some (.ref 0), some (.int (iz c))]) (st' := [.int (iz 0)]) (h' := cmH (u1 (u1 (u1 (u1 z 8 bg) 9 n) 10 (sks n b a)) 11 (sks n b a)) zl f fl 1) rfl ?_
    refine Rx.ret rfl ?_
    exact Or.inr ⟨by omega, rfl, rfl⟩
set_option maxRecDepth 100000 in
set_option maxHeartbeats 4000000 in
theorem r_takesS1 (d : Nat) (z : Nat → Int) (zl : Nat → Int) (f : Nat → Int → Int) (fl : Nat → Int → Int) (n a bg fa : Int) (b : Int → Int) (hT : tOK n b) (hM : mOK n bg 160 (f 1) b) (h0 : 0 ≤ a) (h1 : a ≤ n) (c : Int) (hf0 : 0 ≤ fa) (hf1 : fa ≤ 160) : Rx (d + 1) m_X12_takes 0 (am_ent [.ref 0, .int (iz c)] 2) [] (cmH (u1 (u1 (u1 (u1 z 8 bg) 9 n) 10 a) 11 fa) zl f fl 1) (fun rv h => rv = some (.int (iz 0)) ∧ h = cmH (u1 (u1 (u1 (u1 z 8 bg) 9 n) 10 a) 11 fa) zl f fl 1) := by
  have hn := hT.2.1
  obtain ⟨hm1, hm2, hm3⟩ := id hM
  refine Rx.walk 0 (pc' := 0) (L' := [some (.ref 0), some (.int (iz c))]) (st' := []) (h' := cmH (u1 (u1 (u1 (u1 z 8 bg) 9 n) 10 a) 11 fa) zl f fl 1) rfl ?_
  refine Rx.walk 3 (pc' := 5) (L' := [some (.ref 0), some (.int (iz c))]) (st' := [.int (iz (-1)), .int (iz fa)]) (h' := cmH (u1 (u1 (u1 (u1 z 8 bg) 9 n) 10 a) 11 fa) zl f fl 1) rfl ?_
  refine Rx.ne2 rfl rfl ⟨by omega, by omega⟩ ⟨by omega, by omega⟩ (fun b1 => ?_) (fun b1 => by omega)
  refine Rx.walk 1 (pc' := 17) (L' := [some (.ref 0), some (.int (iz c))]) (st' := [.ref 0]) (h' := cmH (u1 (u1 (u1 (u1 z 8 bg) 9 n) 10 a) 11 fa) zl f fl 1) rfl ?_
  refine Rx.callx (m' := m_X12_fails) (as := [.ref 0]) (rest := []) rfl (r_failsS _ (u1 (u1 (u1 (u1 z 8 bg) 9 n) 10 a) 11 fa) zl f fl 1 fa (by omega) (by omega)) (fun v2 h3 q4 => ?_)
  obtain ⟨rfl, rfl⟩ := q4
  refine Rx.walk 0 (pc' := 20) (L' := [some (.ref 0), some (.int (iz c))]) (st' := [.int (iz 0)]) (h' := cmH (u1 (u1 (u1 (u1 z 8 bg) 9 n) 10 a) 11 fa) zl f fl 1) rfl ?_
  refine Rx.ret rfl ?_
  exact ⟨rfl, rfl⟩
set_option maxRecDepth 100000 in
set_option maxHeartbeats 4000000 in
theorem r_look_l2 (d : Nat) (z : Nat → Int) (zl : Nat → Int) (f : Nat → Int → Int) (fl : Nat → Int → Int) (n bg fa : Int) (b : Int → Int) (hT : tOK n b) (hM : mOK n bg 640 (f 2) b) : ∀ (k : Nat) (a : Int), 0 ≤ a → a ≤ n → (n - a).toNat < k → Rx d m_X12_look 0 [some (.ref 0)] [] (cmH (u1 (u1 (u1 (u1 z 8 bg) 9 n) 10 a) 11 fa) zl f fl 2) (fun rv h => rv = some (.int (iz (sg n b (sks n b a)))) ∧ h = cmH (u1 (u1 (u1 (u1 z 8 bg) 9 n) 10 (sks n b a)) 11 fa) zl f fl 2) := by
  have hn := hT.2.1
  obtain ⟨hm1, hm2, hm3⟩ := id hM
  intro k
  induction k with
  | zero => intro a h0 h1 hk; omega
  | succ k ih =>
    intro a h0 h1 hk
    refine Rx.walk 4 (pc' := 8) (L' := [some (.ref 0)]) (st' := [.int (iz n), .int (iz a)]) (h' := cmH (u1 (u1 (u1 (u1 z 8 bg) 9 n) 10 a) 11 fa) zl f fl 2) rfl ?_
    refine Rx.ge2 rfl rfl ⟨by omega, by omega⟩ ⟨by omega, by omega⟩ (fun b1 => ?_) (fun b1 => ?_)
    · refine Rx.walk 4 (pc' := 51) (L' := [some (.ref 0)]) (st' := [.int (iz n), .int (iz a)]) (h' := cmH (u1 (u1 (u1 (u1 z 8 bg) 9 n) 10 a) 11 fa) zl f fl 2) rfl ?_
      refine Rx.ge2 rfl rfl ⟨by omega, by omega⟩ ⟨by omega, by omega⟩ (fun b2 => ?_) (fun b2 => by omega)
      refine Rx.walk 1 (pc' := 76) (L' := [some (.ref 0)]) (st' := [.int (iz (-1))]) (h' := cmH (u1 (u1 (u1 (u1 z 8 bg) 9 n) 10 a) 11 fa) zl f fl 2) rfl ?_
      refine Rx.ret rfl ?_
      first | (rw [sks_at (by omega), sg_lt (by omega)]; exact ⟨rfl, rfl⟩) | (rw [sks_at (by omega), sg_ge (by omega)]; exact ⟨rfl, rfl⟩)
    · refine Rx.walk 4 (pc' := 19) (L' := [some (.ref 0)]) (st' := [.int (iz bg), .ref 2]) (h' := cmH (u1 (u1 (u1 (u1 z 8 bg) 9 n) 10 a) 11 fa) zl f fl 2) rfl ?_
      have y := mOK_at hM hT (a := a) (by omega) (by omega)
      refine Rx.walk 2 (pc' := 23) (L' := [some (.ref 0)]) (st' := [.int (iz a), .int (iz bg), .ref 2]) (h' := cmH (u1 (u1 (u1 (u1 z 8 bg) 9 n) 10 a) 11 fa) zl f fl 2) rfl ?_
      refine Rx.iadd rfl ?_
      refine Rx.bal rfl rfl (by omega) (by omega) (by omega) ?_
      refine Rx.walk 1 (pc' := 27) (L' := [some (.ref 0)]) (st' := [.int (iz 32), .int (iz (f 2 (bg + a)))]) (h' := cmH (u1 (u1 (u1 (u1 z 8 bg) 9 n) 10 a) 11 fa) zl f fl 2) rfl ?_
      refine Rx.ne2 rfl rfl ⟨by omega, by omega⟩ ⟨by omega, by omega⟩ (fun b3 => ?_) (fun b3 => ?_)
      · refine Rx.walk 4 (pc' := 51) (L' := [some (.ref 0)]) (st' := [.int (iz n), .int (iz a)]) (h' := cmH (u1 (u1 (u1 (u1 z 8 bg) 9 n) 10 a) 11 fa) zl f fl 2) rfl ?_
        refine Rx.ge2 rfl rfl ⟨by omega, by omega⟩ ⟨by omega, by omega⟩ (fun b4 => by omega) (fun b4 => ?_)
        refine Rx.walk 6 (pc' := 66) (L' := [some (.ref 0)]) (st' := [.int (iz a), .int (iz bg), .ref 2]) (h' := cmH (u1 (u1 (u1 (u1 z 8 bg) 9 n) 10 a) 11 fa) zl f fl 2) rfl ?_
        refine Rx.iadd rfl ?_
        refine Rx.bal rfl rfl (by omega) (by omega) (by omega) ?_
        refine Rx.walk 1 (pc' := 71) (L' := [some (.ref 0)]) (st' := [.int (iz 255), .int (iz (f 2 (bg + a)))]) (h' := cmH (u1 (u1 (u1 (u1 z 8 bg) 9 n) 10 a) 11 fa) zl f fl 2) rfl ?_
        refine Rx.iand (c := b a) rfl (iz_and255' (by omega)) ?_
        refine Rx.walk 1 (pc' := 76) (L' := [some (.ref 0)]) (st' := [.int (iz (b a))]) (h' := cmH (u1 (u1 (u1 (u1 z 8 bg) 9 n) 10 a) 11 fa) zl f fl 2) rfl ?_
        refine Rx.ret rfl ?_
        first | (rw [sks_at (by omega), sg_lt (by omega)]; exact ⟨rfl, rfl⟩) | (rw [sks_at (by omega), sg_ge (by omega)]; exact ⟨rfl, rfl⟩)
      · refine Rx.walk 4 (pc' := 36) (L' := [some (.ref 0)]) (st' := [.int (iz 1), .int (iz a), .ref 0]) (h' := cmH (u1 (u1 (u1 (u1 z 8 bg) 9 n) 10 a) 11 fa) zl f fl 2) rfl ?_
        refine Rx.iadd rfl ?_
        refine Rx.walk 2 (pc' := 0) (L' := [some (.ref 0)]) (st' := []) (h' := cmH (u1 (u1 (u1 (u1 z 8 bg) 9 n) 10 (a + 1)) 11 fa) zl f fl 2) rfl ?_
        rw [sks_sp (by omega) (by omega)]
        exact ih (a + 1) (by omega) (by omega) (by omega)
theorem r_look2 (d : Nat) (z : Nat → Int) (zl : Nat → Int) (f : Nat → Int → Int) (fl : Nat → Int → Int) (n a bg fa : Int) (b : Int → Int) (hT : tOK n b) (hM : mOK n bg 640 (f 2) b) (h0 : 0 ≤ a) (h1 : a ≤ n) : Rx d m_X12_look 0 (am_ent [.ref 0] 1) [] (cmH (u1 (u1 (u1 (u1 z 8 bg) 9 n) 10 a) 11 fa) zl f fl 2) (fun rv h => rv = some (.int (iz (sg n b (sks n b a)))) ∧ h = cmH (u1 (u1 (u1 (u1 z 8 bg) 9 n) 10 (sks n b a)) 11 fa) zl f fl 2) := r_look_l2 d z zl f fl n bg fa b hT hM _ a h0 h1 (Nat.lt_succ_self _)
set_option maxRecDepth 100000 in
set_option maxHeartbeats 4000000 in
theorem r_isDigit2 (d : Nat) (z : Nat → Int) (zl : Nat → Int) (f : Nat → Int → Int) (fl : Nat → Int → Int) (n a bg fa : Int) (b : Int → Int) (hT : tOK n b) (hM : mOK n bg 640 (f 2) b) (h0 : 0 ≤ a) (h1 : a ≤ n) : Rx (d) m_X12_isDigit 0 (am_ent [.ref 0] 1) [] (cmH (u1 (u1 (u1 (u1 z 8 bg) 9 n) 10 a) 11 fa) zl f fl 2) (fun rv h => rv = some (.int (iz (bz (isD n b a)))) ∧ h = cmH (u1 (u1 (u1 (u1 z 8 bg) 9 n) 10 a) 11 fa) zl f fl 2) := by
  have hn := hT.2.1
  obtain ⟨hm1, hm2, hm3⟩ := id hM
  refine Rx.walk 0 (pc' := 0) (L' := [some (.ref 0)]) (st' := []) (h' := cmH (u1 (u1 (u1 (u1 z 8 bg) 9 n) 10 a) 11 fa) zl f fl 2) rfl ?_
  refine Rx.walk 4 (pc' := 8) (L' := [some (.ref 0)]) (st' := [.int (iz n), .int (iz a)]) (h' := cmH (u1 (u1 (u1 (u1 z 8 bg) 9 n) 10 a) 11 fa) zl f fl 2) rfl ?_
  refine Rx.ge2 rfl rfl ⟨by omega, by omega⟩ ⟨by omega, by omega⟩ (fun b1 => ?_) (fun b1 => ?_)
  · refine Rx.walk 1 (pc' := 54) (L' := [some (.ref 0)]) (st' := [.int (iz 0)]) (h' := cmH (u1 (u1 (u1 (u1 z 8 bg) 9 n) 10 a) 11 fa) zl f fl 2) rfl ?_
    refine Rx.ret rfl ?_
    rw [isD_f.mpr (by omega)]
    exact ⟨rfl, rfl⟩
  · refine Rx.walk 4 (pc' := 19) (L' := [some (.ref 0)]) (st' := [.int (iz bg), .ref 2]) (h' := cmH (u1 (u1 (u1 (u1 z 8 bg) 9 n) 10 a) 11 fa) zl f fl 2) rfl ?_
    have y := mOK_at hM hT (a := a) (by omega) (by omega)
    refine Rx.walk 2 (pc' := 23) (L' := [some (.ref 0)]) (st' := [.int (iz a), .int (iz bg), .ref 2]) (h' := cmH (u1 (u1 (u1 (u1 z 8 bg) 9 n) 10 a) 11 fa) zl f fl 2) rfl ?_
    refine Rx.iadd rfl ?_
    refine Rx.bal rfl rfl (by omega) (by omega) (by omega) ?_
    refine Rx.walk 1 (pc' := 27) (L' := [some (.ref 0)]) (st' := [.int (iz 48), .int (iz (f 2 (bg + a)))]) (h' := cmH (u1 (u1 (u1 (u1 z 8 bg) 9 n) 10 a) 11 fa) zl f fl 2) rfl ?_
    refine Rx.lt2 rfl rfl ⟨by omega, by omega⟩ ⟨by omega, by omega⟩ (fun b2 => ?_) (fun b2 => ?_)
    · refine Rx.walk 1 (pc' := 54) (L' := [some (.ref 0)]) (st' := [.int (iz 0)]) (h' := cmH (u1 (u1 (u1 (u1 z 8 bg) 9 n) 10 a) 11 fa) zl f fl 2) rfl ?_
      refine Rx.ret rfl ?_
      rw [isD_f.mpr (by omega)]
      exact ⟨rfl, rfl⟩
    · refine Rx.walk 6 (pc' := 42) (L' := [some (.ref 0)]) (st' := [.int (iz a), .int (iz bg), .ref 2]) (h' := cmH (u1 (u1 (u1 (u1 z 8 bg) 9 n) 10 a) 11 fa) zl f fl 2) rfl ?_
      refine Rx.iadd rfl ?_
      refine Rx.bal rfl rfl (by omega) (by omega) (by omega) ?_
      refine Rx.walk 1 (pc' := 46) (L' := [some (.ref 0)]) (st' := [.int (iz 57), .int (iz (f 2 (bg + a)))]) (h' := cmH (u1 (u1 (u1 (u1 z 8 bg) 9 n) 10 a) 11 fa) zl f fl 2) rfl ?_
      refine Rx.gt2 rfl rfl ⟨by omega, by omega⟩ ⟨by omega, by omega⟩ (fun b3 => ?_) (fun b3 => ?_)
      · refine Rx.walk 1 (pc' := 54) (L' := [some (.ref 0)]) (st' := [.int (iz 0)]) (h' := cmH (u1 (u1 (u1 (u1 z 8 bg) 9 n) 10 a) 11 fa) zl f fl 2) rfl ?_
        refine Rx.ret rfl ?_
        rw [isD_f.mpr (by omega)]
        exact ⟨rfl, rfl⟩
      · refine Rx.walk 2 (pc' := 54) (L' := [some (.ref 0)]) (st' := [.int (iz 1)]) (h' := cmH (u1 (u1 (u1 (u1 z 8 bg) 9 n) 10 a) 11 fa) zl f fl 2) rfl ?_
        refine Rx.ret rfl ?_
        rw [isD_t.mpr (by omega)]
        exact ⟨rfl, rfl⟩
set_option maxRecDepth 100000 in
set_option maxHeartbeats 4000000 in
theorem r_here2 (d : Nat) (z : Nat → Int) (zl : Nat → Int) (f : Nat → Int → Int) (fl : Nat → Int → Int) (n a bg fa : Int) (b : Int → Int) (hT : tOK n b) (hM : mOK n bg 640 (f 2) b) (h0 : 0 ≤ a) (h1 : a ≤ n) : Rx (d) m_X12_here 0 (am_ent [.ref 0] 1) [] (cmH (u1 (u1 (u1 (u1 z 8 bg) 9 n) 10 a) 11 fa) zl f fl 2) (fun rv h => rv = some (.int (iz (sg n b a))) ∧ h = cmH (u1 (u1 (u1 (u1 z 8 bg) 9 n) 10 a) 11 fa) zl f fl 2) := by
  have hn := hT.2.1
  obtain ⟨hm1, hm2, hm3⟩ := id hM
  refine Rx.walk 0 (pc' := 0) (L' := [some (.ref 0)]) (st' := []) (h' := cmH (u1 (u1 (u1 (u1 z 8 bg) 9 n) 10 a) 11 fa) zl f fl 2) rfl ?_
  refine Rx.walk 4 (pc' := 8) (L' := [some (.ref 0)]) (st' := [.int (iz n), .int (iz a)]) (h' := cmH (u1 (u1 (u1 (u1 z 8 bg) 9 n) 10 a) 11 fa) zl f fl 2) rfl ?_
  refine Rx.ge2 rfl rfl ⟨by omega, by omega⟩ ⟨by omega, by omega⟩ (fun b1 => ?_) (fun b1 => ?_)
  · refine Rx.walk 1 (pc' := 33) (L' := [some (.ref 0)]) (st' := [.int (iz (-1))]) (h' := cmH (u1 (u1 (u1 (u1 z 8 bg) 9 n) 10 a) 11 fa) zl f fl 2) rfl ?_
    refine Rx.ret rfl ?_
    first | (rw [sg_lt (by omega)]; exact ⟨rfl, rfl⟩) | (rw [sg_ge (by omega)]; exact ⟨rfl, rfl⟩)
  · refine Rx.walk 4 (pc' := 19) (L' := [some (.ref 0)]) (st' := [.int (iz bg), .ref 2]) (h' := cmH (u1 (u1 (u1 (u1 z 8 bg) 9 n) 10 a) 11 fa) zl f fl 2) rfl ?_
    have y := mOK_at hM hT (a := a) (by omega) (by omega)
    refine Rx.walk 2 (pc' := 23) (L' := [some (.ref 0)]) (st' := [.int (iz a), .int (iz bg), .ref 2]) (h' := cmH (u1 (u1 (u1 (u1 z 8 bg) 9 n) 10 a) 11 fa) zl f fl 2) rfl ?_
    refine Rx.iadd rfl ?_
    refine Rx.bal rfl rfl (by omega) (by omega) (by omega) ?_
    refine Rx.walk 1 (pc' := 28) (L' := [some (.ref 0)]) (st' := [.int (iz 255), .int (iz (f 2 (bg + a)))]) (h' := cmH (u1 (u1 (u1 (u1 z 8 bg) 9 n) 10 a) 11 fa) zl f fl 2) rfl ?_
    refine Rx.iand (c := b a) rfl (iz_and255' (by omega)) ?_
    refine Rx.walk 1 (pc' := 33) (L' := [some (.ref 0)]) (st' := [.int (iz (b a))]) (h' := cmH (u1 (u1 (u1 (u1 z 8 bg) 9 n) 10 a) 11 fa) zl f fl 2) rfl ?_
    refine Rx.ret rfl ?_
    first | (rw [sg_lt (by omega)]; exact ⟨rfl, rfl⟩) | (rw [sg_ge (by omega)]; exact ⟨rfl, rfl⟩)
set_option maxRecDepth 100000 in
set_option maxHeartbeats 4000000 in
theorem r_takes2 (d : Nat) (z : Nat → Int) (zl : Nat → Int) (f : Nat → Int → Int) (fl : Nat → Int → Int) (n a bg : Int) (b : Int → Int) (hT : tOK n b) (hM : mOK n bg 640 (f 2) b) (h0 : 0 ≤ a) (h1 : a ≤ n) (c : Int) (hc : bI c) : Rx (d + 1) m_X12_takes 0 (am_ent [.ref 0, .int (iz c)] 2) [] (cmH (u1 (u1 (u1 (u1 z 8 bg) 9 n) 10 a) 11 (-1)) zl f fl 2) (fun rv h => (sg n b (sks n b a) = c ∧ rv = some (.int (iz 1)) ∧ h = cmH (u1 (u1 (u1 (u1 z 8 bg) 9 n) 10 ((sks n b a) + 1)) 11 (-1)) zl f fl 2) ∨ (sg n b (sks n b a) ≠ c ∧ rv = some (.int (iz 0)) ∧ h = cmH (u1 (u1 (u1 (u1 z 8 bg) 9 n) 10 (sks n b a)) 11 (sks n b a)) zl f fl 2)) := by
  have hn := hT.2.1
  obtain ⟨hm1, hm2, hm3⟩ := id hM
  obtain ⟨hc1, hc2⟩ := hc
  refine Rx.walk 0 (pc' := 0) (L' := [some (.ref 0), some (.int (iz c))]) (st' := []) (h' := cmH (u1 (u1 (u1 (u1 z 8 bg) 9 n) 10 a) 11 (-1)) zl f fl 2) rfl ?_
  refine Rx.walk 3 (pc' := 5) (L' := [some (.ref 0), some (.int (iz c))]) (st' := [.int (iz (-1)), .int (iz (-1))]) (h' := cmH (u1 (u1 (u1 (u1 z 8 bg) 9 n) 10 a) 11 (-1)) zl f fl 2) rfl ?_
  refine Rx.ne2 rfl rfl ⟨by omega, by omega⟩ ⟨by omega, by omega⟩ (fun b1 => by omega) (fun b1 => ?_)
  refine Rx.walk 1 (pc' := 9) (L' := [some (.ref 0), some (.int (iz c))]) (st' := [.ref 0]) (h' := cmH (u1 (u1 (u1 (u1 z 8 bg) 9 n) 10 a) 11 (-1)) zl f fl 2) rfl ?_
  refine Rx.callx (m' := m_X12_look) (as := [.ref 0]) (rest := []) rfl (r_look2 _ (u1 (u1 (u1 (u1 z 8 bg) 9 n) 10 a) 11 (-1)) zl f fl n a bg (-1) b hT hM (by omega) (by omega)) (fun v3 h4 q5 => ?_)
  obtain ⟨rfl, rfl⟩ := q5
  have k2a := sks_le n b a
  have k2b := sks_n (n := n) b (a := a) (by omega)
  have k2c := sg_bI hT (a := (sks n b a)) (by omega)
  refine Rx.walk 0 (pc' := 12) (L' := [some (.ref 0), some (.int (iz c))]) (st' := [.int (iz (sg n b (sks n b a)))]) (h' := cmH (u1 (u1 (u1 (u1 z 8 bg) 9 n) 10 (sks n b a)) 11 (-1)) zl f fl 2) rfl ?_
  refine Rx.walk 1 (pc' := 13) (L' := [some (.ref 0), some (.int (iz c))]) (st' := [.int (iz c), .int (iz (sg n b (sks n b a)))]) (h' := cmH (u1 (u1 (u1 (u1 z 8 bg) 9 n) 10 (sks n b a)) 11 (-1)) zl f fl 2) rfl ?_
  refine Rx.eq2 rfl rfl ⟨by omega, by omega⟩ ⟨by omega, by omega⟩ (fun b6 => ?_) (fun b6 => ?_)
  · refine Rx.walk 4 (pc' := 27) (L' := [some (.ref 0), some (.int (iz c))]) (st' := [.int (iz 1), .int (iz (sks n b a)), .ref 0]) (h' := cmH (u1 (u1 (u1 (u1 z 8 bg) 9 n) 10 (sks n b a)) 11 (-1)) zl f fl 2) rfl ?_
    refine Rx.iadd rfl ?_
    refine Rx.walk 2 (pc' := 32) (L' := [some (.ref 0), some (.int (iz c))]) (st' := [.int (iz 1)]) (h' := cmH (u1 (u1 (u1 (u1 z 8 bg) 9 n) 10 ((sks n b a) + 1)) 11 (-1)) zl f fl 2) rfl ?_
    refine Rx.ret rfl ?_
    exact Or.inl ⟨by omega, rfl, rfl⟩
  · refine Rx.walk 1 (pc' := 17) (L' := [some (.ref 0), some (.int (iz c))]) (st' := [.ref 0]) (h' := cmH (u1 (u1 (u1 (u1 z 8 bg) 9 n) 10 (sks n b a)) 11 (-1)) zl f fl 2) rfl ?_
    refine Rx.callx (m' := m_X12_fails) (as := [.ref 0]) (rest := []) rfl (r_failsN _ (u1 (u1 (u1 (u1 z 8 bg) 9 n) 10 (sks n b a)) 11 (-1)) zl f fl 2) (fun v7 h8 q9 => ?_)
    obtain ⟨rfl, rfl⟩ := q9
    refine Rx.walk 0 (pc' := 20) (L' := [some (.ref 0), some (.int (iz c))]) (st' := [.int (iz 0)]) (h' := cmH (u1 (u1 (u1 (u1 z 8 bg) 9 n) 10 (sks n b a)) 11 (sks n b a)) zl f fl 2) rfl ?_
    refine Rx.ret rfl ?_
    exact Or.inr ⟨by omega, rfl, rfl⟩
set_option maxRecDepth 100000 in
set_option maxHeartbeats 4000000 in
theorem r_takesS2 (d : Nat) (z : Nat → Int) (zl : Nat → Int) (f : Nat → Int → Int) (fl : Nat → Int → Int) (n a bg fa : Int) (b : Int → Int) (hT : tOK n b) (hM : mOK n bg 640 (f 2) b) (h0 : 0 ≤ a) (h1 : a ≤ n) (c : Int) (hf0 : 0 ≤ fa) (hf1 : fa ≤ 160) : Rx (d + 1) m_X12_takes 0 (am_ent [.ref 0, .int (iz c)] 2) [] (cmH (u1 (u1 (u1 (u1 z 8 bg) 9 n) 10 a) 11 fa) zl f fl 2) (fun rv h => rv = some (.int (iz 0)) ∧ h = cmH (u1 (u1 (u1 (u1 z 8 bg) 9 n) 10 a) 11 fa) zl f fl 2) := by
  have hn := hT.2.1
  obtain ⟨hm1, hm2, hm3⟩ := id hM
  refine Rx.walk 0 (pc' := 0) (L' := [some (.ref 0), some (.int (iz c))]) (st' := []) (h' := cmH (u1 (u1 (u1 (u1 z 8 bg) 9 n) 10 a) 11 fa) zl f fl 2) rfl ?_
  refine Rx.walk 3 (pc' := 5) (L' := [some (.ref 0), some (.int (iz c))]) (st' := [.int (iz (-1)), .int (iz fa)]) (h' := cmH (u1 (u1 (u1 (u1 z 8 bg) 9 n) 10 a) 11 fa) zl f fl 2) rfl ?_
  refine Rx.ne2 rfl rfl ⟨by omega, by omega⟩ ⟨by omega, by omega⟩ (fun b1 => ?_) (fun b1 => by omega)
  refine Rx.walk 1 (pc' := 17) (L' := [some (.ref 0), some (.int (iz c))]) (st' := [.ref 0]) (h' := cmH (u1 (u1 (u1 (u1 z 8 bg) 9 n) 10 a) 11 fa) zl f fl 2) rfl ?_
  refine Rx.callx (m' := m_X12_fails) (as := [.ref 0]) (rest := []) rfl (r_failsS _ (u1 (u1 (u1 (u1 z 8 bg) 9 n) 10 a) 11 fa) zl f fl 2 fa (by omega) (by omega)) (fun v2 h3 q4 => ?_)
  obtain ⟨rfl, rfl⟩ := q4
  refine Rx.walk 0 (pc' := 20) (L' := [some (.ref 0), some (.int (iz c))]) (st' := [.int (iz 0)]) (h' := cmH (u1 (u1 (u1 (u1 z 8 bg) 9 n) 10 a) 11 fa) zl f fl 2) rfl ?_
  refine Rx.ret rfl ?_
  exact ⟨rfl, rfl⟩
set_option maxRecDepth 100000 in
set_option maxHeartbeats 4000000 in
theorem r_number (d : Nat) (z : Nat → Int) (zl : Nat → Int) (f : Nat → Int → Int) (fl : Nat → Int → Int) (n a bg lo hi : Int) (b : Int → Int) (hT : tOK n b) (hM : mOK n bg 160 (f 1) b) (h0 : 0 ≤ a) (h1 : a ≤ n) (hlo : bI lo) (hhi : bI hi) : Rx (d + 1) m_X12_number 0 (am_ent [.ref 0, .int (iz lo), .int (iz hi)] 5) [] (cmH (u1 (u1 (u1 (u1 z 8 bg) 9 n) 10 a) 11 (-1)) zl f fl 1) (fun rv h => (∃ v, (nmP n b lo hi a).2 = some v ∧ rv = some (.int (iz v)) ∧ h = cmH (u1 (u1 (u1 (u1 z 8 bg) 9 n) 10 ((nmP n b lo hi a).1)) 11 (-1)) zl f fl 1) ∨ ((nmP n b lo hi a).2 = none ∧ rv = some (.int (iz (-1))) ∧ h = cmH (u1 (u1 (u1 (u1 z 8 bg) 9 n) 10 ((nmP n b lo hi a).1)) 11 ((nmP n b lo hi a).1)) zl f fl 1)) := by
  have hn := hT.2.1
  obtain ⟨hm1, hm2, hm3⟩ := id hM
  obtain ⟨hlo1, hlo2⟩ := hlo
  obtain ⟨hhi1, hhi2⟩ := hhi
  refine Rx.walk 0 (pc' := 0) (L' := [some (.ref 0), some (.int (iz lo)), some (.int (iz hi)), none, none]) (st' := []) (h' := cmH (u1 (u1 (u1 (u1 z 8 bg) 9 n) 10 a) 11 (-1)) zl f fl 1) rfl ?_
  refine Rx.walk 1 (pc' := 1) (L' := [some (.ref 0), some (.int (iz lo)), some (.int (iz hi)), none, none]) (st' := [.ref 0]) (h' := cmH (u1 (u1 (u1 (u1 z 8 bg) 9 n) 10 a) 11 (-1)) zl f fl 1) rfl ?_
  refine Rx.callx (m' := m_X12_look) (as := [.ref 0]) (rest := []) rfl (r_look1 _ (u1 (u1 (u1 (u1 z 8 bg) 9 n) 10 a) 11 (-1)) zl f fl n a bg (-1) b hT hM (by omega) (by omega)) (fun v2 h3 q4 => ?_)
  obtain ⟨rfl, rfl⟩ := q4
  have k1a := sks_le n b a
  have k1b := sks_n (n := n) b (a := a) (by omega)
  have k1c := sg_bI hT (a := (sks n b a)) (by omega)
  refine Rx.walk 0 (pc' := 4) (L' := [some (.ref 0), some (.int (iz lo)), some (.int (iz hi)), none, none]) (st' := [.int (iz (sg n b (sks n b a)))]) (h' := cmH (u1 (u1 (u1 (u1 z 8 bg) 9 n) 10 (sks n b a)) 11 (-1)) zl f fl 1) rfl ?_
  refine Rx.walk 2 (pc' := 6) (L' := [some (.ref 0), some (.int (iz lo)), some (.int (iz hi)), some (.int (iz (sg n b (sks n b a)))), none]) (st' := [.ref 0]) (h' := cmH (u1 (u1 (u1 (u1 z 8 bg) 9 n) 10 (sks n b a)) 11 (-1)) zl f fl 1) rfl ?_
  refine Rx.callx (m' := m_X12_isDigit) (as := [.ref 0]) (rest := []) rfl (r_isDigit1 _ (u1 (u1 (u1 (u1 z 8 bg) 9 n) 10 (sks n b a)) 11 (-1)) zl f fl n (sks n b a) bg (-1) b hT hM (by omega) (by omega)) (fun v5 h6 q7 => ?_)
  obtain ⟨rfl, rfl⟩ := q7
  refine Rx.walk 0 (pc' := 9) (L' := [some (.ref 0), some (.int (iz lo)), some (.int (iz hi)), some (.int (iz (sg n b (sks n b a)))), none]) (st' := [.int (iz (bz (isD n b (sks n b a))))]) (h' := cmH (u1 (u1 (u1 (u1 z 8 bg) 9 n) 10 (sks n b a)) 11 (-1)) zl f fl 1) rfl ?_
  refine Rx.neb rfl rfl (fun b8 => ?_) (fun b8 => ?_)
  · have f1 := isD_t.mp b8
    refine Rx.walk 1 (pc' := 20) (L' := [some (.ref 0), some (.int (iz lo)), some (.int (iz hi)), some (.int (iz (sg n b (sks n b a)))), none]) (st' := [.ref 0]) (h' := cmH (u1 (u1 (u1 (u1 z 8 bg) 9 n) 10 (sks n b a)) 11 (-1)) zl f fl 1) rfl ?_
    refine Rx.callx (m' := m_X12_here) (as := [.ref 0]) (rest := []) rfl (r_here1 _ (u1 (u1 (u1 (u1 z 8 bg) 9 n) 10 (sks n b a)) 11 (-1)) zl f fl n (sks n b a) bg (-1) b hT hM (by omega) (by omega)) (fun v10 h11 q12 => ?_)
    obtain ⟨rfl, rfl⟩ := q12
    have k9 := sg_bI hT (a := (sks n b a)) (by omega)
    refine Rx.walk 0 (pc' := 23) (L' := [some (.ref 0), some (.int (iz lo)), some (.int (iz hi)), some (.int (iz (sg n b (sks n b a)))), none]) (st' := [.int (iz (sg n b (sks n b a)))]) (h' := cmH (u1 (u1 (u1 (u1 z 8 bg) 9 n) 10 (sks n b a)) 11 (-1)) zl f fl 1) rfl ?_
    refine Rx.walk 1 (pc' := 25) (L' := [some (.ref 0), some (.int (iz lo)), some (.int (iz hi)), some (.int (iz (sg n b (sks n b a)))), none]) (st' := [.int (iz 48), .int (iz (sg n b (sks n b a)))]) (h' := cmH (u1 (u1 (u1 (u1 z 8 bg) 9 n) 10 (sks n b a)) 11 (-1)) zl f fl 1) rfl ?_
    refine Rx.isub rfl ?_
    refine Rx.walk 5 (pc' := 34) (L' := [some (.ref 0), some (.int (iz lo)), some (.int (iz hi)), some (.int (iz (sg n b (sks n b a)))), some (.int (iz ((sg n b (sks n b a)) - 48)))]) (st' := [.int (iz 1), .int (iz (sks n b a)), .ref 0]) (h' := cmH (u1 (u1 (u1 (u1 z 8 bg) 9 n) 10 (sks n b a)) 11 (-1)) zl f fl 1) rfl ?_
    refine Rx.iadd rfl ?_
    refine Rx.walk 2 (pc' := 39) (L' := [some (.ref 0), some (.int (iz lo)), some (.int (iz hi)), some (.int (iz (sg n b (sks n b a)))), some (.int (iz ((sg n b (sks n b a)) - 48)))]) (st' := [.ref 0]) (h' := cmH (u1 (u1 (u1 (u1 z 8 bg) 9 n) 10 ((sks n b a) + 1)) 11 (-1)) zl f fl 1) rfl ?_
    refine Rx.callx (m' := m_X12_isDigit) (as := [.ref 0]) (rest := []) rfl (r_isDigit1 _ (u1 (u1 (u1 (u1 z 8 bg) 9 n) 10 ((sks n b a) + 1)) 11 (-1)) zl f fl n ((sks n b a) + 1) bg (-1) b hT hM (by omega) (by omega)) (fun v13 h14 q15 => ?_)
    obtain ⟨rfl, rfl⟩ := q15
    refine Rx.walk 0 (pc' := 42) (L' := [some (.ref 0), some (.int (iz lo)), some (.int (iz hi)), some (.int (iz (sg n b (sks n b a)))), some (.int (iz ((sg n b (sks n b a)) - 48)))]) (st' := [.int (iz (bz (isD n b ((sks n b a) + 1))))]) (h' := cmH (u1 (u1 (u1 (u1 z 8 bg) 9 n) 10 ((sks n b a) + 1)) 11 (-1)) zl f fl 1) rfl ?_
    refine Rx.eqb rfl rfl (fun b16 => ?_) (fun b16 => ?_)
    · refine Rx.walk 1 (pc' := 71) (L' := [some (.ref 0), some (.int (iz lo)), some (.int (iz hi)), some (.int (iz (sg n b (sks n b a)))), some (.int (iz ((sg n b (sks n b a)) - 48)))]) (st' := [.ref 0]) (h' := cmH (u1 (u1 (u1 (u1 z 8 bg) 9 n) 10 ((sks n b a) + 1)) 11 (-1)) zl f fl 1) rfl ?_
      refine Rx.callx (m' := m_X12_isDigit) (as := [.ref 0]) (rest := []) rfl (r_isDigit1 _ (u1 (u1 (u1 (u1 z 8 bg) 9 n) 10 ((sks n b a) + 1)) 11 (-1)) zl f fl n ((sks n b a) + 1) bg (-1) b hT hM (by omega) (by omega)) (fun v17 h18 q19 => ?_)
      obtain ⟨rfl, rfl⟩ := q19
      refine Rx.walk 0 (pc' := 74) (L' := [some (.ref 0), some (.int (iz lo)), some (.int (iz hi)), some (.int (iz (sg n b (sks n b a)))), some (.int (iz ((sg n b (sks n b a)) - 48)))]) (st' := [.int (iz (bz (isD n b ((sks n b a) + 1))))]) (h' := cmH (u1 (u1 (u1 (u1 z 8 bg) 9 n) 10 ((sks n b a) + 1)) 11 (-1)) zl f fl 1) rfl ?_
      refine Rx.eqb rfl rfl (fun b20 => ?_) (fun b20 => ?_)
      · refine Rx.walk 1 (pc' := 86) (L' := [some (.ref 0), some (.int (iz lo)), some (.int (iz hi)), some (.int (iz (sg n b (sks n b a)))), some (.int (iz ((sg n b (sks n b a)) - 48)))]) (st' := [.int (iz ((sg n b (sks n b a)) - 48))]) (h' := cmH (u1 (u1 (u1 (u1 z 8 bg) 9 n) 10 ((sks n b a) + 1)) 11 (-1)) zl f fl 1) rfl ?_
        refine Rx.i2l rfl ⟨by omega, by omega⟩ ?_
        refine Rx.walk 1 (pc' := 88) (L' := [some (.ref 0), some (.int (iz lo)), some (.int (iz hi)), some (.int (iz (sg n b (sks n b a)))), some (.int (iz ((sg n b (sks n b a)) - 48)))]) (st' := [.int (iz lo), .long (jz ((sg n b (sks n b a)) - 48))]) (h' := cmH (u1 (u1 (u1 (u1 z 8 bg) 9 n) 10 ((sks n b a) + 1)) 11 (-1)) zl f fl 1) rfl ?_
        refine Rx.i2l rfl ⟨by omega, by omega⟩ ?_
        refine Rx.walk 1 (pc' := 90) (L' := [some (.ref 0), some (.int (iz lo)), some (.int (iz hi)), some (.int (iz (sg n b (sks n b a)))), some (.int (iz ((sg n b (sks n b a)) - 48)))]) (st' := [.int (iz hi), .long (jz lo), .long (jz ((sg n b (sks n b a)) - 48))]) (h' := cmH (u1 (u1 (u1 (u1 z 8 bg) 9 n) 10 ((sks n b a) + 1)) 11 (-1)) zl f fl 1) rfl ?_
        refine Rx.i2l rfl ⟨by omega, by omega⟩ ?_
        refine Rx.callx (m' := m_X12_isIn) (as := [.long (jz ((sg n b (sks n b a)) - 48)), .long (jz lo), .long (jz hi)]) (rest := []) rfl (r_isIn _ _ ((sg n b (sks n b a)) - 48) lo hi ⟨by omega, by omega⟩ ⟨by omega, by omega⟩ ⟨by omega, by omega⟩) (fun v21 h22 q23 => ?_)
        obtain ⟨rfl, rfl⟩ := q23
        refine Rx.walk 0 (pc' := 94) (L' := [some (.ref 0), some (.int (iz lo)), some (.int (iz hi)), some (.int (iz (sg n b (sks n b a)))), some (.int (iz ((sg n b (sks n b a)) - 48)))]) (st' := [.int (iz (bz (decide (lo ≤ ((sg n b (sks n b a)) - 48) ∧ ((sg n b (sks n b a)) - 48) ≤ hi))))]) (h' := cmH (u1 (u1 (u1 (u1 z 8 bg) 9 n) 10 ((sks n b a) + 1)) 11 (-1)) zl f fl 1) rfl ?_
        refine Rx.neb rfl rfl (fun b24 => ?_) (fun b24 => ?_)
        · refine Rx.walk 1 (pc' := 116) (L' := [some (.ref 0), some (.int (iz lo)), some (.int (iz hi)), some (.int (iz (sg n b (sks n b a)))), some (.int (iz ((sg n b (sks n b a)) - 48)))]) (st' := [.int (iz ((sg n b (sks n b a)) - 48))]) (h' := cmH (u1 (u1 (u1 (u1 z 8 bg) 9 n) 10 ((sks n b a) + 1)) 11 (-1)) zl f fl 1) rfl ?_
          refine Rx.ret rfl ?_
          have e1 := b8
          have e2 := isD_t.mp e1
          skip
          have e3 : isD n b ((sks n b a) + 1) = false := b16
          have ed : (dg n b 2 (sks n b a) 0) = ((sks n b a) + 1, 10 * 0 + b (sks n b a) - 48) := by rw [dg_t e1, dg_f e3]
          have e6 : sg n b (sks n b a) = b (sks n b a) := sg_lt (by omega)
          have e7 : isD n b ((sks n b a) + 1) = false := by exact b20
          have e8 := of_decide_eq_true b24
          rw [show nmP n b lo hi a = (((sks n b a) + 1), some (10 * 0 + b (sks n b a) - 48)) by unfold nmP; rw [if_pos e1, ed, if_neg (by rw [e7]; decide), if_pos (show lo ≤ (10 * 0 + b (sks n b a) - 48) ∧ (10 * 0 + b (sks n b a) - 48) ≤ hi by omega)]]
          exact Or.inl ⟨_, rfl, by rw [show ((sg n b (sks n b a)) - 48) = (10 * 0 + b (sks n b a) - 48) by omega], rfl⟩
        · refine Rx.walk 4 (pc' := 103) (L' := [some (.ref 0), some (.int (iz lo)), some (.int (iz hi)), some (.int (iz (sg n b (sks n b a)))), some (.int (iz ((sg n b (sks n b a)) - 48)))]) (st' := [.int (iz 1), .int (iz ((sks n b a) + 1)), .ref 0]) (h' := cmH (u1 (u1 (u1 (u1 z 8 bg) 9 n) 10 ((sks n b a) + 1)) 11 (-1)) zl f fl 1) rfl ?_
          refine Rx.isub rfl ?_
          refine Rx.walk 2 (pc' := 108) (L' := [some (.ref 0), some (.int (iz lo)), some (.int (iz hi)), some (.int (iz (sg n b (sks n b a)))), some (.int (iz ((sg n b (sks n b a)) - 48)))]) (st' := [.ref 0]) (h' := cmH (u1 (u1 (u1 (u1 z 8 bg) 9 n) 10 (((sks n b a) + 1) - 1)) 11 (-1)) zl f fl 1) rfl ?_
          refine Rx.callx (m' := m_X12_fails) (as := [.ref 0]) (rest := []) rfl (r_failsN _ (u1 (u1 (u1 (u1 z 8 bg) 9 n) 10 (((sks n b a) + 1) - 1)) 11 (-1)) zl f fl 1) (fun v25 h26 q27 => ?_)
          obtain ⟨rfl, rfl⟩ := q27
          refine Rx.walk 0 (pc' := 111) (L' := [some (.ref 0), some (.int (iz lo)), some (.int (iz hi)), some (.int (iz (sg n b (sks n b a)))), some (.int (iz ((sg n b (sks n b a)) - 48)))]) (st' := [.int (iz 0)]) (h' := cmH (u1 (u1 (u1 (u1 z 8 bg) 9 n) 10 (((sks n b a) + 1) - 1)) 11 (((sks n b a) + 1) - 1)) zl f fl 1) rfl ?_
          refine Rx.walk 2 (pc' := 113) (L' := [some (.ref 0), some (.int (iz lo)), some (.int (iz hi)), some (.int (iz (sg n b (sks n b a)))), some (.int (iz ((sg n b (sks n b a)) - 48)))]) (st' := [.int (iz (-1))]) (h' := cmH (u1 (u1 (u1 (u1 z 8 bg) 9 n) 10 (((sks n b a) + 1) - 1)) 11 (((sks n b a) + 1) - 1)) zl f fl 1) rfl ?_
          refine Rx.ret rfl ?_
          have e1 := b8
          have e2 := isD_t.mp e1
          skip
          have e3 : isD n b ((sks n b a) + 1) = false := b16
          have ed : (dg n b 2 (sks n b a) 0) = ((sks n b a) + 1, 10 * 0 + b (sks n b a) - 48) := by rw [dg_t e1, dg_f e3]
          have e6 : sg n b (sks n b a) = b (sks n b a) := sg_lt (by omega)
          have e7 : isD n b ((sks n b a) + 1) = false := by exact b20
          have e8 := of_decide_eq_false b24
          rw [show nmP n b lo hi a = (((sks n b a) + 1) - 1, none) by unfold nmP; rw [if_pos e1, ed, if_neg (by rw [e7]; decide), if_neg (show ¬ (lo ≤ (10 * 0 + b (sks n b a) - 48) ∧ (10 * 0 + b (sks n b a) - 48) ≤ hi) by omega)]]
          exact Or.inr ⟨rfl, rfl, rfl⟩
      · refine Rx.walk 1 (pc' := 78) (L' := [some (.ref 0), some (.int (iz lo)), some (.int (iz hi)), some (.int (iz (sg n b (sks n b a)))), some (.int (iz ((sg n b (sks n b a)) - 48)))]) (st' := [.ref 0]) (h' := cmH (u1 (u1 (u1 (u1 z 8 bg) 9 n) 10 ((sks n b a) + 1)) 11 (-1)) zl f fl 1) rfl ?_
        refine Rx.callx (m' := m_X12_fails) (as := [.ref 0]) (rest := []) rfl (r_failsN _ (u1 (u1 (u1 (u1 z 8 bg) 9 n) 10 ((sks n b a) + 1)) 11 (-1)) zl f fl 1) (fun v28 h29 q30 => ?_)
        obtain ⟨rfl, rfl⟩ := q30
        refine Rx.walk 0 (pc' := 81) (L' := [some (.ref 0), some (.int (iz lo)), some (.int (iz hi)), some (.int (iz (sg n b (sks n b a)))), some (.int (iz ((sg n b (sks n b a)) - 48)))]) (st' := [.int (iz 0)]) (h' := cmH (u1 (u1 (u1 (u1 z 8 bg) 9 n) 10 ((sks n b a) + 1)) 11 ((sks n b a) + 1)) zl f fl 1) rfl ?_
        refine Rx.walk 2 (pc' := 83) (L' := [some (.ref 0), some (.int (iz lo)), some (.int (iz hi)), some (.int (iz (sg n b (sks n b a)))), some (.int (iz ((sg n b (sks n b a)) - 48)))]) (st' := [.int (iz (-1))]) (h' := cmH (u1 (u1 (u1 (u1 z 8 bg) 9 n) 10 ((sks n b a) + 1)) 11 ((sks n b a) + 1)) zl f fl 1) rfl ?_
        refine Rx.ret rfl ?_
        have e1 := b8
        have e2 := isD_t.mp e1
        skip
        have e3 : isD n b ((sks n b a) + 1) = false := b16
        have ed : (dg n b 2 (sks n b a) 0) = ((sks n b a) + 1, 10 * 0 + b (sks n b a) - 48) := by rw [dg_t e1, dg_f e3]
        have e6 : sg n b (sks n b a) = b (sks n b a) := sg_lt (by omega)
        rw [show nmP n b lo hi a = (((sks n b a) + 1), none) by unfold nmP; rw [if_pos e1, ed, if_pos (show isD n b ((sks n b a) + 1) = true by exact b20)]]
        exact Or.inr ⟨rfl, rfl, rfl⟩
    · have f2 := isD_t.mp b16
      refine Rx.walk 2 (pc' := 49) (L' := [some (.ref 0), some (.int (iz lo)), some (.int (iz hi)), some (.int (iz (sg n b (sks n b a)))), some (.int (iz ((sg n b (sks n b a)) - 48)))]) (st' := [.int (iz ((sg n b (sks n b a)) - 48)), .int (iz 10)]) (h' := cmH (u1 (u1 (u1 (u1 z 8 bg) 9 n) 10 ((sks n b a) + 1)) 11 (-1)) zl f fl 1) rfl ?_
      refine Rx.imul rfl ?_
      refine Rx.walk 1 (pc' := 51) (L' := [some (.ref 0), some (.int (iz lo)), some (.int (iz hi)), some (.int (iz (sg n b (sks n b a)))), some (.int (iz ((sg n b (sks n b a)) - 48)))]) (st' := [.ref 0, .int (iz (10 * ((sg n b (sks n b a)) - 48)))]) (h' := cmH (u1 (u1 (u1 (u1 z 8 bg) 9 n) 10 ((sks n b a) + 1)) 11 (-1)) zl f fl 1) rfl ?_
      refine Rx.callx (m' := m_X12_here) (as := [.ref 0]) (rest := [.int (iz (10 * ((sg n b (sks n b a)) - 48)))]) rfl (r_here1 _ (u1 (u1 (u1 (u1 z 8 bg) 9 n) 10 ((sks n b a) + 1)) 11 (-1)) zl f fl n ((sks n b a) + 1) bg (-1) b hT hM (by omega) (by omega)) (fun v32 h33 q34 => ?_)
      obtain ⟨rfl, rfl⟩ := q34
      have k31 := sg_bI hT (a := ((sks n b a) + 1)) (by omega)
      refine Rx.walk 0 (pc' := 54) (L' := [some (.ref 0), some (.int (iz lo)), some (.int (iz hi)), some (.int (iz (sg n b (sks n b a)))), some (.int (iz ((sg n b (sks n b a)) - 48)))]) (st' := [.int (iz (sg n b ((sks n b a) + 1))), .int (iz (10 * ((sg n b (sks n b a)) - 48)))]) (h' := cmH (u1 (u1 (u1 (u1 z 8 bg) 9 n) 10 ((sks n b a) + 1)) 11 (-1)) zl f fl 1) rfl ?_
      refine Rx.iadd rfl ?_
      refine Rx.walk 1 (pc' := 57) (L' := [some (.ref 0), some (.int (iz lo)), some (.int (iz hi)), some (.int (iz (sg n b (sks n b a)))), some (.int (iz ((sg n b (sks n b a)) - 48)))]) (st' := [.int (iz 48), .int (iz ((10 * ((sg n b (sks n b a)) - 48)) + (sg n b ((sks n b a) + 1))))]) (h' := cmH (u1 (u1 (u1 (u1 z 8 bg) 9 n) 10 ((sks n b a) + 1)) 11 (-1)) zl f fl 1) rfl ?_
      refine Rx.isub rfl ?_
      refine Rx.walk 5 (pc' := 66) (L' := [some (.ref 0), some (.int (iz lo)), some (.int (iz hi)), some (.int (iz (sg n b (sks n b a)))), some (.int (iz (((10 * ((sg n b (sks n b a)) - 48)) + (sg n b ((sks n b a) + 1))) - 48)))]) (st' := [.int (iz 1), .int (iz ((sks n b a) + 1)), .ref 0]) (h' := cmH (u1 (u1 (u1 (u1 z 8 bg) 9 n) 10 ((sks n b a) + 1)) 11 (-1)) zl f fl 1) rfl ?_
      refine Rx.iadd rfl ?_
      refine Rx.walk 2 (pc' := 71) (L' := [some (.ref 0), some (.int (iz lo)), some (.int (iz hi)), some (.int (iz (sg n b (sks n b a)))), some (.int (iz (((10 * ((sg n b (sks n b a)) - 48)) + (sg n b ((sks n b a) + 1))) - 48)))]) (st' := [.ref 0]) (h' := cmH (u1 (u1 (u1 (u1 z 8 bg) 9 n) 10 (((sks n b a) + 1) + 1)) 11 (-1)) zl f fl 1) rfl ?_
      refine Rx.callx (m' := m_X12_isDigit) (as := [.ref 0]) (rest := []) rfl (r_isDigit1 _ (u1 (u1 (u1 (u1 z 8 bg) 9 n) 10 (((sks n b a) + 1) + 1)) 11 (-1)) zl f fl n (((sks n b a) + 1) + 1) bg (-1) b hT hM (by omega) (by omega)) (fun v35 h36 q37 => ?_)
      obtain ⟨rfl, rfl⟩ := q37
      refine Rx.walk 0 (pc' := 74) (L' := [some (.ref 0), some (.int (iz lo)), some (.int (iz hi)), some (.int (iz (sg n b (sks n b a)))), some (.int (iz (((10 * ((sg n b (sks n b a)) - 48)) + (sg n b ((sks n b a) + 1))) - 48)))]) (st' := [.int (iz (bz (isD n b (((sks n b a) + 1) + 1))))]) (h' := cmH (u1 (u1 (u1 (u1 z 8 bg) 9 n) 10 (((sks n b a) + 1) + 1)) 11 (-1)) zl f fl 1) rfl ?_
      refine Rx.eqb rfl rfl (fun b38 => ?_) (fun b38 => ?_)
      · refine Rx.walk 1 (pc' := 86) (L' := [some (.ref 0), some (.int (iz lo)), some (.int (iz hi)), some (.int (iz (sg n b (sks n b a)))), some (.int (iz (((10 * ((sg n b (sks n b a)) - 48)) + (sg n b ((sks n b a) + 1))) - 48)))]) (st' := [.int (iz (((10 * ((sg n b (sks n b a)) - 48)) + (sg n b ((sks n b a) + 1))) - 48))]) (h' := cmH (u1 (u1 (u1 (u1 z 8 bg) 9 n) 10 (((sks n b a) + 1) + 1)) 11 (-1)) zl f fl 1) rfl ?_
        refine Rx.i2l rfl ⟨by omega, by omega⟩ ?_
        refine Rx.walk 1 (pc' := 88) (L' := [some (.ref 0), some (.int (iz lo)), some (.int (iz hi)), some (.int (iz (sg n b (sks n b a)))), some (.int (iz (((10 * ((sg n b (sks n b a)) - 48)) + (sg n b ((sks n b a) + 1))) - 48)))]) (st' := [.int (iz lo), .long (jz (((10 * ((sg n b (sks n b a)) - 48)) + (sg n b ((sks n b a) + 1))) - 48))]) (h' := cmH (u1 (u1 (u1 (u1 z 8 bg) 9 n) 10 (((sks n b a) + 1) + 1)) 11 (-1)) zl f fl 1) rfl ?_
        refine Rx.i2l rfl ⟨by omega, by omega⟩ ?_
        refine Rx.walk 1 (pc' := 90) (L' := [some (.ref 0), some (.int (iz lo)), some (.int (iz hi)), some (.int (iz (sg n b (sks n b a)))), some (.int (iz (((10 * ((sg n b (sks n b a)) - 48)) + (sg n b ((sks n b a) + 1))) - 48)))]) (st' := [.int (iz hi), .long (jz lo), .long (jz (((10 * ((sg n b (sks n b a)) - 48)) + (sg n b ((sks n b a) + 1))) - 48))]) (h' := cmH (u1 (u1 (u1 (u1 z 8 bg) 9 n) 10 (((sks n b a) + 1) + 1)) 11 (-1)) zl f fl 1) rfl ?_
        refine Rx.i2l rfl ⟨by omega, by omega⟩ ?_
        refine Rx.callx (m' := m_X12_isIn) (as := [.long (jz (((10 * ((sg n b (sks n b a)) - 48)) + (sg n b ((sks n b a) + 1))) - 48)), .long (jz lo), .long (jz hi)]) (rest := []) rfl (r_isIn _ _ (((10 * ((sg n b (sks n b a)) - 48)) + (sg n b ((sks n b a) + 1))) - 48) lo hi ⟨by omega, by omega⟩ ⟨by omega, by omega⟩ ⟨by omega, by omega⟩) (fun v39 h40 q41 => ?_)
        obtain ⟨rfl, rfl⟩ := q41
        refine Rx.walk 0 (pc' := 94) (L' := [some (.ref 0), some (.int (iz lo)), some (.int (iz hi)), some (.int (iz (sg n b (sks n b a)))), some (.int (iz (((10 * ((sg n b (sks n b a)) - 48)) + (sg n b ((sks n b a) + 1))) - 48)))]) (st' := [.int (iz (bz (decide (lo ≤ (((10 * ((sg n b (sks n b a)) - 48)) + (sg n b ((sks n b a) + 1))) - 48) ∧ (((10 * ((sg n b (sks n b a)) - 48)) + (sg n b ((sks n b a) + 1))) - 48) ≤ hi))))]) (h' := cmH (u1 (u1 (u1 (u1 z 8 bg) 9 n) 10 (((sks n b a) + 1) + 1)) 11 (-1)) zl f fl 1) rfl ?_
        refine Rx.neb rfl rfl (fun b42 => ?_) (fun b42 => ?_)
        · refine Rx.walk 1 (pc' := 116) (L' := [some (.ref 0), some (.int (iz lo)), some (.int (iz hi)), some (.int (iz (sg n b (sks n b a)))), some (.int (iz (((10 * ((sg n b (sks n b a)) - 48)) + (sg n b ((sks n b a) + 1))) - 48)))]) (st' := [.int (iz (((10 * ((sg n b (sks n b a)) - 48)) + (sg n b ((sks n b a) + 1))) - 48))]) (h' := cmH (u1 (u1 (u1 (u1 z 8 bg) 9 n) 10 (((sks n b a) + 1) + 1)) 11 (-1)) zl f fl 1) rfl ?_
          refine Rx.ret rfl ?_
          have e1 := b8
          have e2 := isD_t.mp e1
          skip
          have e3 : isD n b ((sks n b a) + 1) = true := b16
          have e4 := isD_t.mp e3
          have ed : (dg n b 2 (sks n b a) 0) = ((sks n b a) + 2, 10 * (10 * 0 + b (sks n b a) - 48) + b ((sks n b a) + 1) - 48) := by rw [dg_t e1, dg_t e3, show (sks n b a) + 1 + 1 = (sks n b a) + 2 by omega]; rfl
          have e5 : sg n b ((sks n b a) + 1) = b ((sks n b a) + 1) := sg_lt (by omega)
          have e6 : sg n b (sks n b a) = b (sks n b a) := sg_lt (by omega)
          have e7 : isD n b ((sks n b a) + 2) = false := by rw [show ((sks n b a) + 2) = (sks n b a) + 1 + 1 by omega]; exact b38
          have e8 := of_decide_eq_true b42
          rw [show nmP n b lo hi a = (((sks n b a) + 2), some (10 * (10 * 0 + b (sks n b a) - 48) + b ((sks n b a) + 1) - 48)) by unfold nmP; rw [if_pos e1, ed, if_neg (by rw [e7]; decide), if_pos (show lo ≤ (10 * (10 * 0 + b (sks n b a) - 48) + b ((sks n b a) + 1) - 48) ∧ (10 * (10 * 0 + b (sks n b a) - 48) + b ((sks n b a) + 1) - 48) ≤ hi by omega)]]
          exact Or.inl ⟨_, rfl, by rw [show (((10 * ((sg n b (sks n b a)) - 48)) + (sg n b ((sks n b a) + 1))) - 48) = (10 * (10 * 0 + b (sks n b a) - 48) + b ((sks n b a) + 1) - 48) by omega], by rw [show (sks n b a) + 1 + 1 = (sks n b a) + 2 by omega]⟩
        · refine Rx.walk 4 (pc' := 103) (L' := [some (.ref 0), some (.int (iz lo)), some (.int (iz hi)), some (.int (iz (sg n b (sks n b a)))), some (.int (iz (((10 * ((sg n b (sks n b a)) - 48)) + (sg n b ((sks n b a) + 1))) - 48)))]) (st' := [.int (iz 1), .int (iz (((sks n b a) + 1) + 1)), .ref 0]) (h' := cmH (u1 (u1 (u1 (u1 z 8 bg) 9 n) 10 (((sks n b a) + 1) + 1)) 11 (-1)) zl f fl 1) rfl ?_
          refine Rx.isub rfl ?_
          refine Rx.walk 2 (pc' := 108) (L' := [some (.ref 0), some (.int (iz lo)), some (.int (iz hi)), some (.int (iz (sg n b (sks n b a)))), some (.int (iz (((10 * ((sg n b (sks n b a)) - 48)) + (sg n b ((sks n b a) + 1))) - 48)))]) (st' := [.ref 0]) (h' := cmH (u1 (u1 (u1 (u1 z 8 bg) 9 n) 10 ((((sks n b a) + 1) + 1) - 1)) 11 (-1)) zl f fl 1) rfl ?_
          refine Rx.callx (m' := m_X12_fails) (as := [.ref 0]) (rest := []) rfl (r_failsN _ (u1 (u1 (u1 (u1 z 8 bg) 9 n) 10 ((((sks n b a) + 1) + 1) - 1)) 11 (-1)) zl f fl 1) (fun v43 h44 q45 => ?_)
          obtain ⟨rfl, rfl⟩ := q45
          refine Rx.walk 0 (pc' := 111) (L' := [some (.ref 0), some (.int (iz lo)), some (.int (iz hi)), some (.int (iz (sg n b (sks n b a)))), some (.int (iz (((10 * ((sg n b (sks n b a)) - 48)) + (sg n b ((sks n b a) + 1))) - 48)))]) (st' := [.int (iz 0)]) (h' := cmH (u1 (u1 (u1 (u1 z 8 bg) 9 n) 10 ((((sks n b a) + 1) + 1) - 1)) 11 ((((sks n b a) + 1) + 1) - 1)) zl f fl 1) rfl ?_
          refine Rx.walk 2 (pc' := 113) (L' := [some (.ref 0), some (.int (iz lo)), some (.int (iz hi)), some (.int (iz (sg n b (sks n b a)))), some (.int (iz (((10 * ((sg n b (sks n b a)) - 48)) + (sg n b ((sks n b a) + 1))) - 48)))]) (st' := [.int (iz (-1))]) (h' := cmH (u1 (u1 (u1 (u1 z 8 bg) 9 n) 10 ((((sks n b a) + 1) + 1) - 1)) 11 ((((sks n b a) + 1) + 1) - 1)) zl f fl 1) rfl ?_
          refine Rx.ret rfl ?_
          have e1 := b8
          have e2 := isD_t.mp e1
          skip
          have e3 : isD n b ((sks n b a) + 1) = true := b16
          have e4 := isD_t.mp e3
          have ed : (dg n b 2 (sks n b a) 0) = ((sks n b a) + 2, 10 * (10 * 0 + b (sks n b a) - 48) + b ((sks n b a) + 1) - 48) := by rw [dg_t e1, dg_t e3, show (sks n b a) + 1 + 1 = (sks n b a) + 2 by omega]; rfl
          have e5 : sg n b ((sks n b a) + 1) = b ((sks n b a) + 1) := sg_lt (by omega)
          have e6 : sg n b (sks n b a) = b (sks n b a) := sg_lt (by omega)
          have e7 : isD n b ((sks n b a) + 2) = false := by rw [show ((sks n b a) + 2) = (sks n b a) + 1 + 1 by omega]; exact b38
          have e8 := of_decide_eq_false b42
          rw [show nmP n b lo hi a = (((sks n b a) + 2) - 1, none) by unfold nmP; rw [if_pos e1, ed, if_neg (by rw [e7]; decide), if_neg (show ¬ (lo ≤ (10 * (10 * 0 + b (sks n b a) - 48) + b ((sks n b a) + 1) - 48) ∧ (10 * (10 * 0 + b (sks n b a) - 48) + b ((sks n b a) + 1) - 48) ≤ hi) by omega)]]
          exact Or.inr ⟨rfl, rfl, by rw [show (sks n b a) + 1 + 1 - 1 = (sks n b a) + 2 - 1 by omega]⟩
      · refine Rx.walk 1 (pc' := 78) (L' := [some (.ref 0), some (.int (iz lo)), some (.int (iz hi)), some (.int (iz (sg n b (sks n b a)))), some (.int (iz (((10 * ((sg n b (sks n b a)) - 48)) + (sg n b ((sks n b a) + 1))) - 48)))]) (st' := [.ref 0]) (h' := cmH (u1 (u1 (u1 (u1 z 8 bg) 9 n) 10 (((sks n b a) + 1) + 1)) 11 (-1)) zl f fl 1) rfl ?_
        refine Rx.callx (m' := m_X12_fails) (as := [.ref 0]) (rest := []) rfl (r_failsN _ (u1 (u1 (u1 (u1 z 8 bg) 9 n) 10 (((sks n b a) + 1) + 1)) 11 (-1)) zl f fl 1) (fun v46 h47 q48 => ?_)
        obtain ⟨rfl, rfl⟩ := q48
        refine Rx.walk 0 (pc' := 81) (L' := [some (.ref 0), some (.int (iz lo)), some (.int (iz hi)), some (.int (iz (sg n b (sks n b a)))), some (.int (iz (((10 * ((sg n b (sks n b a)) - 48)) + (sg n b ((sks n b a) + 1))) - 48)))]) (st' := [.int (iz 0)]) (h' := cmH (u1 (u1 (u1 (u1 z 8 bg) 9 n) 10 (((sks n b a) + 1) + 1)) 11 (((sks n b a) + 1) + 1)) zl f fl 1) rfl ?_
        refine Rx.walk 2 (pc' := 83) (L' := [some (.ref 0), some (.int (iz lo)), some (.int (iz hi)), some (.int (iz (sg n b (sks n b a)))), some (.int (iz (((10 * ((sg n b (sks n b a)) - 48)) + (sg n b ((sks n b a) + 1))) - 48)))]) (st' := [.int (iz (-1))]) (h' := cmH (u1 (u1 (u1 (u1 z 8 bg) 9 n) 10 (((sks n b a) + 1) + 1)) 11 (((sks n b a) + 1) + 1)) zl f fl 1) rfl ?_
        refine Rx.ret rfl ?_
        have e1 := b8
        have e2 := isD_t.mp e1
        skip
        have e3 : isD n b ((sks n b a) + 1) = true := b16
        have e4 := isD_t.mp e3
        have ed : (dg n b 2 (sks n b a) 0) = ((sks n b a) + 2, 10 * (10 * 0 + b (sks n b a) - 48) + b ((sks n b a) + 1) - 48) := by rw [dg_t e1, dg_t e3, show (sks n b a) + 1 + 1 = (sks n b a) + 2 by omega]; rfl
        have e5 : sg n b ((sks n b a) + 1) = b ((sks n b a) + 1) := sg_lt (by omega)
        have e6 : sg n b (sks n b a) = b (sks n b a) := sg_lt (by omega)
        rw [show nmP n b lo hi a = (((sks n b a) + 2), none) by unfold nmP; rw [if_pos e1, ed, if_pos (show isD n b ((sks n b a) + 2) = true by rw [show ((sks n b a) + 2) = (sks n b a) + 1 + 1 by omega]; exact b38)]]
        exact Or.inr ⟨rfl, rfl, by rw [show (sks n b a) + 1 + 1 = (sks n b a) + 2 by omega]⟩
  · refine Rx.walk 1 (pc' := 13) (L' := [some (.ref 0), some (.int (iz lo)), some (.int (iz hi)), some (.int (iz (sg n b (sks n b a)))), none]) (st' := [.ref 0]) (h' := cmH (u1 (u1 (u1 (u1 z 8 bg) 9 n) 10 (sks n b a)) 11 (-1)) zl f fl 1) rfl ?_
    refine Rx.callx (m' := m_X12_fails) (as := [.ref 0]) (rest := []) rfl (r_failsN _ (u1 (u1 (u1 (u1 z 8 bg) 9 n) 10 (sks n b a)) 11 (-1)) zl f fl 1) (fun v49 h50 q51 => ?_)
    obtain ⟨rfl, rfl⟩ := q51
    refine Rx.walk 0 (pc' := 16) (L' := [some (.ref 0), some (.int (iz lo)), some (.int (iz hi)), some (.int (iz (sg n b (sks n b a)))), none]) (st' := [.int (iz 0)]) (h' := cmH (u1 (u1 (u1 (u1 z 8 bg) 9 n) 10 (sks n b a)) 11 (sks n b a)) zl f fl 1) rfl ?_
    refine Rx.walk 2 (pc' := 18) (L' := [some (.ref 0), some (.int (iz lo)), some (.int (iz hi)), some (.int (iz (sg n b (sks n b a)))), none]) (st' := [.int (iz (-1))]) (h' := cmH (u1 (u1 (u1 (u1 z 8 bg) 9 n) 10 (sks n b a)) 11 (sks n b a)) zl f fl 1) rfl ?_
    refine Rx.ret rfl ?_
    rw [show nmP n b lo hi a = ((sks n b a), none) by unfold nmP; rw [if_neg (by rw [b8]; decide)]]
    exact Or.inr ⟨rfl, rfl, rfl⟩

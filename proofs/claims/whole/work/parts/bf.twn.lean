/-! by, run, worst, day, best, mean where no customer is told (printed by wip/whole/gentwn.py) -/
set_option maxRecDepth 100000 in
set_option maxHeartbeats 4000000 in
theorem x_by0 (d : Nat) (z : Nat → Nat → Int) (f : Nat → Int → Int) (C : Nat → CuR) (T : Nat → TsR) (rc : Nat → Nat) (tl : AmH)  (ri : Int) (ci : Int) (Rn : Int) (M : Int) (hri : bI ri) (hci : bI ci) (hM0 : M = 0) (hRn : 0 ≤ Rn ∧ Rn ≤ 4) : Rx (d + 3) m_X11_by 0 (am_ent [.ref 0, .int (iz ri), .int (iz ci)] 4) [] (cxW (u2 (u2 z 0 6 M) 0 8 Rn) f C T rc tl) (fun rv h => ∃ r : Int, rv = some (.int (iz r)) ∧ h = cxW (u2 (u2 z 0 6 M) 0 8 Rn) f C T rc tl ∧ r = -1) := by
  obtain ⟨hri1, hri2⟩ := id hri
  obtain ⟨hci1, hci2⟩ := id hci
  refine Rx.walk 0 (pc' := 0) (L' := [some (.ref 0), some (.int (iz ri)), some (.int (iz ci)), none]) (st' := []) (h' := cxW (u2 (u2 z 0 6 M) 0 8 Rn) f C T rc tl) rfl ?_
  refine Rx.walk 2 (pc' := 2) (L' := [some (.ref 0), some (.int (iz ri)), some (.int (iz ci)), none]) (st' := [.int (iz ri), .ref 0]) (h' := cxW (u2 (u2 z 0 6 M) 0 8 Rn) f C T rc tl) rfl ?_
  refine Rx.callx (m' := m_X11_isRule) (as := [.ref 0, .int (iz ri)]) (rest := []) rfl (x_isRule _ (u2 z 0 6 M) f C T rc tl  ri Rn hRn hri) (fun v3 h4 q5 => ?_)
  obtain ⟨r_1, rfl, rfl, f2⟩ := q5
  refine Rx.walk 0 (pc' := 5) (L' := [some (.ref 0), some (.int (iz ri)), some (.int (iz ci)), none]) (st' := [.int (iz r_1)]) (h' := cxW (u2 (u2 z 0 6 M) 0 8 Rn) f C T rc tl) rfl ?_
  refine Rx.eq1 rfl rfl ⟨by omega, by omega⟩ (fun b6 => ?_) (fun b6 => ?_)
  · refine Rx.walk 1 (pc' := 17) (L' := [some (.ref 0), some (.int (iz ri)), some (.int (iz ci)), none]) (st' := [.int (iz (-1))]) (h' := cxW (u2 (u2 z 0 6 M) 0 8 Rn) f C T rc tl) rfl ?_
    refine Rx.ret rfl ?_
    exact ⟨_, rfl, rfl, rfl⟩
  · refine Rx.walk 2 (pc' := 10) (L' := [some (.ref 0), some (.int (iz ri)), some (.int (iz ci)), none]) (st' := [.int (iz ci), .ref 0]) (h' := cxW (u2 (u2 z 0 6 M) 0 8 Rn) f C T rc tl) rfl ?_
    refine Rx.callx (m' := m_X11_isCustomer) (as := [.ref 0, .int (iz ci)]) (rest := []) rfl (x_isCust _ (u2 z 0 8 Rn) f C T rc tl  ci M ⟨by omega, by omega⟩ hci) (fun v9 h10 q11 => ?_)
    obtain ⟨r_7, rfl, rfl, f8⟩ := q11
    refine Rx.walk 0 (pc' := 13) (L' := [some (.ref 0), some (.int (iz ri)), some (.int (iz ci)), none]) (st' := [.int (iz r_7)]) (h' := cxW (u2 (u2 z 0 6 M) 0 8 Rn) f C T rc tl) rfl ?_
    refine Rx.ne1 rfl rfl ⟨by omega, by omega⟩ (fun b12 => by omega) (fun b12 => ?_)
    refine Rx.walk 1 (pc' := 17) (L' := [some (.ref 0), some (.int (iz ri)), some (.int (iz ci)), none]) (st' := [.int (iz (-1))]) (h' := cxW (u2 (u2 z 0 6 M) 0 8 Rn) f C T rc tl) rfl ?_
    refine Rx.ret rfl ?_
    exact ⟨_, rfl, rfl, rfl⟩
set_option maxRecDepth 100000 in
set_option maxHeartbeats 4000000 in
theorem x_run0 (d : Nat) (z : Nat → Nat → Int) (f : Nat → Int → Int) (C : Nat → CuR) (T : Nat → TsR) (rc : Nat → Nat) (tl : AmH)  (ri : Int) (row : Int) (osz : Int) (who : Int → Int) (Rn : Int) (M : Int) (hri : bI ri) (hrow : bI row) (hM0 : M = 0) (hRn : 0 ≤ Rn ∧ Rn ≤ 4) : Rx (d + 3) m_X11_run 0 (am_ent [.ref 0, .int (iz ri), .int (iz row)] 3) [] (cxW (u2 (u2 (u2 z 0 6 M) 0 8 Rn) 95 1 osz) (uf f 96 who) C T rc tl) (fun rv h => ∃ r : Int, ∃ osz' : Int, ∃ who' : Int → Int, rv = some (.int (iz r)) ∧ h = cxW (u2 (u2 (u2 z 0 6 M) 0 8 Rn) 95 1 osz') (uf f 96 who') C T rc tl ∧ r = -1) := by
  obtain ⟨hri1, hri2⟩ := id hri
  obtain ⟨hrow1, hrow2⟩ := id hrow
  refine Rx.walk 0 (pc' := 0) (L' := [some (.ref 0), some (.int (iz ri)), some (.int (iz row))]) (st' := []) (h' := cxW (u2 (u2 (u2 z 0 6 M) 0 8 Rn) 95 1 osz) (uf f 96 who) C T rc tl) rfl ?_
  refine Rx.walk 2 (pc' := 2) (L' := [some (.ref 0), some (.int (iz ri)), some (.int (iz row))]) (st' := [.int (iz ri), .ref 0]) (h' := cxW (u2 (u2 (u2 z 0 6 M) 0 8 Rn) 95 1 osz) (uf f 96 who) C T rc tl) rfl ?_
  refine Rx.callx (m' := m_X11_isRule) (as := [.ref 0, .int (iz ri)]) (rest := []) rfl (x_isRule _ (u2 (u2 z 0 6 M) 95 1 osz) (uf f 96 who) C T rc tl  ri Rn hRn hri) (fun v3 h4 q5 => ?_)
  obtain ⟨r_1, rfl, rfl, f2⟩ := q5
  refine Rx.walk 0 (pc' := 5) (L' := [some (.ref 0), some (.int (iz ri)), some (.int (iz row))]) (st' := [.int (iz r_1)]) (h' := cxW (u2 (u2 (u2 z 0 6 M) 0 8 Rn) 95 1 osz) (uf f 96 who) C T rc tl) rfl ?_
  refine Rx.eq1 rfl rfl ⟨by omega, by omega⟩ (fun b6 => ?_) (fun b6 => ?_)
  · refine Rx.walk 1 (pc' := 24) (L' := [some (.ref 0), some (.int (iz ri)), some (.int (iz row))]) (st' := [.int (iz (-1))]) (h' := cxW (u2 (u2 (u2 z 0 6 M) 0 8 Rn) 95 1 osz) (uf f 96 who) C T rc tl) rfl ?_
    refine Rx.ret rfl ?_
    exact ⟨_, _, _, rfl, rfl, rfl⟩
  · refine Rx.walk 5 (pc' := 17) (L' := [some (.ref 0), some (.int (iz ri)), some (.int (iz row))]) (st' := [.int (iz M), .int (iz row), .ref 95]) (h' := cxW (u2 (u2 (u2 z 0 6 M) 0 8 Rn) 95 1 osz) (uf f 96 who) C T rc tl) rfl ?_
    refine Rx.callx (m' := m_X3_reads) (as := [.ref 95, .int (iz row), .int (iz M)]) (rest := []) rfl (x_oreads _ (u2 (u2 z 0 6 M) 0 8 Rn) f C T rc tl  row M osz who hrow ⟨by omega, by omega⟩) (fun v10 h11 q12 => ?_)
    obtain ⟨r_7, who_8, rfl, rfl, f9⟩ := q12
    refine Rx.walk 0 (pc' := 20) (L' := [some (.ref 0), some (.int (iz ri)), some (.int (iz row))]) (st' := [.int (iz r_7)]) (h' := cxW (u2 (u2 (u2 z 0 6 M) 0 8 Rn) 95 1 M) (uf f 96 who_8) C T rc tl) rfl ?_
    have hr0 : r_7 = 0 := by rcases f9 with q | q; (exfalso; have := q.2.1.1; omega); exact q.1
    refine Rx.ne1 rfl rfl ⟨by omega, by omega⟩ (fun b13 => by omega) (fun b13 => ?_)
    refine Rx.walk 1 (pc' := 24) (L' := [some (.ref 0), some (.int (iz ri)), some (.int (iz row))]) (st' := [.int (iz (-1))]) (h' := cxW (u2 (u2 (u2 z 0 6 M) 0 8 Rn) 95 1 M) (uf f 96 who_8) C T rc tl) rfl ?_
    refine Rx.ret rfl ?_
    exact ⟨_, _, _, rfl, rfl, rfl⟩
set_option maxRecDepth 100000 in
set_option maxHeartbeats 4000000 in
theorem x_worst0 (d : Nat) (z : Nat → Nat → Int) (f : Nat → Int → Int) (C : Nat → CuR) (T : Nat → TsR) (rc : Nat → Nat) (tl : AmH)  (ri : Int) (wh : Int) (Rn : Int) (M : Int) (hri : bI ri) (hwh : bI wh) (hM0 : M = 0) (hRn : 0 ≤ Rn ∧ Rn ≤ 4) : Rx (d + 3) m_X11_worst 0 (am_ent [.ref 0, .int (iz ri), .int (iz wh)] 7) [] (cxW (u2 (u2 z 0 6 M) 0 8 Rn) f C T rc tl) (fun rv h => ∃ r : Int, rv = some (.int (iz r)) ∧ h = cxW (u2 (u2 z 0 6 M) 0 8 Rn) f C T rc tl ∧ r = -1) := by
  obtain ⟨hri1, hri2⟩ := id hri
  obtain ⟨hwh1, hwh2⟩ := id hwh
  refine Rx.walk 0 (pc' := 0) (L' := [some (.ref 0), some (.int (iz ri)), some (.int (iz wh)), none, none, none, none]) (st' := []) (h' := cxW (u2 (u2 z 0 6 M) 0 8 Rn) f C T rc tl) rfl ?_
  refine Rx.walk 2 (pc' := 2) (L' := [some (.ref 0), some (.int (iz ri)), some (.int (iz wh)), none, none, none, none]) (st' := [.int (iz ri), .ref 0]) (h' := cxW (u2 (u2 z 0 6 M) 0 8 Rn) f C T rc tl) rfl ?_
  refine Rx.callx (m' := m_X11_isRule) (as := [.ref 0, .int (iz ri)]) (rest := []) rfl (x_isRule _ (u2 z 0 6 M) f C T rc tl  ri Rn hRn hri) (fun v3 h4 q5 => ?_)
  obtain ⟨r_1, rfl, rfl, f2⟩ := q5
  refine Rx.walk 0 (pc' := 5) (L' := [some (.ref 0), some (.int (iz ri)), some (.int (iz wh)), none, none, none, none]) (st' := [.int (iz r_1)]) (h' := cxW (u2 (u2 z 0 6 M) 0 8 Rn) f C T rc tl) rfl ?_
  refine Rx.eq1 rfl rfl ⟨by omega, by omega⟩ (fun b6 => ?_) (fun b6 => ?_)
  · refine Rx.walk 1 (pc' := 25) (L' := [some (.ref 0), some (.int (iz ri)), some (.int (iz wh)), none, none, none, none]) (st' := [.int (iz (-1))]) (h' := cxW (u2 (u2 z 0 6 M) 0 8 Rn) f C T rc tl) rfl ?_
    refine Rx.ret rfl ?_
    exact ⟨_, rfl, rfl, rfl⟩
  · refine Rx.walk 1 (pc' := 9) (L' := [some (.ref 0), some (.int (iz ri)), some (.int (iz wh)), none, none, none, none]) (st' := [.int (iz wh)]) (h' := cxW (u2 (u2 z 0 6 M) 0 8 Rn) f C T rc tl) rfl ?_
    refine Rx.lt1 rfl rfl ⟨by omega, by omega⟩ (fun b7 => ?_) (fun b7 => ?_)
    · refine Rx.walk 1 (pc' := 25) (L' := [some (.ref 0), some (.int (iz ri)), some (.int (iz wh)), none, none, none, none]) (st' := [.int (iz (-1))]) (h' := cxW (u2 (u2 z 0 6 M) 0 8 Rn) f C T rc tl) rfl ?_
      refine Rx.ret rfl ?_
      exact ⟨_, rfl, rfl, rfl⟩
    · refine Rx.walk 2 (pc' := 14) (L' := [some (.ref 0), some (.int (iz ri)), some (.int (iz wh)), none, none, none, none]) (st' := [.int (iz 1), .int (iz wh)]) (h' := cxW (u2 (u2 z 0 6 M) 0 8 Rn) f C T rc tl) rfl ?_
      refine Rx.gt2 rfl rfl ⟨by omega, by omega⟩ ⟨by omega, by omega⟩ (fun b8 => ?_) (fun b8 => ?_)
      · refine Rx.walk 1 (pc' := 25) (L' := [some (.ref 0), some (.int (iz ri)), some (.int (iz wh)), none, none, none, none]) (st' := [.int (iz (-1))]) (h' := cxW (u2 (u2 z 0 6 M) 0 8 Rn) f C T rc tl) rfl ?_
        refine Rx.ret rfl ?_
        exact ⟨_, rfl, rfl, rfl⟩
      · refine Rx.walk 2 (pc' := 21) (L' := [some (.ref 0), some (.int (iz ri)), some (.int (iz wh)), none, none, none, none]) (st' := [.int (iz M)]) (h' := cxW (u2 (u2 z 0 6 M) 0 8 Rn) f C T rc tl) rfl ?_
        refine Rx.ne1 rfl rfl ⟨by omega, by omega⟩ (fun b9 => by omega) (fun b9 => ?_)
        refine Rx.walk 1 (pc' := 25) (L' := [some (.ref 0), some (.int (iz ri)), some (.int (iz wh)), none, none, none, none]) (st' := [.int (iz (-1))]) (h' := cxW (u2 (u2 z 0 6 M) 0 8 Rn) f C T rc tl) rfl ?_
        refine Rx.ret rfl ?_
        exact ⟨_, rfl, rfl, rfl⟩
set_option maxRecDepth 100000 in
set_option maxHeartbeats 4000000 in
theorem x_day0 (d : Nat) (z : Nat → Nat → Int) (f : Nat → Int → Int) (C : Nat → CuR) (T : Nat → TsR) (rc : Nat → Nat) (tl : AmH)  (ri : Int) (mn : Int) (sd : Int) (Rn : Int) (M : Int) (hri : bI ri) (hmn : bI mn) (hM0 : M = 0) (hRn : 0 ≤ Rn ∧ Rn ≤ 4) : Rx (d + 3) m_X11_day 0 (am_ent [.ref 0, .int (iz ri), .int (iz mn), .long (jz sd)] 5) [] (cxW (u2 (u2 z 0 6 M) 0 8 Rn) f C T rc tl) (fun rv h => ∃ r : Int, rv = some (.int (iz r)) ∧ h = cxW (u2 (u2 z 0 6 M) 0 8 Rn) f C T rc tl ∧ r = -1) := by
  obtain ⟨hri1, hri2⟩ := id hri
  obtain ⟨hmn1, hmn2⟩ := id hmn
  refine Rx.walk 0 (pc' := 0) (L' := [some (.ref 0), some (.int (iz ri)), some (.int (iz mn)), some (.long (jz sd)), none]) (st' := []) (h' := cxW (u2 (u2 z 0 6 M) 0 8 Rn) f C T rc tl) rfl ?_
  refine Rx.walk 2 (pc' := 2) (L' := [some (.ref 0), some (.int (iz ri)), some (.int (iz mn)), some (.long (jz sd)), none]) (st' := [.int (iz ri), .ref 0]) (h' := cxW (u2 (u2 z 0 6 M) 0 8 Rn) f C T rc tl) rfl ?_
  refine Rx.callx (m' := m_X11_isRule) (as := [.ref 0, .int (iz ri)]) (rest := []) rfl (x_isRule _ (u2 z 0 6 M) f C T rc tl  ri Rn hRn hri) (fun v3 h4 q5 => ?_)
  obtain ⟨r_1, rfl, rfl, f2⟩ := q5
  refine Rx.walk 0 (pc' := 5) (L' := [some (.ref 0), some (.int (iz ri)), some (.int (iz mn)), some (.long (jz sd)), none]) (st' := [.int (iz r_1)]) (h' := cxW (u2 (u2 z 0 6 M) 0 8 Rn) f C T rc tl) rfl ?_
  refine Rx.eq1 rfl rfl ⟨by omega, by omega⟩ (fun b6 => ?_) (fun b6 => ?_)
  · refine Rx.walk 1 (pc' := 27) (L' := [some (.ref 0), some (.int (iz ri)), some (.int (iz mn)), some (.long (jz sd)), none]) (st' := [.int (iz (-1))]) (h' := cxW (u2 (u2 z 0 6 M) 0 8 Rn) f C T rc tl) rfl ?_
    refine Rx.ret rfl ?_
    exact ⟨_, rfl, rfl, rfl⟩
  · refine Rx.walk 2 (pc' := 10) (L' := [some (.ref 0), some (.int (iz ri)), some (.int (iz mn)), some (.long (jz sd)), none]) (st' := [.int (iz 1), .int (iz mn)]) (h' := cxW (u2 (u2 z 0 6 M) 0 8 Rn) f C T rc tl) rfl ?_
    refine Rx.lt2 rfl rfl ⟨by omega, by omega⟩ ⟨by omega, by omega⟩ (fun b7 => ?_) (fun b7 => ?_)
    · refine Rx.walk 1 (pc' := 27) (L' := [some (.ref 0), some (.int (iz ri)), some (.int (iz mn)), some (.long (jz sd)), none]) (st' := [.int (iz (-1))]) (h' := cxW (u2 (u2 z 0 6 M) 0 8 Rn) f C T rc tl) rfl ?_
      refine Rx.ret rfl ?_
      exact ⟨_, rfl, rfl, rfl⟩
    · refine Rx.walk 2 (pc' := 16) (L' := [some (.ref 0), some (.int (iz ri)), some (.int (iz mn)), some (.long (jz sd)), none]) (st' := [.int (iz 60), .int (iz mn)]) (h' := cxW (u2 (u2 z 0 6 M) 0 8 Rn) f C T rc tl) rfl ?_
      refine Rx.gt2 rfl rfl ⟨by omega, by omega⟩ ⟨by omega, by omega⟩ (fun b8 => ?_) (fun b8 => ?_)
      · refine Rx.walk 1 (pc' := 27) (L' := [some (.ref 0), some (.int (iz ri)), some (.int (iz mn)), some (.long (jz sd)), none]) (st' := [.int (iz (-1))]) (h' := cxW (u2 (u2 z 0 6 M) 0 8 Rn) f C T rc tl) rfl ?_
        refine Rx.ret rfl ?_
        exact ⟨_, rfl, rfl, rfl⟩
      · refine Rx.walk 2 (pc' := 23) (L' := [some (.ref 0), some (.int (iz ri)), some (.int (iz mn)), some (.long (jz sd)), none]) (st' := [.int (iz M)]) (h' := cxW (u2 (u2 z 0 6 M) 0 8 Rn) f C T rc tl) rfl ?_
        refine Rx.ne1 rfl rfl ⟨by omega, by omega⟩ (fun b9 => by omega) (fun b9 => ?_)
        refine Rx.walk 1 (pc' := 27) (L' := [some (.ref 0), some (.int (iz ri)), some (.int (iz mn)), some (.long (jz sd)), none]) (st' := [.int (iz (-1))]) (h' := cxW (u2 (u2 z 0 6 M) 0 8 Rn) f C T rc tl) rfl ?_
        refine Rx.ret rfl ?_
        exact ⟨_, rfl, rfl, rfl⟩
set_option maxRecDepth 100000 in
set_option maxHeartbeats 4000000 in
theorem x_best0 (d : Nat) (z : Nat → Nat → Int) (f : Nat → Int → Int) (C : Nat → CuR) (T : Nat → TsR) (rc : Nat → Nat) (tl : AmH)  (row : Int) (mn : Int) (sd : Int) (osz : Int) (who : Int → Int) (Rn : Int) (M : Int) (hrow : bI row) (hmn : bI mn) (hM0 : M = 0) (hRn : 0 ≤ Rn ∧ Rn ≤ 4) : Rx (d + 3) m_X11_best 0 (am_ent [.ref 0, .int (iz row), .int (iz mn), .long (jz sd)] 11) [] (cxW (u2 (u2 (u2 z 0 6 M) 0 8 Rn) 95 1 osz) (uf f 96 who) C T rc tl) (fun rv h => ∃ r : Int, ∃ osz' : Int, ∃ who' : Int → Int, rv = some (.int (iz r)) ∧ h = cxW (u2 (u2 (u2 z 0 6 M) 0 8 Rn) 95 1 osz') (uf f 96 who') C T rc tl ∧ r = -1) := by
  obtain ⟨hrow1, hrow2⟩ := id hrow
  obtain ⟨hmn1, hmn2⟩ := id hmn
  refine Rx.walk 0 (pc' := 0) (L' := [some (.ref 0), some (.int (iz row)), some (.int (iz mn)), some (.long (jz sd)), none, none, none, none, none, none, none]) (st' := []) (h' := cxW (u2 (u2 (u2 z 0 6 M) 0 8 Rn) 95 1 osz) (uf f 96 who) C T rc tl) rfl ?_
  refine Rx.walk 1 (pc' := 1) (L' := [some (.ref 0), some (.int (iz row)), some (.int (iz mn)), some (.long (jz sd)), none, none, none, none, none, none, none]) (st' := [.int (iz mn)]) (h' := cxW (u2 (u2 (u2 z 0 6 M) 0 8 Rn) 95 1 osz) (uf f 96 who) C T rc tl) rfl ?_
  refine Rx.ne1 rfl rfl ⟨by omega, by omega⟩ (fun b1 => ?_) (fun b1 => ?_)
  · refine Rx.walk 4 (pc' := 28) (L' := [some (.ref 0), some (.int (iz row)), some (.int (iz mn)), some (.long (jz sd)), none, some (.int (iz 0)), none, none, none, none, none]) (st' := [.int (iz 1), .int (iz mn)]) (h' := cxW (u2 (u2 (u2 z 0 6 M) 0 8 Rn) 95 1 osz) (uf f 96 who) C T rc tl) rfl ?_
    refine Rx.lt2 rfl rfl ⟨by omega, by omega⟩ ⟨by omega, by omega⟩ (fun b2 => ?_) (fun b2 => ?_)
    · refine Rx.walk 3 (pc' := 58) (L' := [some (.ref 0), some (.int (iz row)), some (.int (iz mn)), some (.long (jz sd)), none, some (.int (iz 0)), some (.int (iz 0)), none, none, none, none]) (st' := [.int (iz 0)]) (h' := cxW (u2 (u2 (u2 z 0 6 M) 0 8 Rn) 95 1 osz) (uf f 96 who) C T rc tl) rfl ?_
      refine Rx.ne1 rfl rfl ⟨by omega, by omega⟩ (fun b3 => by omega) (fun b3 => ?_)
      refine Rx.walk 1 (pc' := 63) (L' := [some (.ref 0), some (.int (iz row)), some (.int (iz mn)), some (.long (jz sd)), none, some (.int (iz 0)), some (.int (iz 0)), none, none, none, none]) (st' := [.int (iz 0)]) (h' := cxW (u2 (u2 (u2 z 0 6 M) 0 8 Rn) 95 1 osz) (uf f 96 who) C T rc tl) rfl ?_
      refine Rx.ne1 rfl rfl ⟨by omega, by omega⟩ (fun b4 => by omega) (fun b4 => ?_)
      refine Rx.walk 1 (pc' := 67) (L' := [some (.ref 0), some (.int (iz row)), some (.int (iz mn)), some (.long (jz sd)), none, some (.int (iz 0)), some (.int (iz 0)), none, none, none, none]) (st' := [.int (iz (-1))]) (h' := cxW (u2 (u2 (u2 z 0 6 M) 0 8 Rn) 95 1 osz) (uf f 96 who) C T rc tl) rfl ?_
      refine Rx.ret rfl ?_
      exact ⟨_, _, _, rfl, rfl, rfl⟩
    · refine Rx.walk 2 (pc' := 34) (L' := [some (.ref 0), some (.int (iz row)), some (.int (iz mn)), some (.long (jz sd)), none, some (.int (iz 0)), none, none, none, none, none]) (st' := [.int (iz 60), .int (iz mn)]) (h' := cxW (u2 (u2 (u2 z 0 6 M) 0 8 Rn) 95 1 osz) (uf f 96 who) C T rc tl) rfl ?_
      refine Rx.gt2 rfl rfl ⟨by omega, by omega⟩ ⟨by omega, by omega⟩ (fun b5 => ?_) (fun b5 => ?_)
      · refine Rx.walk 3 (pc' := 58) (L' := [some (.ref 0), some (.int (iz row)), some (.int (iz mn)), some (.long (jz sd)), none, some (.int (iz 0)), some (.int (iz 0)), none, none, none, none]) (st' := [.int (iz 0)]) (h' := cxW (u2 (u2 (u2 z 0 6 M) 0 8 Rn) 95 1 osz) (uf f 96 who) C T rc tl) rfl ?_
        refine Rx.ne1 rfl rfl ⟨by omega, by omega⟩ (fun b6 => by omega) (fun b6 => ?_)
        refine Rx.walk 1 (pc' := 63) (L' := [some (.ref 0), some (.int (iz row)), some (.int (iz mn)), some (.long (jz sd)), none, some (.int (iz 0)), some (.int (iz 0)), none, none, none, none]) (st' := [.int (iz 0)]) (h' := cxW (u2 (u2 (u2 z 0 6 M) 0 8 Rn) 95 1 osz) (uf f 96 who) C T rc tl) rfl ?_
        refine Rx.ne1 rfl rfl ⟨by omega, by omega⟩ (fun b7 => by omega) (fun b7 => ?_)
        refine Rx.walk 1 (pc' := 67) (L' := [some (.ref 0), some (.int (iz row)), some (.int (iz mn)), some (.long (jz sd)), none, some (.int (iz 0)), some (.int (iz 0)), none, none, none, none]) (st' := [.int (iz (-1))]) (h' := cxW (u2 (u2 (u2 z 0 6 M) 0 8 Rn) 95 1 osz) (uf f 96 who) C T rc tl) rfl ?_
        refine Rx.ret rfl ?_
        exact ⟨_, _, _, rfl, rfl, rfl⟩
      · refine Rx.walk 2 (pc' := 39) (L' := [some (.ref 0), some (.int (iz row)), some (.int (iz mn)), some (.long (jz sd)), none, some (.int (iz 0)), none, none, none, none, none]) (st' := [.int (iz (-1)), .int (iz row)]) (h' := cxW (u2 (u2 (u2 z 0 6 M) 0 8 Rn) 95 1 osz) (uf f 96 who) C T rc tl) rfl ?_
        refine Rx.ne2 rfl rfl ⟨by omega, by omega⟩ ⟨by omega, by omega⟩ (fun b8 => ?_) (fun b8 => ?_)
        · refine Rx.walk 3 (pc' := 58) (L' := [some (.ref 0), some (.int (iz row)), some (.int (iz mn)), some (.long (jz sd)), none, some (.int (iz 0)), some (.int (iz 0)), none, none, none, none]) (st' := [.int (iz 0)]) (h' := cxW (u2 (u2 (u2 z 0 6 M) 0 8 Rn) 95 1 osz) (uf f 96 who) C T rc tl) rfl ?_
          refine Rx.ne1 rfl rfl ⟨by omega, by omega⟩ (fun b9 => by omega) (fun b9 => ?_)
          refine Rx.walk 1 (pc' := 63) (L' := [some (.ref 0), some (.int (iz row)), some (.int (iz mn)), some (.long (jz sd)), none, some (.int (iz 0)), some (.int (iz 0)), none, none, none, none]) (st' := [.int (iz 0)]) (h' := cxW (u2 (u2 (u2 z 0 6 M) 0 8 Rn) 95 1 osz) (uf f 96 who) C T rc tl) rfl ?_
          refine Rx.ne1 rfl rfl ⟨by omega, by omega⟩ (fun b10 => by omega) (fun b10 => ?_)
          refine Rx.walk 1 (pc' := 67) (L' := [some (.ref 0), some (.int (iz row)), some (.int (iz mn)), some (.long (jz sd)), none, some (.int (iz 0)), some (.int (iz 0)), none, none, none, none]) (st' := [.int (iz (-1))]) (h' := cxW (u2 (u2 (u2 z 0 6 M) 0 8 Rn) 95 1 osz) (uf f 96 who) C T rc tl) rfl ?_
          refine Rx.ret rfl ?_
          exact ⟨_, _, _, rfl, rfl, rfl⟩
        · refine Rx.walk 2 (pc' := 46) (L' := [some (.ref 0), some (.int (iz row)), some (.int (iz mn)), some (.long (jz sd)), none, some (.int (iz 0)), none, none, none, none, none]) (st' := [.int (iz M)]) (h' := cxW (u2 (u2 (u2 z 0 6 M) 0 8 Rn) 95 1 osz) (uf f 96 who) C T rc tl) rfl ?_
          refine Rx.le1 rfl rfl ⟨by omega, by omega⟩ (fun b11 => ?_) (fun b11 => by omega)
          refine Rx.walk 3 (pc' := 58) (L' := [some (.ref 0), some (.int (iz row)), some (.int (iz mn)), some (.long (jz sd)), none, some (.int (iz 0)), some (.int (iz 0)), none, none, none, none]) (st' := [.int (iz 0)]) (h' := cxW (u2 (u2 (u2 z 0 6 M) 0 8 Rn) 95 1 osz) (uf f 96 who) C T rc tl) rfl ?_
          refine Rx.ne1 rfl rfl ⟨by omega, by omega⟩ (fun b12 => by omega) (fun b12 => ?_)
          refine Rx.walk 1 (pc' := 63) (L' := [some (.ref 0), some (.int (iz row)), some (.int (iz mn)), some (.long (jz sd)), none, some (.int (iz 0)), some (.int (iz 0)), none, none, none, none]) (st' := [.int (iz 0)]) (h' := cxW (u2 (u2 (u2 z 0 6 M) 0 8 Rn) 95 1 osz) (uf f 96 who) C T rc tl) rfl ?_
          refine Rx.ne1 rfl rfl ⟨by omega, by omega⟩ (fun b13 => by omega) (fun b13 => ?_)
          refine Rx.walk 1 (pc' := 67) (L' := [some (.ref 0), some (.int (iz row)), some (.int (iz mn)), some (.long (jz sd)), none, some (.int (iz 0)), some (.int (iz 0)), none, none, none, none]) (st' := [.int (iz (-1))]) (h' := cxW (u2 (u2 (u2 z 0 6 M) 0 8 Rn) 95 1 osz) (uf f 96 who) C T rc tl) rfl ?_
          refine Rx.ret rfl ?_
          exact ⟨_, _, _, rfl, rfl, rfl⟩
  · refine Rx.walk 5 (pc' := 13) (L' := [some (.ref 0), some (.int (iz row)), some (.int (iz mn)), some (.long (jz sd)), none, none, none, none, none, none, none]) (st' := [.int (iz M), .int (iz row), .ref 95]) (h' := cxW (u2 (u2 (u2 z 0 6 M) 0 8 Rn) 95 1 osz) (uf f 96 who) C T rc tl) rfl ?_
    refine Rx.callx (m' := m_X3_reads) (as := [.ref 95, .int (iz row), .int (iz M)]) (rest := []) rfl (x_oreads _ (u2 (u2 z 0 6 M) 0 8 Rn) f C T rc tl  row M osz who hrow ⟨by omega, by omega⟩) (fun v17 h18 q19 => ?_)
    obtain ⟨r_14, who_15, rfl, rfl, f16⟩ := q19
    refine Rx.walk 0 (pc' := 16) (L' := [some (.ref 0), some (.int (iz row)), some (.int (iz mn)), some (.long (jz sd)), none, none, none, none, none, none, none]) (st' := [.int (iz r_14)]) (h' := cxW (u2 (u2 (u2 z 0 6 M) 0 8 Rn) 95 1 M) (uf f 96 who_15) C T rc tl) rfl ?_
    have hr0 : r_14 = 0 := by rcases f16 with q | q; (exfalso; have := q.2.1.1; omega); exact q.1
    refine Rx.eq1 rfl rfl ⟨by omega, by omega⟩ (fun b20 => ?_) (fun b20 => by omega)
    refine Rx.walk 4 (pc' := 28) (L' := [some (.ref 0), some (.int (iz row)), some (.int (iz mn)), some (.long (jz sd)), none, some (.int (iz 0)), none, none, none, none, none]) (st' := [.int (iz 1), .int (iz mn)]) (h' := cxW (u2 (u2 (u2 z 0 6 M) 0 8 Rn) 95 1 M) (uf f 96 who_15) C T rc tl) rfl ?_
    refine Rx.lt2 rfl rfl ⟨by omega, by omega⟩ ⟨by omega, by omega⟩ (fun b21 => ?_) (fun b21 => ?_)
    · refine Rx.walk 3 (pc' := 58) (L' := [some (.ref 0), some (.int (iz row)), some (.int (iz mn)), some (.long (jz sd)), none, some (.int (iz 0)), some (.int (iz 0)), none, none, none, none]) (st' := [.int (iz 0)]) (h' := cxW (u2 (u2 (u2 z 0 6 M) 0 8 Rn) 95 1 M) (uf f 96 who_15) C T rc tl) rfl ?_
      refine Rx.ne1 rfl rfl ⟨by omega, by omega⟩ (fun b22 => by omega) (fun b22 => ?_)
      refine Rx.walk 1 (pc' := 63) (L' := [some (.ref 0), some (.int (iz row)), some (.int (iz mn)), some (.long (jz sd)), none, some (.int (iz 0)), some (.int (iz 0)), none, none, none, none]) (st' := [.int (iz 0)]) (h' := cxW (u2 (u2 (u2 z 0 6 M) 0 8 Rn) 95 1 M) (uf f 96 who_15) C T rc tl) rfl ?_
      refine Rx.ne1 rfl rfl ⟨by omega, by omega⟩ (fun b23 => by omega) (fun b23 => ?_)
      refine Rx.walk 1 (pc' := 67) (L' := [some (.ref 0), some (.int (iz row)), some (.int (iz mn)), some (.long (jz sd)), none, some (.int (iz 0)), some (.int (iz 0)), none, none, none, none]) (st' := [.int (iz (-1))]) (h' := cxW (u2 (u2 (u2 z 0 6 M) 0 8 Rn) 95 1 M) (uf f 96 who_15) C T rc tl) rfl ?_
      refine Rx.ret rfl ?_
      exact ⟨_, _, _, rfl, rfl, rfl⟩
    · refine Rx.walk 2 (pc' := 34) (L' := [some (.ref 0), some (.int (iz row)), some (.int (iz mn)), some (.long (jz sd)), none, some (.int (iz 0)), none, none, none, none, none]) (st' := [.int (iz 60), .int (iz mn)]) (h' := cxW (u2 (u2 (u2 z 0 6 M) 0 8 Rn) 95 1 M) (uf f 96 who_15) C T rc tl) rfl ?_
      refine Rx.gt2 rfl rfl ⟨by omega, by omega⟩ ⟨by omega, by omega⟩ (fun b24 => ?_) (fun b24 => ?_)
      · refine Rx.walk 3 (pc' := 58) (L' := [some (.ref 0), some (.int (iz row)), some (.int (iz mn)), some (.long (jz sd)), none, some (.int (iz 0)), some (.int (iz 0)), none, none, none, none]) (st' := [.int (iz 0)]) (h' := cxW (u2 (u2 (u2 z 0 6 M) 0 8 Rn) 95 1 M) (uf f 96 who_15) C T rc tl) rfl ?_
        refine Rx.ne1 rfl rfl ⟨by omega, by omega⟩ (fun b25 => by omega) (fun b25 => ?_)
        refine Rx.walk 1 (pc' := 63) (L' := [some (.ref 0), some (.int (iz row)), some (.int (iz mn)), some (.long (jz sd)), none, some (.int (iz 0)), some (.int (iz 0)), none, none, none, none]) (st' := [.int (iz 0)]) (h' := cxW (u2 (u2 (u2 z 0 6 M) 0 8 Rn) 95 1 M) (uf f 96 who_15) C T rc tl) rfl ?_
        refine Rx.ne1 rfl rfl ⟨by omega, by omega⟩ (fun b26 => by omega) (fun b26 => ?_)
        refine Rx.walk 1 (pc' := 67) (L' := [some (.ref 0), some (.int (iz row)), some (.int (iz mn)), some (.long (jz sd)), none, some (.int (iz 0)), some (.int (iz 0)), none, none, none, none]) (st' := [.int (iz (-1))]) (h' := cxW (u2 (u2 (u2 z 0 6 M) 0 8 Rn) 95 1 M) (uf f 96 who_15) C T rc tl) rfl ?_
        refine Rx.ret rfl ?_
        exact ⟨_, _, _, rfl, rfl, rfl⟩
      · refine Rx.walk 2 (pc' := 39) (L' := [some (.ref 0), some (.int (iz row)), some (.int (iz mn)), some (.long (jz sd)), none, some (.int (iz 0)), none, none, none, none, none]) (st' := [.int (iz (-1)), .int (iz row)]) (h' := cxW (u2 (u2 (u2 z 0 6 M) 0 8 Rn) 95 1 M) (uf f 96 who_15) C T rc tl) rfl ?_
        refine Rx.ne2 rfl rfl ⟨by omega, by omega⟩ ⟨by omega, by omega⟩ (fun b27 => ?_) (fun b27 => ?_)
        · refine Rx.walk 3 (pc' := 58) (L' := [some (.ref 0), some (.int (iz row)), some (.int (iz mn)), some (.long (jz sd)), none, some (.int (iz 0)), some (.int (iz 0)), none, none, none, none]) (st' := [.int (iz 0)]) (h' := cxW (u2 (u2 (u2 z 0 6 M) 0 8 Rn) 95 1 M) (uf f 96 who_15) C T rc tl) rfl ?_
          refine Rx.ne1 rfl rfl ⟨by omega, by omega⟩ (fun b28 => by omega) (fun b28 => ?_)
          refine Rx.walk 1 (pc' := 63) (L' := [some (.ref 0), some (.int (iz row)), some (.int (iz mn)), some (.long (jz sd)), none, some (.int (iz 0)), some (.int (iz 0)), none, none, none, none]) (st' := [.int (iz 0)]) (h' := cxW (u2 (u2 (u2 z 0 6 M) 0 8 Rn) 95 1 M) (uf f 96 who_15) C T rc tl) rfl ?_
          refine Rx.ne1 rfl rfl ⟨by omega, by omega⟩ (fun b29 => by omega) (fun b29 => ?_)
          refine Rx.walk 1 (pc' := 67) (L' := [some (.ref 0), some (.int (iz row)), some (.int (iz mn)), some (.long (jz sd)), none, some (.int (iz 0)), some (.int (iz 0)), none, none, none, none]) (st' := [.int (iz (-1))]) (h' := cxW (u2 (u2 (u2 z 0 6 M) 0 8 Rn) 95 1 M) (uf f 96 who_15) C T rc tl) rfl ?_
          refine Rx.ret rfl ?_
          exact ⟨_, _, _, rfl, rfl, rfl⟩
        · refine Rx.walk 2 (pc' := 46) (L' := [some (.ref 0), some (.int (iz row)), some (.int (iz mn)), some (.long (jz sd)), none, some (.int (iz 0)), none, none, none, none, none]) (st' := [.int (iz M)]) (h' := cxW (u2 (u2 (u2 z 0 6 M) 0 8 Rn) 95 1 M) (uf f 96 who_15) C T rc tl) rfl ?_
          refine Rx.le1 rfl rfl ⟨by omega, by omega⟩ (fun b30 => ?_) (fun b30 => by omega)
          refine Rx.walk 3 (pc' := 58) (L' := [some (.ref 0), some (.int (iz row)), some (.int (iz mn)), some (.long (jz sd)), none, some (.int (iz 0)), some (.int (iz 0)), none, none, none, none]) (st' := [.int (iz 0)]) (h' := cxW (u2 (u2 (u2 z 0 6 M) 0 8 Rn) 95 1 M) (uf f 96 who_15) C T rc tl) rfl ?_
          refine Rx.ne1 rfl rfl ⟨by omega, by omega⟩ (fun b31 => by omega) (fun b31 => ?_)
          refine Rx.walk 1 (pc' := 63) (L' := [some (.ref 0), some (.int (iz row)), some (.int (iz mn)), some (.long (jz sd)), none, some (.int (iz 0)), some (.int (iz 0)), none, none, none, none]) (st' := [.int (iz 0)]) (h' := cxW (u2 (u2 (u2 z 0 6 M) 0 8 Rn) 95 1 M) (uf f 96 who_15) C T rc tl) rfl ?_
          refine Rx.ne1 rfl rfl ⟨by omega, by omega⟩ (fun b32 => by omega) (fun b32 => ?_)
          refine Rx.walk 1 (pc' := 67) (L' := [some (.ref 0), some (.int (iz row)), some (.int (iz mn)), some (.long (jz sd)), none, some (.int (iz 0)), some (.int (iz 0)), none, none, none, none]) (st' := [.int (iz (-1))]) (h' := cxW (u2 (u2 (u2 z 0 6 M) 0 8 Rn) 95 1 M) (uf f 96 who_15) C T rc tl) rfl ?_
          refine Rx.ret rfl ?_
          exact ⟨_, _, _, rfl, rfl, rfl⟩
set_option maxRecDepth 100000 in
set_option maxHeartbeats 4000000 in
theorem x_mean0 (d : Nat) (z : Nat → Nat → Int) (f : Nat → Int → Int) (C : Nat → CuR) (T : Nat → TsR) (rc : Nat → Nat) (tl : AmH)  (ri : Int) (mn : Int) (kk : Int) (wh : Int) (Rn : Int) (M : Int) (hri : bI ri) (hmn : bI mn) (hkk : bI kk) (hwh : bI wh) (hM0 : M = 0) (hRn : 0 ≤ Rn ∧ Rn ≤ 4) : Rx (d + 3) m_X11_mean 0 (am_ent [.ref 0, .int (iz ri), .int (iz mn), .int (iz kk), .int (iz wh)] 10) [] (cxW (u2 (u2 z 0 6 M) 0 8 Rn) f C T rc tl) (fun rv h => ∃ r : Int, rv = some (.int (iz r)) ∧ h = cxW (u2 (u2 z 0 6 M) 0 8 Rn) f C T rc tl ∧ r = -1) := by
  obtain ⟨hri1, hri2⟩ := id hri
  obtain ⟨hmn1, hmn2⟩ := id hmn
  obtain ⟨hkk1, hkk2⟩ := id hkk
  obtain ⟨hwh1, hwh2⟩ := id hwh
  refine Rx.walk 0 (pc' := 0) (L' := [some (.ref 0), some (.int (iz ri)), some (.int (iz mn)), some (.int (iz kk)), some (.int (iz wh)), none, none, none, none, none]) (st' := []) (h' := cxW (u2 (u2 z 0 6 M) 0 8 Rn) f C T rc tl) rfl ?_
  refine Rx.walk 2 (pc' := 2) (L' := [some (.ref 0), some (.int (iz ri)), some (.int (iz mn)), some (.int (iz kk)), some (.int (iz wh)), none, none, none, none, none]) (st' := [.int (iz ri), .ref 0]) (h' := cxW (u2 (u2 z 0 6 M) 0 8 Rn) f C T rc tl) rfl ?_
  refine Rx.callx (m' := m_X11_isRule) (as := [.ref 0, .int (iz ri)]) (rest := []) rfl (x_isRule _ (u2 z 0 6 M) f C T rc tl  ri Rn hRn hri) (fun v3 h4 q5 => ?_)
  obtain ⟨r_1, rfl, rfl, f2⟩ := q5
  refine Rx.walk 0 (pc' := 5) (L' := [some (.ref 0), some (.int (iz ri)), some (.int (iz mn)), some (.int (iz kk)), some (.int (iz wh)), none, none, none, none, none]) (st' := [.int (iz r_1)]) (h' := cxW (u2 (u2 z 0 6 M) 0 8 Rn) f C T rc tl) rfl ?_
  refine Rx.eq1 rfl rfl ⟨by omega, by omega⟩ (fun b6 => ?_) (fun b6 => ?_)
  · refine Rx.walk 1 (pc' := 49) (L' := [some (.ref 0), some (.int (iz ri)), some (.int (iz mn)), some (.int (iz kk)), some (.int (iz wh)), none, none, none, none, none]) (st' := [.int (iz (-1))]) (h' := cxW (u2 (u2 z 0 6 M) 0 8 Rn) f C T rc tl) rfl ?_
    refine Rx.ret rfl ?_
    exact ⟨_, rfl, rfl, rfl⟩
  · refine Rx.walk 2 (pc' := 10) (L' := [some (.ref 0), some (.int (iz ri)), some (.int (iz mn)), some (.int (iz kk)), some (.int (iz wh)), none, none, none, none, none]) (st' := [.int (iz 1), .int (iz mn)]) (h' := cxW (u2 (u2 z 0 6 M) 0 8 Rn) f C T rc tl) rfl ?_
    refine Rx.lt2 rfl rfl ⟨by omega, by omega⟩ ⟨by omega, by omega⟩ (fun b7 => ?_) (fun b7 => ?_)
    · refine Rx.walk 1 (pc' := 49) (L' := [some (.ref 0), some (.int (iz ri)), some (.int (iz mn)), some (.int (iz kk)), some (.int (iz wh)), none, none, none, none, none]) (st' := [.int (iz (-1))]) (h' := cxW (u2 (u2 z 0 6 M) 0 8 Rn) f C T rc tl) rfl ?_
      refine Rx.ret rfl ?_
      exact ⟨_, rfl, rfl, rfl⟩
    · refine Rx.walk 2 (pc' := 16) (L' := [some (.ref 0), some (.int (iz ri)), some (.int (iz mn)), some (.int (iz kk)), some (.int (iz wh)), none, none, none, none, none]) (st' := [.int (iz 60), .int (iz mn)]) (h' := cxW (u2 (u2 z 0 6 M) 0 8 Rn) f C T rc tl) rfl ?_
      refine Rx.gt2 rfl rfl ⟨by omega, by omega⟩ ⟨by omega, by omega⟩ (fun b8 => ?_) (fun b8 => ?_)
      · refine Rx.walk 1 (pc' := 49) (L' := [some (.ref 0), some (.int (iz ri)), some (.int (iz mn)), some (.int (iz kk)), some (.int (iz wh)), none, none, none, none, none]) (st' := [.int (iz (-1))]) (h' := cxW (u2 (u2 z 0 6 M) 0 8 Rn) f C T rc tl) rfl ?_
        refine Rx.ret rfl ?_
        exact ⟨_, rfl, rfl, rfl⟩
      · refine Rx.walk 2 (pc' := 21) (L' := [some (.ref 0), some (.int (iz ri)), some (.int (iz mn)), some (.int (iz kk)), some (.int (iz wh)), none, none, none, none, none]) (st' := [.int (iz 1), .int (iz kk)]) (h' := cxW (u2 (u2 z 0 6 M) 0 8 Rn) f C T rc tl) rfl ?_
        refine Rx.lt2 rfl rfl ⟨by omega, by omega⟩ ⟨by omega, by omega⟩ (fun b9 => ?_) (fun b9 => ?_)
        · refine Rx.walk 1 (pc' := 49) (L' := [some (.ref 0), some (.int (iz ri)), some (.int (iz mn)), some (.int (iz kk)), some (.int (iz wh)), none, none, none, none, none]) (st' := [.int (iz (-1))]) (h' := cxW (u2 (u2 z 0 6 M) 0 8 Rn) f C T rc tl) rfl ?_
          refine Rx.ret rfl ?_
          exact ⟨_, rfl, rfl, rfl⟩
        · refine Rx.walk 2 (pc' := 27) (L' := [some (.ref 0), some (.int (iz ri)), some (.int (iz mn)), some (.int (iz kk)), some (.int (iz wh)), none, none, none, none, none]) (st' := [.int (iz 20), .int (iz kk)]) (h' := cxW (u2 (u2 z 0 6 M) 0 8 Rn) f C T rc tl) rfl ?_
          refine Rx.gt2 rfl rfl ⟨by omega, by omega⟩ ⟨by omega, by omega⟩ (fun b10 => ?_) (fun b10 => ?_)
          · refine Rx.walk 1 (pc' := 49) (L' := [some (.ref 0), some (.int (iz ri)), some (.int (iz mn)), some (.int (iz kk)), some (.int (iz wh)), none, none, none, none, none]) (st' := [.int (iz (-1))]) (h' := cxW (u2 (u2 z 0 6 M) 0 8 Rn) f C T rc tl) rfl ?_
            refine Rx.ret rfl ?_
            exact ⟨_, rfl, rfl, rfl⟩
          · refine Rx.walk 1 (pc' := 32) (L' := [some (.ref 0), some (.int (iz ri)), some (.int (iz mn)), some (.int (iz kk)), some (.int (iz wh)), none, none, none, none, none]) (st' := [.int (iz wh)]) (h' := cxW (u2 (u2 z 0 6 M) 0 8 Rn) f C T rc tl) rfl ?_
            refine Rx.lt1 rfl rfl ⟨by omega, by omega⟩ (fun b11 => ?_) (fun b11 => ?_)
            · refine Rx.walk 1 (pc' := 49) (L' := [some (.ref 0), some (.int (iz ri)), some (.int (iz mn)), some (.int (iz kk)), some (.int (iz wh)), none, none, none, none, none]) (st' := [.int (iz (-1))]) (h' := cxW (u2 (u2 z 0 6 M) 0 8 Rn) f C T rc tl) rfl ?_
              refine Rx.ret rfl ?_
              exact ⟨_, rfl, rfl, rfl⟩
            · refine Rx.walk 2 (pc' := 38) (L' := [some (.ref 0), some (.int (iz ri)), some (.int (iz mn)), some (.int (iz kk)), some (.int (iz wh)), none, none, none, none, none]) (st' := [.int (iz 1), .int (iz wh)]) (h' := cxW (u2 (u2 z 0 6 M) 0 8 Rn) f C T rc tl) rfl ?_
              refine Rx.gt2 rfl rfl ⟨by omega, by omega⟩ ⟨by omega, by omega⟩ (fun b12 => ?_) (fun b12 => ?_)
              · refine Rx.walk 1 (pc' := 49) (L' := [some (.ref 0), some (.int (iz ri)), some (.int (iz mn)), some (.int (iz kk)), some (.int (iz wh)), none, none, none, none, none]) (st' := [.int (iz (-1))]) (h' := cxW (u2 (u2 z 0 6 M) 0 8 Rn) f C T rc tl) rfl ?_
                refine Rx.ret rfl ?_
                exact ⟨_, rfl, rfl, rfl⟩
              · refine Rx.walk 2 (pc' := 45) (L' := [some (.ref 0), some (.int (iz ri)), some (.int (iz mn)), some (.int (iz kk)), some (.int (iz wh)), none, none, none, none, none]) (st' := [.int (iz M)]) (h' := cxW (u2 (u2 z 0 6 M) 0 8 Rn) f C T rc tl) rfl ?_
                refine Rx.ne1 rfl rfl ⟨by omega, by omega⟩ (fun b13 => by omega) (fun b13 => ?_)
                refine Rx.walk 1 (pc' := 49) (L' := [some (.ref 0), some (.int (iz ri)), some (.int (iz mn)), some (.int (iz kk)), some (.int (iz wh)), none, none, none, none, none]) (st' := [.int (iz (-1))]) (h' := cxW (u2 (u2 z 0 6 M) 0 8 Rn) f C T rc tl) rfl ?_
                refine Rx.ret rfl ?_
                exact ⟨_, rfl, rfl, rfl⟩
set_option maxRecDepth 100000 in
set_option maxHeartbeats 4000000 in
theorem m_by0 (d : Nat) (z : Nat → Int) (zl : Nat → Int) (f : Nat → Int → Int) (fl : Nat → Int → Int) (tx : Nat)  (ri : Int) (ci : Int) (Rn : Int) (M : Int) (hri : bI ri) (hci : bI ci) (hM0 : M = 0) (hRn : 0 ≤ Rn ∧ Rn ≤ 4) : Rx (d + 3) m_X12_by 0 (am_ent [.ref 0, .int (iz ri), .int (iz ci)] 3) [] (cmH (u1 (u1 z 7 Rn) 28 M) zl f fl tx) (fun rv h => ∃ r : Int, rv = some (.int (iz r)) ∧ h = cmH (u1 (u1 (u1 z 0 0) 7 Rn) 28 M) zl f fl tx ∧ r = -1) := by
  obtain ⟨hri1, hri2⟩ := id hri
  obtain ⟨hci1, hci2⟩ := id hci
  refine Rx.walk 0 (pc' := 0) (L' := [some (.ref 0), some (.int (iz ri)), some (.int (iz ci))]) (st' := []) (h' := cmH (u1 (u1 z 7 Rn) 28 M) zl f fl tx) rfl ?_
  refine Rx.walk 5 (pc' := 7) (L' := [some (.ref 0), some (.int (iz ri)), some (.int (iz ci))]) (st' := [.int (iz ri), .ref 0]) (h' := cmH (u1 (u1 (u1 z 0 0) 7 Rn) 28 M) zl f fl tx) rfl ?_
  refine Rx.callx (m' := m_X12_isRule) (as := [.ref 0, .int (iz ri)]) (rest := []) rfl (m_isRule _ (u1 (u1 z 0 0) 28 M) zl f fl tx  ri Rn hRn hri) (fun v3 h4 q5 => ?_)
  obtain ⟨r_1, rfl, rfl, f2⟩ := q5
  refine Rx.walk 0 (pc' := 10) (L' := [some (.ref 0), some (.int (iz ri)), some (.int (iz ci))]) (st' := [.int (iz r_1)]) (h' := cmH (u1 (u1 (u1 z 0 0) 7 Rn) 28 M) zl f fl tx) rfl ?_
  refine Rx.eq1 rfl rfl ⟨by omega, by omega⟩ (fun b6 => ?_) (fun b6 => ?_)
  · refine Rx.walk 1 (pc' := 22) (L' := [some (.ref 0), some (.int (iz ri)), some (.int (iz ci))]) (st' := [.int (iz (-1))]) (h' := cmH (u1 (u1 (u1 z 0 0) 7 Rn) 28 M) zl f fl tx) rfl ?_
    refine Rx.ret rfl ?_
    exact ⟨_, rfl, rfl, rfl⟩
  · refine Rx.walk 2 (pc' := 15) (L' := [some (.ref 0), some (.int (iz ri)), some (.int (iz ci))]) (st' := [.int (iz ci), .ref 0]) (h' := cmH (u1 (u1 (u1 z 0 0) 7 Rn) 28 M) zl f fl tx) rfl ?_
    refine Rx.callx (m' := m_X12_isCustomer) (as := [.ref 0, .int (iz ci)]) (rest := []) rfl (m_isCust _ (u1 (u1 z 0 0) 7 Rn) zl f fl tx  ci M ⟨by omega, by omega⟩ hci) (fun v9 h10 q11 => ?_)
    obtain ⟨r_7, rfl, rfl, f8⟩ := q11
    refine Rx.walk 0 (pc' := 18) (L' := [some (.ref 0), some (.int (iz ri)), some (.int (iz ci))]) (st' := [.int (iz r_7)]) (h' := cmH (u1 (u1 (u1 z 0 0) 7 Rn) 28 M) zl f fl tx) rfl ?_
    refine Rx.ne1 rfl rfl ⟨by omega, by omega⟩ (fun b12 => by omega) (fun b12 => ?_)
    refine Rx.walk 1 (pc' := 22) (L' := [some (.ref 0), some (.int (iz ri)), some (.int (iz ci))]) (st' := [.int (iz (-1))]) (h' := cmH (u1 (u1 (u1 z 0 0) 7 Rn) 28 M) zl f fl tx) rfl ?_
    refine Rx.ret rfl ?_
    exact ⟨_, rfl, rfl, rfl⟩
set_option maxRecDepth 100000 in
set_option maxHeartbeats 4000000 in
theorem m_run0 (d : Nat) (z : Nat → Int) (zl : Nat → Int) (f : Nat → Int → Int) (fl : Nat → Int → Int) (tx : Nat)  (ri : Int) (row : Int) (od : Int → Int) (Rn : Int) (M : Int) (hri : bI ri) (hrow : bI row) (hM0 : M = 0) (hRn : 0 ≤ Rn ∧ Rn ≤ 4) : Rx (d + 3) m_X12_run 0 (am_ent [.ref 0, .int (iz ri), .int (iz row)] 3) [] (cmH (u1 (u1 z 7 Rn) 28 M) zl (uf f 22 od) fl tx) (fun rv h => ∃ r : Int, ∃ od' : Int → Int, rv = some (.int (iz r)) ∧ h = cmH (u1 (u1 (u1 z 0 0) 7 Rn) 28 M) zl (uf f 22 od') fl tx ∧ r = -1) := by
  obtain ⟨hri1, hri2⟩ := id hri
  obtain ⟨hrow1, hrow2⟩ := id hrow
  refine Rx.walk 0 (pc' := 0) (L' := [some (.ref 0), some (.int (iz ri)), some (.int (iz row))]) (st' := []) (h' := cmH (u1 (u1 z 7 Rn) 28 M) zl (uf f 22 od) fl tx) rfl ?_
  refine Rx.walk 5 (pc' := 7) (L' := [some (.ref 0), some (.int (iz ri)), some (.int (iz row))]) (st' := [.int (iz ri), .ref 0]) (h' := cmH (u1 (u1 (u1 z 0 0) 7 Rn) 28 M) zl (uf f 22 od) fl tx) rfl ?_
  refine Rx.callx (m' := m_X12_isRule) (as := [.ref 0, .int (iz ri)]) (rest := []) rfl (m_isRule _ (u1 (u1 z 0 0) 28 M) zl (uf f 22 od) fl tx  ri Rn hRn hri) (fun v3 h4 q5 => ?_)
  obtain ⟨r_1, rfl, rfl, f2⟩ := q5
  refine Rx.walk 0 (pc' := 10) (L' := [some (.ref 0), some (.int (iz ri)), some (.int (iz row))]) (st' := [.int (iz r_1)]) (h' := cmH (u1 (u1 (u1 z 0 0) 7 Rn) 28 M) zl (uf f 22 od) fl tx) rfl ?_
  refine Rx.eq1 rfl rfl ⟨by omega, by omega⟩ (fun b6 => ?_) (fun b6 => ?_)
  · refine Rx.walk 1 (pc' := 34) (L' := [some (.ref 0), some (.int (iz ri)), some (.int (iz row))]) (st' := [.int (iz (-1))]) (h' := cmH (u1 (u1 (u1 z 0 0) 7 Rn) 28 M) zl (uf f 22 od) fl tx) rfl ?_
    refine Rx.ret rfl ?_
    exact ⟨_, _, rfl, rfl, rfl⟩
  · refine Rx.walk 4 (pc' := 19) (L' := [some (.ref 0), some (.int (iz ri)), some (.int (iz row))]) (st' := [.int (iz M), .int (iz row), .ref 0]) (h' := cmH (u1 (u1 (u1 z 0 0) 7 Rn) 28 M) zl (uf f 22 od) fl tx) rfl ?_
    refine Rx.callx (m' := m_X12_layOrder) (as := [.ref 0, .int (iz row), .int (iz M)]) (rest := []) rfl (m_layOrder _ (u1 (u1 (u1 z 0 0) 7 Rn) 28 M) zl f fl tx  row M od hrow ⟨by omega, by omega⟩) (fun v10 h11 q12 => ?_)
    obtain ⟨r_7, od_8, rfl, rfl, f9⟩ := q12
    refine Rx.walk 0 (pc' := 22) (L' := [some (.ref 0), some (.int (iz ri)), some (.int (iz row))]) (st' := [.int (iz r_7)]) (h' := cmH (u1 (u1 (u1 z 0 0) 7 Rn) 28 M) zl (uf f 22 od_8) fl tx) rfl ?_
    have hr0 : r_7 = 0 := by rcases f9 with q | q; (exfalso; have := q.2.1.1; omega); exact q.1
    refine Rx.eq1 rfl rfl ⟨by omega, by omega⟩ (fun b13 => ?_) (fun b13 => by omega)
    refine Rx.walk 1 (pc' := 34) (L' := [some (.ref 0), some (.int (iz ri)), some (.int (iz row))]) (st' := [.int (iz (-1))]) (h' := cmH (u1 (u1 (u1 z 0 0) 7 Rn) 28 M) zl (uf f 22 od_8) fl tx) rfl ?_
    refine Rx.ret rfl ?_
    exact ⟨_, _, rfl, rfl, rfl⟩
set_option maxRecDepth 100000 in
set_option maxHeartbeats 4000000 in
theorem m_worst0 (d : Nat) (z : Nat → Int) (zl : Nat → Int) (f : Nat → Int → Int) (fl : Nat → Int → Int) (tx : Nat)  (ri : Int) (wh : Int) (Rn : Int) (M : Int) (hri : bI ri) (hwh : bI wh) (hM0 : M = 0) (hRn : 0 ≤ Rn ∧ Rn ≤ 4) : Rx (d + 3) m_X12_worst 0 (am_ent [.ref 0, .int (iz ri), .int (iz wh)] 7) [] (cmH (u1 (u1 z 7 Rn) 28 M) zl f fl tx) (fun rv h => ∃ r : Int, rv = some (.int (iz r)) ∧ h = cmH (u1 (u1 (u1 z 0 0) 7 Rn) 28 M) zl f fl tx ∧ r = -1) := by
  obtain ⟨hri1, hri2⟩ := id hri
  obtain ⟨hwh1, hwh2⟩ := id hwh
  refine Rx.walk 0 (pc' := 0) (L' := [some (.ref 0), some (.int (iz ri)), some (.int (iz wh)), none, none, none, none]) (st' := []) (h' := cmH (u1 (u1 z 7 Rn) 28 M) zl f fl tx) rfl ?_
  refine Rx.walk 5 (pc' := 7) (L' := [some (.ref 0), some (.int (iz ri)), some (.int (iz wh)), none, none, none, none]) (st' := [.int (iz ri), .ref 0]) (h' := cmH (u1 (u1 (u1 z 0 0) 7 Rn) 28 M) zl f fl tx) rfl ?_
  refine Rx.callx (m' := m_X12_isRule) (as := [.ref 0, .int (iz ri)]) (rest := []) rfl (m_isRule _ (u1 (u1 z 0 0) 28 M) zl f fl tx  ri Rn hRn hri) (fun v3 h4 q5 => ?_)
  obtain ⟨r_1, rfl, rfl, f2⟩ := q5
  refine Rx.walk 0 (pc' := 10) (L' := [some (.ref 0), some (.int (iz ri)), some (.int (iz wh)), none, none, none, none]) (st' := [.int (iz r_1)]) (h' := cmH (u1 (u1 (u1 z 0 0) 7 Rn) 28 M) zl f fl tx) rfl ?_
  refine Rx.eq1 rfl rfl ⟨by omega, by omega⟩ (fun b6 => ?_) (fun b6 => ?_)
  · refine Rx.walk 1 (pc' := 31) (L' := [some (.ref 0), some (.int (iz ri)), some (.int (iz wh)), none, none, none, none]) (st' := [.int (iz (-1))]) (h' := cmH (u1 (u1 (u1 z 0 0) 7 Rn) 28 M) zl f fl tx) rfl ?_
    refine Rx.ret rfl ?_
    exact ⟨_, rfl, rfl, rfl⟩
  · refine Rx.walk 2 (pc' := 17) (L' := [some (.ref 0), some (.int (iz ri)), some (.int (iz wh)), none, none, none, none]) (st' := [.int (iz M)]) (h' := cmH (u1 (u1 (u1 z 0 0) 7 Rn) 28 M) zl f fl tx) rfl ?_
    refine Rx.eq1 rfl rfl ⟨by omega, by omega⟩ (fun b7 => ?_) (fun b7 => by omega)
    refine Rx.walk 1 (pc' := 31) (L' := [some (.ref 0), some (.int (iz ri)), some (.int (iz wh)), none, none, none, none]) (st' := [.int (iz (-1))]) (h' := cmH (u1 (u1 (u1 z 0 0) 7 Rn) 28 M) zl f fl tx) rfl ?_
    refine Rx.ret rfl ?_
    exact ⟨_, rfl, rfl, rfl⟩
set_option maxRecDepth 100000 in
set_option maxHeartbeats 4000000 in
theorem m_day0 (d : Nat) (z : Nat → Int) (zl : Nat → Int) (f : Nat → Int → Int) (fl : Nat → Int → Int) (tx : Nat)  (ri : Int) (mn : Int) (sd : Int) (Rn : Int) (M : Int) (hri : bI ri) (hmn : bI mn) (hM0 : M = 0) (hRn : 0 ≤ Rn ∧ Rn ≤ 4) : Rx (d + 3) m_X12_day 0 (am_ent [.ref 0, .int (iz ri), .int (iz mn), .long (jz sd)] 5) [] (cmH (u1 (u1 z 7 Rn) 28 M) zl f fl tx) (fun rv h => ∃ r : Int, rv = some (.int (iz r)) ∧ h = cmH (u1 (u1 (u1 z 0 0) 7 Rn) 28 M) zl f fl tx ∧ r = -1) := by
  obtain ⟨hri1, hri2⟩ := id hri
  obtain ⟨hmn1, hmn2⟩ := id hmn
  refine Rx.walk 0 (pc' := 0) (L' := [some (.ref 0), some (.int (iz ri)), some (.int (iz mn)), some (.long (jz sd)), none]) (st' := []) (h' := cmH (u1 (u1 z 7 Rn) 28 M) zl f fl tx) rfl ?_
  refine Rx.walk 5 (pc' := 7) (L' := [some (.ref 0), some (.int (iz ri)), some (.int (iz mn)), some (.long (jz sd)), none]) (st' := [.int (iz ri), .ref 0]) (h' := cmH (u1 (u1 (u1 z 0 0) 7 Rn) 28 M) zl f fl tx) rfl ?_
  refine Rx.callx (m' := m_X12_isRule) (as := [.ref 0, .int (iz ri)]) (rest := []) rfl (m_isRule _ (u1 (u1 z 0 0) 28 M) zl f fl tx  ri Rn hRn hri) (fun v3 h4 q5 => ?_)
  obtain ⟨r_1, rfl, rfl, f2⟩ := q5
  refine Rx.walk 0 (pc' := 10) (L' := [some (.ref 0), some (.int (iz ri)), some (.int (iz mn)), some (.long (jz sd)), none]) (st' := [.int (iz r_1)]) (h' := cmH (u1 (u1 (u1 z 0 0) 7 Rn) 28 M) zl f fl tx) rfl ?_
  refine Rx.eq1 rfl rfl ⟨by omega, by omega⟩ (fun b6 => ?_) (fun b6 => ?_)
  · refine Rx.walk 1 (pc' := 32) (L' := [some (.ref 0), some (.int (iz ri)), some (.int (iz mn)), some (.long (jz sd)), none]) (st' := [.int (iz (-1))]) (h' := cmH (u1 (u1 (u1 z 0 0) 7 Rn) 28 M) zl f fl tx) rfl ?_
    refine Rx.ret rfl ?_
    exact ⟨_, rfl, rfl, rfl⟩
  · refine Rx.walk 2 (pc' := 15) (L' := [some (.ref 0), some (.int (iz ri)), some (.int (iz mn)), some (.long (jz sd)), none]) (st' := [.int (iz mn), .ref 0]) (h' := cmH (u1 (u1 (u1 z 0 0) 7 Rn) 28 M) zl f fl tx) rfl ?_
    refine Rx.callx (m' := m_X12_isDay) (as := [.ref 0, .int (iz mn)]) (rest := []) rfl (m_isDay _ (u1 (u1 z 0 0) 7 Rn) zl f fl tx  mn M hmn ⟨by omega, by omega⟩) (fun v9 h10 q11 => ?_)
    obtain ⟨r_7, rfl, rfl, f8⟩ := q11
    refine Rx.walk 0 (pc' := 18) (L' := [some (.ref 0), some (.int (iz ri)), some (.int (iz mn)), some (.long (jz sd)), none]) (st' := [.int (iz r_7)]) (h' := cmH (u1 (u1 (u1 z 0 0) 7 Rn) 28 M) zl f fl tx) rfl ?_
    refine Rx.eq1 rfl rfl ⟨by omega, by omega⟩ (fun b12 => ?_) (fun b12 => by omega)
    refine Rx.walk 1 (pc' := 32) (L' := [some (.ref 0), some (.int (iz ri)), some (.int (iz mn)), some (.long (jz sd)), none]) (st' := [.int (iz (-1))]) (h' := cmH (u1 (u1 (u1 z 0 0) 7 Rn) 28 M) zl f fl tx) rfl ?_
    refine Rx.ret rfl ?_
    exact ⟨_, rfl, rfl, rfl⟩
set_option maxRecDepth 100000 in
set_option maxHeartbeats 4000000 in
theorem m_best0 (d : Nat) (z : Nat → Int) (zl : Nat → Int) (f : Nat → Int → Int) (fl : Nat → Int → Int) (tx : Nat)  (row : Int) (mn : Int) (sd : Int) (od : Int → Int) (Rn : Int) (M : Int) (hrow : bI row) (hmn : bI mn) (hM0 : M = 0) (hRn : 0 ≤ Rn ∧ Rn ≤ 4) : Rx (d + 3) m_X12_best 0 (am_ent [.ref 0, .int (iz row), .int (iz mn), .long (jz sd)] 10) [] (cmH (u1 (u1 z 7 Rn) 28 M) zl (uf f 22 od) fl tx) (fun rv h => ∃ r : Int, ∃ od' : Int → Int, rv = some (.int (iz r)) ∧ h = cmH (u1 (u1 (u1 z 0 0) 7 Rn) 28 M) zl (uf f 22 od') fl tx ∧ r = -1) := by
  obtain ⟨hrow1, hrow2⟩ := id hrow
  obtain ⟨hmn1, hmn2⟩ := id hmn
  refine Rx.walk 0 (pc' := 0) (L' := [some (.ref 0), some (.int (iz row)), some (.int (iz mn)), some (.long (jz sd)), none, none, none, none, none, none]) (st' := []) (h' := cmH (u1 (u1 z 7 Rn) 28 M) zl (uf f 22 od) fl tx) rfl ?_
  refine Rx.walk 4 (pc' := 6) (L' := [some (.ref 0), some (.int (iz row)), some (.int (iz mn)), some (.long (jz sd)), none, none, none, none, none, none]) (st' := [.int (iz mn)]) (h' := cmH (u1 (u1 (u1 z 0 0) 7 Rn) 28 M) zl (uf f 22 od) fl tx) rfl ?_
  refine Rx.ne1 rfl rfl ⟨by omega, by omega⟩ (fun b1 => ?_) (fun b1 => ?_)
  · refine Rx.walk 3 (pc' := 30) (L' := [some (.ref 0), some (.int (iz row)), some (.int (iz mn)), some (.long (jz sd)), none, some (.int (iz 0)), none, none, none, none]) (st' := [.int (iz 0)]) (h' := cmH (u1 (u1 (u1 z 0 0) 7 Rn) 28 M) zl (uf f 22 od) fl tx) rfl ?_
    refine Rx.ne1 rfl rfl ⟨by omega, by omega⟩ (fun b2 => by omega) (fun b2 => ?_)
    refine Rx.walk 2 (pc' := 35) (L' := [some (.ref 0), some (.int (iz row)), some (.int (iz mn)), some (.long (jz sd)), none, some (.int (iz 0)), none, none, none, none]) (st' := [.int (iz (-1)), .int (iz row)]) (h' := cmH (u1 (u1 (u1 z 0 0) 7 Rn) 28 M) zl (uf f 22 od) fl tx) rfl ?_
    refine Rx.ne2 rfl rfl ⟨by omega, by omega⟩ ⟨by omega, by omega⟩ (fun b3 => ?_) (fun b3 => ?_)
    · refine Rx.walk 1 (pc' := 47) (L' := [some (.ref 0), some (.int (iz row)), some (.int (iz mn)), some (.long (jz sd)), none, some (.int (iz 0)), none, none, none, none]) (st' := [.int (iz (-1))]) (h' := cmH (u1 (u1 (u1 z 0 0) 7 Rn) 28 M) zl (uf f 22 od) fl tx) rfl ?_
      refine Rx.ret rfl ?_
      exact ⟨_, _, rfl, rfl, rfl⟩
    · refine Rx.walk 2 (pc' := 40) (L' := [some (.ref 0), some (.int (iz row)), some (.int (iz mn)), some (.long (jz sd)), none, some (.int (iz 0)), none, none, none, none]) (st' := [.int (iz mn), .ref 0]) (h' := cmH (u1 (u1 (u1 z 0 0) 7 Rn) 28 M) zl (uf f 22 od) fl tx) rfl ?_
      refine Rx.callx (m' := m_X12_isDay) (as := [.ref 0, .int (iz mn)]) (rest := []) rfl (m_isDay _ (u1 (u1 z 0 0) 7 Rn) zl (uf f 22 od) fl tx  mn M hmn ⟨by omega, by omega⟩) (fun v6 h7 q8 => ?_)
      obtain ⟨r_4, rfl, rfl, f5⟩ := q8
      refine Rx.walk 0 (pc' := 43) (L' := [some (.ref 0), some (.int (iz row)), some (.int (iz mn)), some (.long (jz sd)), none, some (.int (iz 0)), none, none, none, none]) (st' := [.int (iz r_4)]) (h' := cmH (u1 (u1 (u1 z 0 0) 7 Rn) 28 M) zl (uf f 22 od) fl tx) rfl ?_
      refine Rx.ne1 rfl rfl ⟨by omega, by omega⟩ (fun b9 => by omega) (fun b9 => ?_)
      refine Rx.walk 1 (pc' := 47) (L' := [some (.ref 0), some (.int (iz row)), some (.int (iz mn)), some (.long (jz sd)), none, some (.int (iz 0)), none, none, none, none]) (st' := [.int (iz (-1))]) (h' := cmH (u1 (u1 (u1 z 0 0) 7 Rn) 28 M) zl (uf f 22 od) fl tx) rfl ?_
      refine Rx.ret rfl ?_
      exact ⟨_, _, rfl, rfl, rfl⟩
  · refine Rx.walk 4 (pc' := 15) (L' := [some (.ref 0), some (.int (iz row)), some (.int (iz mn)), some (.long (jz sd)), none, none, none, none, none, none]) (st' := [.int (iz M), .int (iz row), .ref 0]) (h' := cmH (u1 (u1 (u1 z 0 0) 7 Rn) 28 M) zl (uf f 22 od) fl tx) rfl ?_
    refine Rx.callx (m' := m_X12_layOrder) (as := [.ref 0, .int (iz row), .int (iz M)]) (rest := []) rfl (m_layOrder _ (u1 (u1 (u1 z 0 0) 7 Rn) 28 M) zl f fl tx  row M od hrow ⟨by omega, by omega⟩) (fun v13 h14 q15 => ?_)
    obtain ⟨r_10, od_11, rfl, rfl, f12⟩ := q15
    refine Rx.walk 0 (pc' := 18) (L' := [some (.ref 0), some (.int (iz row)), some (.int (iz mn)), some (.long (jz sd)), none, none, none, none, none, none]) (st' := [.int (iz r_10)]) (h' := cmH (u1 (u1 (u1 z 0 0) 7 Rn) 28 M) zl (uf f 22 od_11) fl tx) rfl ?_
    have hr0 : r_10 = 0 := by rcases f12 with q | q; (exfalso; have := q.2.1.1; omega); exact q.1
    refine Rx.eq1 rfl rfl ⟨by omega, by omega⟩ (fun b16 => ?_) (fun b16 => by omega)
    refine Rx.walk 3 (pc' := 30) (L' := [some (.ref 0), some (.int (iz row)), some (.int (iz mn)), some (.long (jz sd)), none, some (.int (iz 0)), none, none, none, none]) (st' := [.int (iz 0)]) (h' := cmH (u1 (u1 (u1 z 0 0) 7 Rn) 28 M) zl (uf f 22 od_11) fl tx) rfl ?_
    refine Rx.ne1 rfl rfl ⟨by omega, by omega⟩ (fun b17 => by omega) (fun b17 => ?_)
    refine Rx.walk 2 (pc' := 35) (L' := [some (.ref 0), some (.int (iz row)), some (.int (iz mn)), some (.long (jz sd)), none, some (.int (iz 0)), none, none, none, none]) (st' := [.int (iz (-1)), .int (iz row)]) (h' := cmH (u1 (u1 (u1 z 0 0) 7 Rn) 28 M) zl (uf f 22 od_11) fl tx) rfl ?_
    refine Rx.ne2 rfl rfl ⟨by omega, by omega⟩ ⟨by omega, by omega⟩ (fun b18 => ?_) (fun b18 => ?_)
    · refine Rx.walk 1 (pc' := 47) (L' := [some (.ref 0), some (.int (iz row)), some (.int (iz mn)), some (.long (jz sd)), none, some (.int (iz 0)), none, none, none, none]) (st' := [.int (iz (-1))]) (h' := cmH (u1 (u1 (u1 z 0 0) 7 Rn) 28 M) zl (uf f 22 od_11) fl tx) rfl ?_
      refine Rx.ret rfl ?_
      exact ⟨_, _, rfl, rfl, rfl⟩
    · refine Rx.walk 2 (pc' := 40) (L' := [some (.ref 0), some (.int (iz row)), some (.int (iz mn)), some (.long (jz sd)), none, some (.int (iz 0)), none, none, none, none]) (st' := [.int (iz mn), .ref 0]) (h' := cmH (u1 (u1 (u1 z 0 0) 7 Rn) 28 M) zl (uf f 22 od_11) fl tx) rfl ?_
      refine Rx.callx (m' := m_X12_isDay) (as := [.ref 0, .int (iz mn)]) (rest := []) rfl (m_isDay _ (u1 (u1 z 0 0) 7 Rn) zl (uf f 22 od_11) fl tx  mn M hmn ⟨by omega, by omega⟩) (fun v21 h22 q23 => ?_)
      obtain ⟨r_19, rfl, rfl, f20⟩ := q23
      refine Rx.walk 0 (pc' := 43) (L' := [some (.ref 0), some (.int (iz row)), some (.int (iz mn)), some (.long (jz sd)), none, some (.int (iz 0)), none, none, none, none]) (st' := [.int (iz r_19)]) (h' := cmH (u1 (u1 (u1 z 0 0) 7 Rn) 28 M) zl (uf f 22 od_11) fl tx) rfl ?_
      refine Rx.ne1 rfl rfl ⟨by omega, by omega⟩ (fun b24 => by omega) (fun b24 => ?_)
      refine Rx.walk 1 (pc' := 47) (L' := [some (.ref 0), some (.int (iz row)), some (.int (iz mn)), some (.long (jz sd)), none, some (.int (iz 0)), none, none, none, none]) (st' := [.int (iz (-1))]) (h' := cmH (u1 (u1 (u1 z 0 0) 7 Rn) 28 M) zl (uf f 22 od_11) fl tx) rfl ?_
      refine Rx.ret rfl ?_
      exact ⟨_, _, rfl, rfl, rfl⟩
set_option maxRecDepth 100000 in
set_option maxHeartbeats 4000000 in
theorem m_mean0 (d : Nat) (z : Nat → Int) (zl : Nat → Int) (f : Nat → Int → Int) (fl : Nat → Int → Int) (tx : Nat)  (ri : Int) (mn : Int) (kk : Int) (wh : Int) (Rn : Int) (M : Int) (hri : bI ri) (hmn : bI mn) (hkk : bI kk) (hwh : bI wh) (hM0 : M = 0) (hRn : 0 ≤ Rn ∧ Rn ≤ 4) : Rx (d + 3) m_X12_mean 0 (am_ent [.ref 0, .int (iz ri), .int (iz mn), .int (iz kk), .int (iz wh)] 10) [] (cmH (u1 (u1 z 7 Rn) 28 M) zl f fl tx) (fun rv h => ∃ r : Int, rv = some (.int (iz r)) ∧ h = cmH (u1 (u1 (u1 z 0 0) 7 Rn) 28 M) zl f fl tx ∧ r = -1) := by
  obtain ⟨hri1, hri2⟩ := id hri
  obtain ⟨hmn1, hmn2⟩ := id hmn
  obtain ⟨hkk1, hkk2⟩ := id hkk
  obtain ⟨hwh1, hwh2⟩ := id hwh
  refine Rx.walk 0 (pc' := 0) (L' := [some (.ref 0), some (.int (iz ri)), some (.int (iz mn)), some (.int (iz kk)), some (.int (iz wh)), none, none, none, none, none]) (st' := []) (h' := cmH (u1 (u1 z 7 Rn) 28 M) zl f fl tx) rfl ?_
  refine Rx.walk 5 (pc' := 7) (L' := [some (.ref 0), some (.int (iz ri)), some (.int (iz mn)), some (.int (iz kk)), some (.int (iz wh)), none, none, none, none, none]) (st' := [.int (iz ri), .ref 0]) (h' := cmH (u1 (u1 (u1 z 0 0) 7 Rn) 28 M) zl f fl tx) rfl ?_
  refine Rx.callx (m' := m_X12_isRule) (as := [.ref 0, .int (iz ri)]) (rest := []) rfl (m_isRule _ (u1 (u1 z 0 0) 28 M) zl f fl tx  ri Rn hRn hri) (fun v3 h4 q5 => ?_)
  obtain ⟨r_1, rfl, rfl, f2⟩ := q5
  refine Rx.walk 0 (pc' := 10) (L' := [some (.ref 0), some (.int (iz ri)), some (.int (iz mn)), some (.int (iz kk)), some (.int (iz wh)), none, none, none, none, none]) (st' := [.int (iz r_1)]) (h' := cmH (u1 (u1 (u1 z 0 0) 7 Rn) 28 M) zl f fl tx) rfl ?_
  refine Rx.eq1 rfl rfl ⟨by omega, by omega⟩ (fun b6 => ?_) (fun b6 => ?_)
  · refine Rx.walk 1 (pc' := 45) (L' := [some (.ref 0), some (.int (iz ri)), some (.int (iz mn)), some (.int (iz kk)), some (.int (iz wh)), none, none, none, none, none]) (st' := [.int (iz (-1))]) (h' := cmH (u1 (u1 (u1 z 0 0) 7 Rn) 28 M) zl f fl tx) rfl ?_
    refine Rx.ret rfl ?_
    exact ⟨_, rfl, rfl, rfl⟩
  · refine Rx.walk 2 (pc' := 15) (L' := [some (.ref 0), some (.int (iz ri)), some (.int (iz mn)), some (.int (iz kk)), some (.int (iz wh)), none, none, none, none, none]) (st' := [.int (iz mn), .ref 0]) (h' := cmH (u1 (u1 (u1 z 0 0) 7 Rn) 28 M) zl f fl tx) rfl ?_
    refine Rx.callx (m' := m_X12_isDay) (as := [.ref 0, .int (iz mn)]) (rest := []) rfl (m_isDay _ (u1 (u1 z 0 0) 7 Rn) zl f fl tx  mn M hmn ⟨by omega, by omega⟩) (fun v9 h10 q11 => ?_)
    obtain ⟨r_7, rfl, rfl, f8⟩ := q11
    refine Rx.walk 0 (pc' := 18) (L' := [some (.ref 0), some (.int (iz ri)), some (.int (iz mn)), some (.int (iz kk)), some (.int (iz wh)), none, none, none, none, none]) (st' := [.int (iz r_7)]) (h' := cmH (u1 (u1 (u1 z 0 0) 7 Rn) 28 M) zl f fl tx) rfl ?_
    refine Rx.eq1 rfl rfl ⟨by omega, by omega⟩ (fun b12 => ?_) (fun b12 => by omega)
    refine Rx.walk 1 (pc' := 45) (L' := [some (.ref 0), some (.int (iz ri)), some (.int (iz mn)), some (.int (iz kk)), some (.int (iz wh)), none, none, none, none, none]) (st' := [.int (iz (-1))]) (h' := cmH (u1 (u1 (u1 z 0 0) 7 Rn) 28 M) zl f fl tx) rfl ?_
    refine Rx.ret rfl ?_
    exact ⟨_, rfl, rfl, rfl⟩

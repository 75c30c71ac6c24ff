/-! the model's till: contracts (printed by wip/whole/genmt.py) -/
set_option maxRecDepth 100000 in
set_option maxHeartbeats 4000000 in
theorem m_onTray (d : Nat) (z : Nat → Int) (zl : Nat → Int) (f : Nat → Int → Int) (fl : Nat → Int → Int) (tx : Nat)  (K : Int) (p0 : Int) (p1 : Int) (t : Int) (pp : Int → Int) (li : Int → Int) (ty : Int → Int) (hM : mtI K pp li ty p0 p1 t) : Rx (d) m_X12_onTray 0 (am_ent [.ref 0] 3) [] (cmH z zl (uf (uf (uf f 10 pp) 11 li) 12 ty) fl tx) (fun rv h => ∃ r : Int, rv = some (.int (iz r)) ∧ h = cmH z zl (uf (uf (uf f 10 pp) 11 li) 12 ty) fl tx ∧ ((t = 0 ∧ r = 0) ∨ (t ≠ 0 ∧ r = 1))) := by
  obtain ⟨⟨hm1, hm2, hm3⟩, ⟨hm4, hm5, hm6⟩, hm7, hm8, hm9⟩ := mtI_b hM
  have hmt := mtI_t hM
  have hh0 : 0 ≤ ht p0 ∧ ht p0 ≤ 5 := by have := ht_c p0; omega
  have hh1 : 0 ≤ ht p1 ∧ ht p1 ≤ 5 := by have := ht_c p1; omega
  refine Rx.walk 0 (pc' := 0) (L' := [some (.ref 0), none, none]) (st' := []) (h' := cmH z zl (uf (uf (uf f 10 pp) 11 li) 12 ty) fl tx) rfl ?_
  refine Rx.walk 6 (pc' := 6) (L' := [some (.ref 0), some (.int (iz 0)), some (.int (iz 0))]) (st' := [.int (iz 4), .int (iz 0)]) (h' := cmH z zl (uf (uf (uf f 10 pp) 11 li) 12 ty) fl tx) rfl ?_
  refine Rx.ge2 rfl rfl ⟨by omega, by omega⟩ ⟨by omega, by omega⟩ (fun b1 => by omega) (fun b1 => ?_)
  refine Rx.walk 4 (pc' := 15) (L' := [some (.ref 0), some (.int (iz 0)), some (.int (iz 0))]) (st' := [.int (iz 0), .ref 12, .int (iz 0)]) (h' := cmH z zl (uf (uf (uf f 10 pp) 11 li) 12 ty) fl tx) rfl ?_
  refine Rx.ial (g := ty) rfl rfl (by omega) (by omega) (by omega) ?_
  refine Rx.iadd rfl ?_
  refine Rx.walk 1 (pc' := 18) (L' := [some (.ref 0), some (.int (iz (0 + (ty 0)))), some (.int (iz 0))]) (st' := []) (h' := cmH z zl (uf (uf (uf f 10 pp) 11 li) 12 ty) fl tx) rfl ?_
  refine Rx.iinc (b := 1) rfl rfl rfl ?_
  refine Rx.walk 0 (pc' := 21) (L' := [some (.ref 0), some (.int (iz (0 + (ty 0)))), some (.int (iz 1))]) (st' := []) (h' := cmH z zl (uf (uf (uf f 10 pp) 11 li) 12 ty) fl tx) rfl ?_
  refine Rx.walk 3 (pc' := 6) (L' := [some (.ref 0), some (.int (iz (0 + (ty 0)))), some (.int (iz 1))]) (st' := [.int (iz 4), .int (iz 1)]) (h' := cmH z zl (uf (uf (uf f 10 pp) 11 li) 12 ty) fl tx) rfl ?_
  refine Rx.ge2 rfl rfl ⟨by omega, by omega⟩ ⟨by omega, by omega⟩ (fun b2 => by omega) (fun b2 => ?_)
  refine Rx.walk 4 (pc' := 15) (L' := [some (.ref 0), some (.int (iz (0 + (ty 0)))), some (.int (iz 1))]) (st' := [.int (iz 1), .ref 12, .int (iz (0 + (ty 0)))]) (h' := cmH z zl (uf (uf (uf f 10 pp) 11 li) 12 ty) fl tx) rfl ?_
  refine Rx.ial (g := ty) rfl rfl (by omega) (by omega) (by omega) ?_
  refine Rx.iadd rfl ?_
  refine Rx.walk 1 (pc' := 18) (L' := [some (.ref 0), some (.int (iz ((0 + (ty 0)) + (ty 1)))), some (.int (iz 1))]) (st' := []) (h' := cmH z zl (uf (uf (uf f 10 pp) 11 li) 12 ty) fl tx) rfl ?_
  refine Rx.iinc (b := 1) rfl rfl rfl ?_
  refine Rx.walk 0 (pc' := 21) (L' := [some (.ref 0), some (.int (iz ((0 + (ty 0)) + (ty 1)))), some (.int (iz 2))]) (st' := []) (h' := cmH z zl (uf (uf (uf f 10 pp) 11 li) 12 ty) fl tx) rfl ?_
  refine Rx.walk 3 (pc' := 6) (L' := [some (.ref 0), some (.int (iz ((0 + (ty 0)) + (ty 1)))), some (.int (iz 2))]) (st' := [.int (iz 4), .int (iz 2)]) (h' := cmH z zl (uf (uf (uf f 10 pp) 11 li) 12 ty) fl tx) rfl ?_
  refine Rx.ge2 rfl rfl ⟨by omega, by omega⟩ ⟨by omega, by omega⟩ (fun b3 => by omega) (fun b3 => ?_)
  refine Rx.walk 4 (pc' := 15) (L' := [some (.ref 0), some (.int (iz ((0 + (ty 0)) + (ty 1)))), some (.int (iz 2))]) (st' := [.int (iz 2), .ref 12, .int (iz ((0 + (ty 0)) + (ty 1)))]) (h' := cmH z zl (uf (uf (uf f 10 pp) 11 li) 12 ty) fl tx) rfl ?_
  refine Rx.ial (g := ty) rfl rfl (by omega) (by omega) (by omega) ?_
  refine Rx.iadd rfl ?_
  refine Rx.walk 1 (pc' := 18) (L' := [some (.ref 0), some (.int (iz (((0 + (ty 0)) + (ty 1)) + (ty 2)))), some (.int (iz 2))]) (st' := []) (h' := cmH z zl (uf (uf (uf f 10 pp) 11 li) 12 ty) fl tx) rfl ?_
  refine Rx.iinc (b := 1) rfl rfl rfl ?_
  refine Rx.walk 0 (pc' := 21) (L' := [some (.ref 0), some (.int (iz (((0 + (ty 0)) + (ty 1)) + (ty 2)))), some (.int (iz 3))]) (st' := []) (h' := cmH z zl (uf (uf (uf f 10 pp) 11 li) 12 ty) fl tx) rfl ?_
  refine Rx.walk 3 (pc' := 6) (L' := [some (.ref 0), some (.int (iz (((0 + (ty 0)) + (ty 1)) + (ty 2)))), some (.int (iz 3))]) (st' := [.int (iz 4), .int (iz 3)]) (h' := cmH z zl (uf (uf (uf f 10 pp) 11 li) 12 ty) fl tx) rfl ?_
  refine Rx.ge2 rfl rfl ⟨by omega, by omega⟩ ⟨by omega, by omega⟩ (fun b4 => by omega) (fun b4 => ?_)
  refine Rx.walk 4 (pc' := 15) (L' := [some (.ref 0), some (.int (iz (((0 + (ty 0)) + (ty 1)) + (ty 2)))), some (.int (iz 3))]) (st' := [.int (iz 3), .ref 12, .int (iz (((0 + (ty 0)) + (ty 1)) + (ty 2)))]) (h' := cmH z zl (uf (uf (uf f 10 pp) 11 li) 12 ty) fl tx) rfl ?_
  refine Rx.ial (g := ty) rfl rfl (by omega) (by omega) (by omega) ?_
  refine Rx.iadd rfl ?_
  refine Rx.walk 1 (pc' := 18) (L' := [some (.ref 0), some (.int (iz ((((0 + (ty 0)) + (ty 1)) + (ty 2)) + (ty 3)))), some (.int (iz 3))]) (st' := []) (h' := cmH z zl (uf (uf (uf f 10 pp) 11 li) 12 ty) fl tx) rfl ?_
  refine Rx.iinc (b := 1) rfl rfl rfl ?_
  refine Rx.walk 0 (pc' := 21) (L' := [some (.ref 0), some (.int (iz ((((0 + (ty 0)) + (ty 1)) + (ty 2)) + (ty 3)))), some (.int (iz 4))]) (st' := []) (h' := cmH z zl (uf (uf (uf f 10 pp) 11 li) 12 ty) fl tx) rfl ?_
  refine Rx.walk 3 (pc' := 6) (L' := [some (.ref 0), some (.int (iz ((((0 + (ty 0)) + (ty 1)) + (ty 2)) + (ty 3)))), some (.int (iz 4))]) (st' := [.int (iz 4), .int (iz 4)]) (h' := cmH z zl (uf (uf (uf f 10 pp) 11 li) 12 ty) fl tx) rfl ?_
  refine Rx.ge2 rfl rfl ⟨by omega, by omega⟩ ⟨by omega, by omega⟩ (fun b5 => ?_) (fun b5 => by omega)
  refine Rx.walk 1 (pc' := 25) (L' := [some (.ref 0), some (.int (iz ((((0 + (ty 0)) + (ty 1)) + (ty 2)) + (ty 3)))), some (.int (iz 4))]) (st' := [.int (iz ((((0 + (ty 0)) + (ty 1)) + (ty 2)) + (ty 3)))]) (h' := cmH z zl (uf (uf (uf f 10 pp) 11 li) 12 ty) fl tx) rfl ?_
  refine Rx.ret rfl ?_
  exact ⟨_, rfl, rfl, (by omega)⟩
set_option maxRecDepth 100000 in
set_option maxHeartbeats 4000000 in
theorem m_trayKind (d : Nat) (z : Nat → Int) (zl : Nat → Int) (f : Nat → Int → Int) (fl : Nat → Int → Int) (tx : Nat)  (K : Int) (p0 : Int) (p1 : Int) (t : Int) (pp : Int → Int) (li : Int → Int) (ty : Int → Int) (hM : mtI K pp li ty p0 p1 t) : Rx (d) m_X12_trayKind 0 (am_ent [.ref 0] 2) [] (cmH z zl (uf (uf (uf f 10 pp) 11 li) 12 ty) fl tx) (fun rv h => ∃ r : Int, rv = some (.int (iz r)) ∧ h = cmH z zl (uf (uf (uf f 10 pp) 11 li) 12 ty) fl tx ∧ r = t - 1) := by
  obtain ⟨⟨hm1, hm2, hm3⟩, ⟨hm4, hm5, hm6⟩, hm7, hm8, hm9⟩ := mtI_b hM
  have hmt := mtI_t hM
  have hh0 : 0 ≤ ht p0 ∧ ht p0 ≤ 5 := by have := ht_c p0; omega
  have hh1 : 0 ≤ ht p1 ∧ ht p1 ≤ 5 := by have := ht_c p1; omega
  refine Rx.walk 0 (pc' := 0) (L' := [some (.ref 0), none]) (st' := []) (h' := cmH z zl (uf (uf (uf f 10 pp) 11 li) 12 ty) fl tx) rfl ?_
  refine Rx.walk 4 (pc' := 4) (L' := [some (.ref 0), some (.int (iz 0))]) (st' := [.int (iz 4), .int (iz 0)]) (h' := cmH z zl (uf (uf (uf f 10 pp) 11 li) 12 ty) fl tx) rfl ?_
  refine Rx.ge2 rfl rfl ⟨by omega, by omega⟩ ⟨by omega, by omega⟩ (fun b1 => by omega) (fun b1 => ?_)
  refine Rx.walk 3 (pc' := 12) (L' := [some (.ref 0), some (.int (iz 0))]) (st' := [.int (iz 0), .ref 12]) (h' := cmH z zl (uf (uf (uf f 10 pp) 11 li) 12 ty) fl tx) rfl ?_
  refine Rx.ial (g := ty) rfl rfl (by omega) (by omega) (by omega) ?_
  refine Rx.le1 rfl rfl ⟨by omega, by omega⟩ (fun b2 => ?_) (fun b2 => ?_)
  · refine Rx.iinc (b := 1) rfl rfl rfl ?_
    refine Rx.walk 0 (pc' := 21) (L' := [some (.ref 0), some (.int (iz 1))]) (st' := []) (h' := cmH z zl (uf (uf (uf f 10 pp) 11 li) 12 ty) fl tx) rfl ?_
    refine Rx.walk 3 (pc' := 4) (L' := [some (.ref 0), some (.int (iz 1))]) (st' := [.int (iz 4), .int (iz 1)]) (h' := cmH z zl (uf (uf (uf f 10 pp) 11 li) 12 ty) fl tx) rfl ?_
    refine Rx.ge2 rfl rfl ⟨by omega, by omega⟩ ⟨by omega, by omega⟩ (fun b3 => by omega) (fun b3 => ?_)
    refine Rx.walk 3 (pc' := 12) (L' := [some (.ref 0), some (.int (iz 1))]) (st' := [.int (iz 1), .ref 12]) (h' := cmH z zl (uf (uf (uf f 10 pp) 11 li) 12 ty) fl tx) rfl ?_
    refine Rx.ial (g := ty) rfl rfl (by omega) (by omega) (by omega) ?_
    refine Rx.le1 rfl rfl ⟨by omega, by omega⟩ (fun b4 => ?_) (fun b4 => ?_)
    · refine Rx.iinc (b := 1) rfl rfl rfl ?_
      refine Rx.walk 0 (pc' := 21) (L' := [some (.ref 0), some (.int (iz 2))]) (st' := []) (h' := cmH z zl (uf (uf (uf f 10 pp) 11 li) 12 ty) fl tx) rfl ?_
      refine Rx.walk 3 (pc' := 4) (L' := [some (.ref 0), some (.int (iz 2))]) (st' := [.int (iz 4), .int (iz 2)]) (h' := cmH z zl (uf (uf (uf f 10 pp) 11 li) 12 ty) fl tx) rfl ?_
      refine Rx.ge2 rfl rfl ⟨by omega, by omega⟩ ⟨by omega, by omega⟩ (fun b5 => by omega) (fun b5 => ?_)
      refine Rx.walk 3 (pc' := 12) (L' := [some (.ref 0), some (.int (iz 2))]) (st' := [.int (iz 2), .ref 12]) (h' := cmH z zl (uf (uf (uf f 10 pp) 11 li) 12 ty) fl tx) rfl ?_
      refine Rx.ial (g := ty) rfl rfl (by omega) (by omega) (by omega) ?_
      refine Rx.le1 rfl rfl ⟨by omega, by omega⟩ (fun b6 => ?_) (fun b6 => ?_)
      · refine Rx.iinc (b := 1) rfl rfl rfl ?_
        refine Rx.walk 0 (pc' := 21) (L' := [some (.ref 0), some (.int (iz 3))]) (st' := []) (h' := cmH z zl (uf (uf (uf f 10 pp) 11 li) 12 ty) fl tx) rfl ?_
        refine Rx.walk 3 (pc' := 4) (L' := [some (.ref 0), some (.int (iz 3))]) (st' := [.int (iz 4), .int (iz 3)]) (h' := cmH z zl (uf (uf (uf f 10 pp) 11 li) 12 ty) fl tx) rfl ?_
        refine Rx.ge2 rfl rfl ⟨by omega, by omega⟩ ⟨by omega, by omega⟩ (fun b7 => by omega) (fun b7 => ?_)
        refine Rx.walk 3 (pc' := 12) (L' := [some (.ref 0), some (.int (iz 3))]) (st' := [.int (iz 3), .ref 12]) (h' := cmH z zl (uf (uf (uf f 10 pp) 11 li) 12 ty) fl tx) rfl ?_
        refine Rx.ial (g := ty) rfl rfl (by omega) (by omega) (by omega) ?_
        refine Rx.le1 rfl rfl ⟨by omega, by omega⟩ (fun b8 => ?_) (fun b8 => ?_)
        · refine Rx.iinc (b := 1) rfl rfl rfl ?_
          refine Rx.walk 0 (pc' := 21) (L' := [some (.ref 0), some (.int (iz 4))]) (st' := []) (h' := cmH z zl (uf (uf (uf f 10 pp) 11 li) 12 ty) fl tx) rfl ?_
          refine Rx.walk 3 (pc' := 4) (L' := [some (.ref 0), some (.int (iz 4))]) (st' := [.int (iz 4), .int (iz 4)]) (h' := cmH z zl (uf (uf (uf f 10 pp) 11 li) 12 ty) fl tx) rfl ?_
          refine Rx.ge2 rfl rfl ⟨by omega, by omega⟩ ⟨by omega, by omega⟩ (fun b9 => ?_) (fun b9 => by omega)
          refine Rx.walk 1 (pc' := 25) (L' := [some (.ref 0), some (.int (iz 4))]) (st' := [.int (iz (-1))]) (h' := cmH z zl (uf (uf (uf f 10 pp) 11 li) 12 ty) fl tx) rfl ?_
          refine Rx.ret rfl ?_
          exact ⟨_, rfl, rfl, (by omega)⟩
        · refine Rx.walk 1 (pc' := 17) (L' := [some (.ref 0), some (.int (iz 3))]) (st' := [.int (iz 3)]) (h' := cmH z zl (uf (uf (uf f 10 pp) 11 li) 12 ty) fl tx) rfl ?_
          refine Rx.ret rfl ?_
          exact ⟨_, rfl, rfl, (by omega)⟩
      · refine Rx.walk 1 (pc' := 17) (L' := [some (.ref 0), some (.int (iz 2))]) (st' := [.int (iz 2)]) (h' := cmH z zl (uf (uf (uf f 10 pp) 11 li) 12 ty) fl tx) rfl ?_
        refine Rx.ret rfl ?_
        exact ⟨_, rfl, rfl, (by omega)⟩
    · refine Rx.walk 1 (pc' := 17) (L' := [some (.ref 0), some (.int (iz 1))]) (st' := [.int (iz 1)]) (h' := cmH z zl (uf (uf (uf f 10 pp) 11 li) 12 ty) fl tx) rfl ?_
      refine Rx.ret rfl ?_
      exact ⟨_, rfl, rfl, (by omega)⟩
  · refine Rx.walk 1 (pc' := 17) (L' := [some (.ref 0), some (.int (iz 0))]) (st' := [.int (iz 0)]) (h' := cmH z zl (uf (uf (uf f 10 pp) 11 li) 12 ty) fl tx) rfl ?_
    refine Rx.ret rfl ?_
    exact ⟨_, rfl, rfl, (by omega)⟩
set_option maxRecDepth 100000 in
set_option maxHeartbeats 4000000 in
theorem m_top0 (d : Nat) (z : Nat → Int) (zl : Nat → Int) (f : Nat → Int → Int) (fl : Nat → Int → Int) (tx : Nat)  (K : Int) (p0 : Int) (p1 : Int) (t : Int) (pp : Int → Int) (li : Int → Int) (ty : Int → Int) (hM : mtI K pp li ty p0 p1 t) : Rx (d) m_X12_top 0 (am_ent [.ref 0, .int (iz 0)] 2) [] (cmH z zl (uf (uf (uf f 10 pp) 11 li) 12 ty) fl tx) (fun rv h => ∃ r : Int, rv = some (.int (iz r)) ∧ h = cmH z zl (uf (uf (uf f 10 pp) 11 li) 12 ty) fl tx ∧ r = p0 % 5 - 1 ∧ ((p0 = 0 ∧ r = -1 ∧ li 0 = 0) ∨ (0 ≤ r ∧ r < K ∧ 1 ≤ li 0 ∧ 1 ≤ p0))) := by
  obtain ⟨⟨hm1, hm2, hm3⟩, ⟨hm4, hm5, hm6⟩, hm7, hm8, hm9⟩ := mtI_b hM
  have hmt := mtI_t hM
  have hh0 : 0 ≤ ht p0 ∧ ht p0 ≤ 5 := by have := ht_c p0; omega
  have hh1 : 0 ≤ ht p1 ∧ ht p1 ≤ 5 := by have := ht_c p1; omega
  have htop := mtI_top0 hM
  refine Rx.walk 0 (pc' := 0) (L' := [some (.ref 0), some (.int (iz 0))]) (st' := []) (h' := cmH z zl (uf (uf (uf f 10 pp) 11 li) 12 ty) fl tx) rfl ?_
  refine Rx.walk 3 (pc' := 5) (L' := [some (.ref 0), some (.int (iz 0))]) (st' := [.int (iz 0), .ref 11]) (h' := cmH z zl (uf (uf (uf f 10 pp) 11 li) 12 ty) fl tx) rfl ?_
  refine Rx.ial (g := li) rfl rfl (by omega) (by omega) (by omega) ?_
  refine Rx.ne1 rfl rfl ⟨by omega, by omega⟩ (fun b1 => ?_) (fun b1 => ?_)
  · refine Rx.walk 4 (pc' := 19) (L' := [some (.ref 0), some (.int (iz 0))]) (st' := [.int (iz 0), .int (iz 5), .ref 10]) (h' := cmH z zl (uf (uf (uf f 10 pp) 11 li) 12 ty) fl tx) rfl ?_
    refine Rx.imul rfl ?_
    refine Rx.walk 0 (pc' := 20) (L' := [some (.ref 0), some (.int (iz 0))]) (st' := [.int (iz 0), .ref 10]) (h' := cmH z zl (uf (uf (uf f 10 pp) 11 li) 12 ty) fl tx) rfl ?_
    refine Rx.walk 3 (pc' := 25) (L' := [some (.ref 0), some (.int (iz 0))]) (st' := [.int (iz 0), .ref 11, .int (iz 0), .ref 10]) (h' := cmH z zl (uf (uf (uf f 10 pp) 11 li) 12 ty) fl tx) rfl ?_
    refine Rx.ial (g := li) rfl rfl (by omega) (by omega) (by omega) ?_
    refine Rx.iadd rfl ?_
    refine Rx.walk 1 (pc' := 28) (L' := [some (.ref 0), some (.int (iz 0))]) (st' := [.int (iz 1), .int (iz (0 + (li 0))), .ref 10]) (h' := cmH z zl (uf (uf (uf f 10 pp) 11 li) 12 ty) fl tx) rfl ?_
    refine Rx.isub rfl ?_
    refine Rx.ial (g := pp) rfl rfl (by omega) (by omega) (by omega) ?_
    refine Rx.ret rfl ?_
    have e : (pp ((0 + (li 0)) - 1)) = p0 % 5 - 1 := by
      rcases htop with ⟨h1, h2⟩ | ⟨h1, h2, h3, h4⟩
      · omega
      · rw [Int.zero_add]; exact h2
    exact ⟨_, rfl, rfl, e, by rw [e]; omega⟩
  · refine Rx.walk 2 (pc' := 30) (L' := [some (.ref 0), some (.int (iz 0))]) (st' := [.int (iz (-1))]) (h' := cmH z zl (uf (uf (uf f 10 pp) 11 li) 12 ty) fl tx) rfl ?_
    refine Rx.ret rfl ?_
    exact ⟨_, rfl, rfl, by omega, by omega⟩
set_option maxRecDepth 100000 in
set_option maxHeartbeats 4000000 in
theorem m_top1 (d : Nat) (z : Nat → Int) (zl : Nat → Int) (f : Nat → Int → Int) (fl : Nat → Int → Int) (tx : Nat)  (K : Int) (p0 : Int) (p1 : Int) (t : Int) (pp : Int → Int) (li : Int → Int) (ty : Int → Int) (hM : mtI K pp li ty p0 p1 t) : Rx (d) m_X12_top 0 (am_ent [.ref 0, .int (iz 1)] 2) [] (cmH z zl (uf (uf (uf f 10 pp) 11 li) 12 ty) fl tx) (fun rv h => ∃ r : Int, rv = some (.int (iz r)) ∧ h = cmH z zl (uf (uf (uf f 10 pp) 11 li) 12 ty) fl tx ∧ r = p1 % 5 - 1 ∧ ((p1 = 0 ∧ r = -1 ∧ li 1 = 0) ∨ (0 ≤ r ∧ r < K ∧ 1 ≤ li 1 ∧ 1 ≤ p1))) := by
  obtain ⟨⟨hm1, hm2, hm3⟩, ⟨hm4, hm5, hm6⟩, hm7, hm8, hm9⟩ := mtI_b hM
  have hmt := mtI_t hM
  have hh0 : 0 ≤ ht p0 ∧ ht p0 ≤ 5 := by have := ht_c p0; omega
  have hh1 : 0 ≤ ht p1 ∧ ht p1 ≤ 5 := by have := ht_c p1; omega
  have htop := mtI_top1 hM
  refine Rx.walk 0 (pc' := 0) (L' := [some (.ref 0), some (.int (iz 1))]) (st' := []) (h' := cmH z zl (uf (uf (uf f 10 pp) 11 li) 12 ty) fl tx) rfl ?_
  refine Rx.walk 3 (pc' := 5) (L' := [some (.ref 0), some (.int (iz 1))]) (st' := [.int (iz 1), .ref 11]) (h' := cmH z zl (uf (uf (uf f 10 pp) 11 li) 12 ty) fl tx) rfl ?_
  refine Rx.ial (g := li) rfl rfl (by omega) (by omega) (by omega) ?_
  refine Rx.ne1 rfl rfl ⟨by omega, by omega⟩ (fun b1 => ?_) (fun b1 => ?_)
  · refine Rx.walk 4 (pc' := 19) (L' := [some (.ref 0), some (.int (iz 1))]) (st' := [.int (iz 1), .int (iz 5), .ref 10]) (h' := cmH z zl (uf (uf (uf f 10 pp) 11 li) 12 ty) fl tx) rfl ?_
    refine Rx.imul rfl ?_
    refine Rx.walk 0 (pc' := 20) (L' := [some (.ref 0), some (.int (iz 1))]) (st' := [.int (iz 5), .ref 10]) (h' := cmH z zl (uf (uf (uf f 10 pp) 11 li) 12 ty) fl tx) rfl ?_
    refine Rx.walk 3 (pc' := 25) (L' := [some (.ref 0), some (.int (iz 1))]) (st' := [.int (iz 1), .ref 11, .int (iz 5), .ref 10]) (h' := cmH z zl (uf (uf (uf f 10 pp) 11 li) 12 ty) fl tx) rfl ?_
    refine Rx.ial (g := li) rfl rfl (by omega) (by omega) (by omega) ?_
    refine Rx.iadd rfl ?_
    refine Rx.walk 1 (pc' := 28) (L' := [some (.ref 0), some (.int (iz 1))]) (st' := [.int (iz 1), .int (iz (5 + (li 1))), .ref 10]) (h' := cmH z zl (uf (uf (uf f 10 pp) 11 li) 12 ty) fl tx) rfl ?_
    refine Rx.isub rfl ?_
    refine Rx.ial (g := pp) rfl rfl (by omega) (by omega) (by omega) ?_
    refine Rx.ret rfl ?_
    have e : (pp ((5 + (li 1)) - 1)) = p1 % 5 - 1 := by
      rcases htop with ⟨h1, h2⟩ | ⟨h1, h2, h3, h4⟩
      · omega
      · exact h2
    exact ⟨_, rfl, rfl, e, by rw [e]; omega⟩
  · refine Rx.walk 2 (pc' := 30) (L' := [some (.ref 0), some (.int (iz 1))]) (st' := [.int (iz (-1))]) (h' := cmH z zl (uf (uf (uf f 10 pp) 11 li) 12 ty) fl tx) rfl ?_
    refine Rx.ret rfl ?_
    exact ⟨_, rfl, rfl, by omega, by omega⟩
set_option maxRecDepth 100000 in
set_option maxHeartbeats 4000000 in
theorem m_push0 (d : Nat) (z : Nat → Int) (zl : Nat → Int) (f : Nat → Int → Int) (fl : Nat → Int → Int) (tx : Nat)  (pp : Int → Int) (li : Int → Int) (ty : Int → Int) (k : Int) (h0 : 0 ≤ li 0) (h1 : li 0 ≤ 4) : Rx (d) m_X12_push 0 (am_ent [.ref 0, .int (iz 0), .int (iz k)] 3) [] (cmH z zl (uf (uf (uf f 10 pp) 11 li) 12 ty) fl tx) (fun rv h => rv = none ∧ h = cmH z zl (uf (uf (uf f 10 (iu pp (0 + (li 0)) k)) 11 (iu li 0 ((li 0) + 1))) 12 ty) fl tx) := by
  refine Rx.walk 0 (pc' := 0) (L' := [some (.ref 0), some (.int (iz 0)), some (.int (iz k))]) (st' := []) (h' := cmH z zl (uf (uf (uf f 10 pp) 11 li) 12 ty) fl tx) rfl ?_
  refine Rx.walk 4 (pc' := 6) (L' := [some (.ref 0), some (.int (iz 0)), some (.int (iz k))]) (st' := [.int (iz 0), .int (iz 5), .ref 10]) (h' := cmH z zl (uf (uf (uf f 10 pp) 11 li) 12 ty) fl tx) rfl ?_
  refine Rx.imul rfl ?_
  refine Rx.walk 0 (pc' := 7) (L' := [some (.ref 0), some (.int (iz 0)), some (.int (iz k))]) (st' := [.int (iz 0), .ref 10]) (h' := cmH z zl (uf (uf (uf f 10 pp) 11 li) 12 ty) fl tx) rfl ?_
  refine Rx.walk 3 (pc' := 12) (L' := [some (.ref 0), some (.int (iz 0)), some (.int (iz k))]) (st' := [.int (iz 0), .ref 11, .int (iz 0), .ref 10]) (h' := cmH z zl (uf (uf (uf f 10 pp) 11 li) 12 ty) fl tx) rfl ?_
  refine Rx.ial (g := li) rfl rfl (by omega) (by omega) (by omega) ?_
  refine Rx.iadd rfl ?_
  refine Rx.walk 1 (pc' := 15) (L' := [some (.ref 0), some (.int (iz 0)), some (.int (iz k))]) (st' := [.int (iz k), .int (iz (0 + (li 0))), .ref 10]) (h' := cmH z zl (uf (uf (uf f 10 pp) 11 li) 12 ty) fl tx) rfl ?_
  refine Rx.ias (g := pp) (h' := cmH z zl (uf (uf (uf f 10 (iu pp (0 + (li 0)) k)) 11 li) 12 ty) fl tx) rfl rfl (by omega) (by omega) (by omega) rfl ?_
  refine Rx.walk 4 (pc' := 22) (L' := [some (.ref 0), some (.int (iz 0)), some (.int (iz k))]) (st' := [.int (iz 0), .ref 11, .int (iz 0), .ref 11]) (h' := cmH z zl (uf (uf (uf f 10 (iu pp (0 + (li 0)) k)) 11 li) 12 ty) fl tx) rfl ?_
  refine Rx.ial (g := li) rfl rfl (by omega) (by omega) (by omega) ?_
  refine Rx.walk 1 (pc' := 24) (L' := [some (.ref 0), some (.int (iz 0)), some (.int (iz k))]) (st' := [.int (iz 1), .int (iz (li 0)), .int (iz 0), .ref 11]) (h' := cmH z zl (uf (uf (uf f 10 (iu pp (0 + (li 0)) k)) 11 li) 12 ty) fl tx) rfl ?_
  refine Rx.iadd rfl ?_
  refine Rx.ias (g := li) (h' := cmH z zl (uf (uf (uf f 10 (iu pp (0 + (li 0)) k)) 11 (iu li 0 ((li 0) + 1))) 12 ty) fl tx) rfl rfl (by omega) (by omega) (by omega) rfl ?_
  refine Rx.ret rfl ?_
  exact ⟨rfl, rfl⟩
set_option maxRecDepth 100000 in
set_option maxHeartbeats 4000000 in
theorem m_push1 (d : Nat) (z : Nat → Int) (zl : Nat → Int) (f : Nat → Int → Int) (fl : Nat → Int → Int) (tx : Nat)  (pp : Int → Int) (li : Int → Int) (ty : Int → Int) (k : Int) (h0 : 0 ≤ li 1) (h1 : li 1 ≤ 4) : Rx (d) m_X12_push 0 (am_ent [.ref 0, .int (iz 1), .int (iz k)] 3) [] (cmH z zl (uf (uf (uf f 10 pp) 11 li) 12 ty) fl tx) (fun rv h => rv = none ∧ h = cmH z zl (uf (uf (uf f 10 (iu pp (5 + (li 1)) k)) 11 (iu li 1 ((li 1) + 1))) 12 ty) fl tx) := by
  refine Rx.walk 0 (pc' := 0) (L' := [some (.ref 0), some (.int (iz 1)), some (.int (iz k))]) (st' := []) (h' := cmH z zl (uf (uf (uf f 10 pp) 11 li) 12 ty) fl tx) rfl ?_
  refine Rx.walk 4 (pc' := 6) (L' := [some (.ref 0), some (.int (iz 1)), some (.int (iz k))]) (st' := [.int (iz 1), .int (iz 5), .ref 10]) (h' := cmH z zl (uf (uf (uf f 10 pp) 11 li) 12 ty) fl tx) rfl ?_
  refine Rx.imul rfl ?_
  refine Rx.walk 0 (pc' := 7) (L' := [some (.ref 0), some (.int (iz 1)), some (.int (iz k))]) (st' := [.int (iz 5), .ref 10]) (h' := cmH z zl (uf (uf (uf f 10 pp) 11 li) 12 ty) fl tx) rfl ?_
  refine Rx.walk 3 (pc' := 12) (L' := [some (.ref 0), some (.int (iz 1)), some (.int (iz k))]) (st' := [.int (iz 1), .ref 11, .int (iz 5), .ref 10]) (h' := cmH z zl (uf (uf (uf f 10 pp) 11 li) 12 ty) fl tx) rfl ?_
  refine Rx.ial (g := li) rfl rfl (by omega) (by omega) (by omega) ?_
  refine Rx.iadd rfl ?_
  refine Rx.walk 1 (pc' := 15) (L' := [some (.ref 0), some (.int (iz 1)), some (.int (iz k))]) (st' := [.int (iz k), .int (iz (5 + (li 1))), .ref 10]) (h' := cmH z zl (uf (uf (uf f 10 pp) 11 li) 12 ty) fl tx) rfl ?_
  refine Rx.ias (g := pp) (h' := cmH z zl (uf (uf (uf f 10 (iu pp (5 + (li 1)) k)) 11 li) 12 ty) fl tx) rfl rfl (by omega) (by omega) (by omega) rfl ?_
  refine Rx.walk 4 (pc' := 22) (L' := [some (.ref 0), some (.int (iz 1)), some (.int (iz k))]) (st' := [.int (iz 1), .ref 11, .int (iz 1), .ref 11]) (h' := cmH z zl (uf (uf (uf f 10 (iu pp (5 + (li 1)) k)) 11 li) 12 ty) fl tx) rfl ?_
  refine Rx.ial (g := li) rfl rfl (by omega) (by omega) (by omega) ?_
  refine Rx.walk 1 (pc' := 24) (L' := [some (.ref 0), some (.int (iz 1)), some (.int (iz k))]) (st' := [.int (iz 1), .int (iz (li 1)), .int (iz 1), .ref 11]) (h' := cmH z zl (uf (uf (uf f 10 (iu pp (5 + (li 1)) k)) 11 li) 12 ty) fl tx) rfl ?_
  refine Rx.iadd rfl ?_
  refine Rx.ias (g := li) (h' := cmH z zl (uf (uf (uf f 10 (iu pp (5 + (li 1)) k)) 11 (iu li 1 ((li 1) + 1))) 12 ty) fl tx) rfl rfl (by omega) (by omega) (by omega) rfl ?_
  refine Rx.ret rfl ?_
  exact ⟨rfl, rfl⟩
set_option maxRecDepth 100000 in
set_option maxHeartbeats 4000000 in
theorem m_tillNow_l0 (d : Nat) (z : Nat → Int) (zl : Nat → Int) (f : Nat → Int → Int) (fl : Nat → Int → Int) (tx : Nat)  (K : Int) (p0 : Int) (p1 : Int) (t : Int) (pp : Int → Int) (li : Int → Int) (ty : Int → Int) (v : Int) (hM : mtI K pp li ty p0 p1 t) (P : Option Value → AmH → Prop) (hx0 : ∀ (i' : Int), Rx (d) m_X12_tillNow 52 [some (.ref 0), some (.long (jz v)), none, some (.int (iz 0)), some (.int (iz p0)), some (.int (iz i'))] [] (cmH z zl (uf (uf (uf f 10 pp) 11 li) 12 ty) fl tx) P) : ∀ (k : Nat) (n : Int) (i : Int), (0 ≤ i) → (i ≤ li 0) → (n = pv pp 0 i.toNat) → (li 0 - i) < (k : Int) → Rx (d) m_X12_tillNow 15 [some (.ref 0), some (.long (jz v)), none, some (.int (iz 0)), some (.int (iz n)), some (.int (iz i))] [] (cmH z zl (uf (uf (uf f 10 pp) 11 li) 12 ty) fl tx) P := by
  obtain ⟨⟨hm1, hm2, hm3⟩, ⟨hm4, hm5, hm6⟩, hm7, hm8, hm9⟩ := mtI_b hM
  have hmt := mtI_t hM
  have hh0 : 0 ≤ ht p0 ∧ ht p0 ≤ 5 := by have := ht_c p0; omega
  have hh1 : 0 ≤ ht p1 ∧ ht p1 ≤ 5 := by have := ht_c p1; omega
  obtain ⟨m, m5, hl, hpr⟩ : ∃ n : Nat, n ≤ 5 ∧ li 0 = n ∧ prI K pp 0 n p0 := by obtain ⟨-, -, a, b, -⟩ := hM; exact a
  intro k
  induction k with
  | zero =>
    intro n i i0 i1 hn hk
    exfalso; omega
  | succ k ih =>
    intro n i i0 i1 hn hk
    refine Rx.walk 4 (pc' := 22) (L' := [some (.ref 0), some (.long (jz v)), none, some (.int (iz 0)), some (.int (iz n)), some (.int (iz i))]) (st' := [.int (iz 0), .ref 11, .int (iz i)]) (h' := cmH z zl (uf (uf (uf f 10 pp) 11 li) 12 ty) fl tx) rfl ?_
    refine Rx.ial (g := li) rfl rfl (by omega) (by omega) (by omega) ?_
    refine Rx.ge2 rfl rfl ⟨by omega, by omega⟩ ⟨by omega, by omega⟩ (fun b1 => ?_) (fun b1 => ?_)
    · have e : n = p0 := by rw [hn, show i.toNat = m by omega]; exact prI_pv hpr
      subst e
      exact hx0 _ 
    · refine Rx.walk 2 (pc' := 29) (L' := [some (.ref 0), some (.long (jz v)), none, some (.int (iz 0)), some (.int (iz n)), some (.int (iz i))]) (st' := [.int (iz n), .int (iz 5)]) (h' := cmH z zl (uf (uf (uf f 10 pp) 11 li) 12 ty) fl tx) rfl ?_
      refine Rx.imul rfl ?_
      refine Rx.walk 4 (pc' := 36) (L' := [some (.ref 0), some (.long (jz v)), none, some (.int (iz 0)), some (.int (iz n)), some (.int (iz i))]) (st' := [.int (iz 0), .int (iz 5), .ref 10, .int (iz (5 * n))]) (h' := cmH z zl (uf (uf (uf f 10 pp) 11 li) 12 ty) fl tx) rfl ?_
      refine Rx.imul rfl ?_
      refine Rx.walk 0 (pc' := 37) (L' := [some (.ref 0), some (.long (jz v)), none, some (.int (iz 0)), some (.int (iz n)), some (.int (iz i))]) (st' := [.int (iz 0), .ref 10, .int (iz (5 * n))]) (h' := cmH z zl (uf (uf (uf f 10 pp) 11 li) 12 ty) fl tx) rfl ?_
      refine Rx.walk 1 (pc' := 39) (L' := [some (.ref 0), some (.long (jz v)), none, some (.int (iz 0)), some (.int (iz n)), some (.int (iz i))]) (st' := [.int (iz i), .int (iz 0), .ref 10, .int (iz (5 * n))]) (h' := cmH z zl (uf (uf (uf f 10 pp) 11 li) 12 ty) fl tx) rfl ?_
      refine Rx.iadd rfl ?_
      refine Rx.ial (g := pp) rfl rfl (by omega) (by omega) (by omega) ?_
      have y := (pv_b hm9 hpr (m := i.toNat) (by omega) (by omega) (by omega)).2.2 (by omega)
      refine Rx.iadd rfl ?_
      refine Rx.walk 1 (pc' := 43) (L' := [some (.ref 0), some (.long (jz v)), none, some (.int (iz 0)), some (.int (iz n)), some (.int (iz i))]) (st' := [.int (iz 1), .int (iz ((5 * n) + (pp (0 + i))))]) (h' := cmH z zl (uf (uf (uf f 10 pp) 11 li) 12 ty) fl tx) rfl ?_
      refine Rx.iadd rfl ?_
      refine Rx.walk 1 (pc' := 46) (L' := [some (.ref 0), some (.long (jz v)), none, some (.int (iz 0)), some (.int (iz (((5 * n) + (pp (0 + i))) + 1))), some (.int (iz i))]) (st' := []) (h' := cmH z zl (uf (uf (uf f 10 pp) 11 li) 12 ty) fl tx) rfl ?_
      refine Rx.iinc (b := 1) rfl rfl rfl ?_
      refine Rx.walk 0 (pc' := 49) (L' := [some (.ref 0), some (.long (jz v)), none, some (.int (iz 0)), some (.int (iz (((5 * n) + (pp (0 + i))) + 1))), some (.int (iz (i + 1)))]) (st' := []) (h' := cmH z zl (uf (uf (uf f 10 pp) 11 li) 12 ty) fl tx) rfl ?_
      refine Rx.walk 1 (pc' := 15) (L' := [some (.ref 0), some (.long (jz v)), none, some (.int (iz 0)), some (.int (iz (((5 * n) + (pp (0 + i))) + 1))), some (.int (iz (i + 1)))]) (st' := []) (h' := cmH z zl (uf (uf (uf f 10 pp) 11 li) 12 ty) fl tx) rfl ?_
      exact ih (((5 * n) + (pp (0 + i))) + 1) (i + 1) (by first | assumption | omega) (by first | assumption | omega) (by rw [show (i + 1).toNat = i.toNat + 1 by omega]; show _ = 5 * pv pp 0 i.toNat + pp (0 + (i.toNat : Int)) + 1; rw [hn, Int.toNat_of_nonneg i0]) (by first | assumption | omega) 
set_option maxRecDepth 100000 in
set_option maxHeartbeats 4000000 in
theorem m_tillNow_l1 (d : Nat) (z : Nat → Int) (zl : Nat → Int) (f : Nat → Int → Int) (fl : Nat → Int → Int) (tx : Nat)  (K : Int) (p0 : Int) (p1 : Int) (t : Int) (pp : Int → Int) (li : Int → Int) (ty : Int → Int) (v : Int) (hM : mtI K pp li ty p0 p1 t) (P : Option Value → AmH → Prop) (hx0 : ∀ (i' : Int), Rx (d) m_X12_tillNow 52 [some (.ref 0), some (.long (jz v)), none, some (.int (iz 1)), some (.int (iz p1)), some (.int (iz i'))] [] (cmH z zl (uf (uf (uf f 10 pp) 11 li) 12 ty) fl tx) P) : ∀ (k : Nat) (n : Int) (i : Int), (0 ≤ i) → (i ≤ li 1) → (n = pv pp 5 i.toNat) → (li 1 - i) < (k : Int) → Rx (d) m_X12_tillNow 15 [some (.ref 0), some (.long (jz v)), none, some (.int (iz 1)), some (.int (iz n)), some (.int (iz i))] [] (cmH z zl (uf (uf (uf f 10 pp) 11 li) 12 ty) fl tx) P := by
  obtain ⟨⟨hm1, hm2, hm3⟩, ⟨hm4, hm5, hm6⟩, hm7, hm8, hm9⟩ := mtI_b hM
  have hmt := mtI_t hM
  have hh0 : 0 ≤ ht p0 ∧ ht p0 ≤ 5 := by have := ht_c p0; omega
  have hh1 : 0 ≤ ht p1 ∧ ht p1 ≤ 5 := by have := ht_c p1; omega
  obtain ⟨m, m5, hl, hpr⟩ : ∃ n : Nat, n ≤ 5 ∧ li 1 = n ∧ prI K pp 5 n p1 := by obtain ⟨-, -, a, b, -⟩ := hM; exact b
  intro k
  induction k with
  | zero =>
    intro n i i0 i1 hn hk
    exfalso; omega
  | succ k ih =>
    intro n i i0 i1 hn hk
    refine Rx.walk 4 (pc' := 22) (L' := [some (.ref 0), some (.long (jz v)), none, some (.int (iz 1)), some (.int (iz n)), some (.int (iz i))]) (st' := [.int (iz 1), .ref 11, .int (iz i)]) (h' := cmH z zl (uf (uf (uf f 10 pp) 11 li) 12 ty) fl tx) rfl ?_
    refine Rx.ial (g := li) rfl rfl (by omega) (by omega) (by omega) ?_
    refine Rx.ge2 rfl rfl ⟨by omega, by omega⟩ ⟨by omega, by omega⟩ (fun b1 => ?_) (fun b1 => ?_)
    · have e : n = p1 := by rw [hn, show i.toNat = m by omega]; exact prI_pv hpr
      subst e
      exact hx0 _ 
    · refine Rx.walk 2 (pc' := 29) (L' := [some (.ref 0), some (.long (jz v)), none, some (.int (iz 1)), some (.int (iz n)), some (.int (iz i))]) (st' := [.int (iz n), .int (iz 5)]) (h' := cmH z zl (uf (uf (uf f 10 pp) 11 li) 12 ty) fl tx) rfl ?_
      refine Rx.imul rfl ?_
      refine Rx.walk 4 (pc' := 36) (L' := [some (.ref 0), some (.long (jz v)), none, some (.int (iz 1)), some (.int (iz n)), some (.int (iz i))]) (st' := [.int (iz 1), .int (iz 5), .ref 10, .int (iz (5 * n))]) (h' := cmH z zl (uf (uf (uf f 10 pp) 11 li) 12 ty) fl tx) rfl ?_
      refine Rx.imul rfl ?_
      refine Rx.walk 0 (pc' := 37) (L' := [some (.ref 0), some (.long (jz v)), none, some (.int (iz 1)), some (.int (iz n)), some (.int (iz i))]) (st' := [.int (iz 5), .ref 10, .int (iz (5 * n))]) (h' := cmH z zl (uf (uf (uf f 10 pp) 11 li) 12 ty) fl tx) rfl ?_
      refine Rx.walk 1 (pc' := 39) (L' := [some (.ref 0), some (.long (jz v)), none, some (.int (iz 1)), some (.int (iz n)), some (.int (iz i))]) (st' := [.int (iz i), .int (iz 5), .ref 10, .int (iz (5 * n))]) (h' := cmH z zl (uf (uf (uf f 10 pp) 11 li) 12 ty) fl tx) rfl ?_
      refine Rx.iadd rfl ?_
      refine Rx.ial (g := pp) rfl rfl (by omega) (by omega) (by omega) ?_
      have y := (pv_b hm9 hpr (m := i.toNat) (by omega) (by omega) (by omega)).2.2 (by omega)
      refine Rx.iadd rfl ?_
      refine Rx.walk 1 (pc' := 43) (L' := [some (.ref 0), some (.long (jz v)), none, some (.int (iz 1)), some (.int (iz n)), some (.int (iz i))]) (st' := [.int (iz 1), .int (iz ((5 * n) + (pp (5 + i))))]) (h' := cmH z zl (uf (uf (uf f 10 pp) 11 li) 12 ty) fl tx) rfl ?_
      refine Rx.iadd rfl ?_
      refine Rx.walk 1 (pc' := 46) (L' := [some (.ref 0), some (.long (jz v)), none, some (.int (iz 1)), some (.int (iz (((5 * n) + (pp (5 + i))) + 1))), some (.int (iz i))]) (st' := []) (h' := cmH z zl (uf (uf (uf f 10 pp) 11 li) 12 ty) fl tx) rfl ?_
      refine Rx.iinc (b := 1) rfl rfl rfl ?_
      refine Rx.walk 0 (pc' := 49) (L' := [some (.ref 0), some (.long (jz v)), none, some (.int (iz 1)), some (.int (iz (((5 * n) + (pp (5 + i))) + 1))), some (.int (iz (i + 1)))]) (st' := []) (h' := cmH z zl (uf (uf (uf f 10 pp) 11 li) 12 ty) fl tx) rfl ?_
      refine Rx.walk 1 (pc' := 15) (L' := [some (.ref 0), some (.long (jz v)), none, some (.int (iz 1)), some (.int (iz (((5 * n) + (pp (5 + i))) + 1))), some (.int (iz (i + 1)))]) (st' := []) (h' := cmH z zl (uf (uf (uf f 10 pp) 11 li) 12 ty) fl tx) rfl ?_
      exact ih (((5 * n) + (pp (5 + i))) + 1) (i + 1) (by first | assumption | omega) (by first | assumption | omega) (by rw [show (i + 1).toNat = i.toNat + 1 by omega]; show _ = 5 * pv pp 5 i.toNat + pp (5 + (i.toNat : Int)) + 1; rw [hn, Int.toNat_of_nonneg i0]) (by first | assumption | omega) 
set_option maxRecDepth 100000 in
set_option maxHeartbeats 4000000 in
theorem m_tillNow (d : Nat) (z : Nat → Int) (zl : Nat → Int) (f : Nat → Int → Int) (fl : Nat → Int → Int) (tx : Nat)  (K : Int) (p0 : Int) (p1 : Int) (t : Int) (pp : Int → Int) (li : Int → Int) (ty : Int → Int) (hM : mtI K pp li ty p0 p1 t) : Rx (d) m_X12_tillNow 0 (am_ent [.ref 0] 6) [] (cmH z zl (uf (uf (uf f 10 pp) 11 li) 12 ty) fl tx) (fun rv h => rv = some (.long (jz (tn p0 p1 t))) ∧ h = cmH z zl (uf (uf (uf f 10 pp) 11 li) 12 ty) fl tx) := by
  obtain ⟨⟨hm1, hm2, hm3⟩, ⟨hm4, hm5, hm6⟩, hm7, hm8, hm9⟩ := mtI_b hM
  have hmt := mtI_t hM
  have hh0 : 0 ≤ ht p0 ∧ ht p0 ≤ 5 := by have := ht_c p0; omega
  have hh1 : 0 ≤ ht p1 ∧ ht p1 ≤ 5 := by have := ht_c p1; omega
  refine Rx.walk 0 (pc' := 0) (L' := [some (.ref 0), none, none, none, none, none]) (st' := []) (h' := cmH z zl (uf (uf (uf f 10 pp) 11 li) 12 ty) fl tx) rfl ?_
  refine Rx.walk 6 (pc' := 6) (L' := [some (.ref 0), some (.long (jz 0)), none, some (.int (iz 0)), none, none]) (st' := [.int (iz 2), .int (iz 0)]) (h' := cmH z zl (uf (uf (uf f 10 pp) 11 li) 12 ty) fl tx) rfl ?_
  refine Rx.ge2 rfl rfl ⟨by omega, by omega⟩ ⟨by omega, by omega⟩ (fun b1 => by omega) (fun b1 => ?_)
  refine Rx.walk 4 (pc' := 15) (L' := [some (.ref 0), some (.long (jz 0)), none, some (.int (iz 0)), some (.int (iz 0)), some (.int (iz 0))]) (st' := []) (h' := cmH z zl (uf (uf (uf f 10 pp) 11 li) 12 ty) fl tx) rfl ?_
  refine m_tillNow_l0 _ z zl (uf (uf (uf f 10 pp) 11 li) 12 ty) fl tx K p0 p1 t pp li ty 0 hM _ ?_ ((li 0 - 0) + 1 : Int).toNat 0 0 (by first | assumption | omega) (by first | assumption | omega) rfl (by omega) 
  intro i_2
  refine Rx.walk 0 (pc' := 52) (L' := [some (.ref 0), some (.long (jz 0)), none, some (.int (iz 0)), some (.int (iz p0)), some (.int (iz i_2))]) (st' := []) (h' := cmH z zl (uf (uf (uf f 10 pp) 11 li) 12 ty) fl tx) rfl ?_
  refine Rx.walk 2 (pc' := 56) (L' := [some (.ref 0), some (.long (jz 0)), none, some (.int (iz 0)), some (.int (iz p0)), some (.int (iz i_2))]) (st' := [.long (jz 3125), .long (jz 0)]) (h' := cmH z zl (uf (uf (uf f 10 pp) 11 li) 12 ty) fl tx) rfl ?_
  refine Rx.lmul rfl ?_
  refine Rx.walk 0 (pc' := 57) (L' := [some (.ref 0), some (.long (jz 0)), none, some (.int (iz 0)), some (.int (iz p0)), some (.int (iz i_2))]) (st' := [.long (jz 0)]) (h' := cmH z zl (uf (uf (uf f 10 pp) 11 li) 12 ty) fl tx) rfl ?_
  refine Rx.walk 1 (pc' := 59) (L' := [some (.ref 0), some (.long (jz 0)), none, some (.int (iz 0)), some (.int (iz p0)), some (.int (iz i_2))]) (st' := [.int (iz p0), .long (jz 0)]) (h' := cmH z zl (uf (uf (uf f 10 pp) 11 li) 12 ty) fl tx) rfl ?_
  refine Rx.i2l rfl ⟨by omega, by omega⟩ ?_
  refine Rx.ladd rfl ?_
  refine Rx.walk 1 (pc' := 62) (L' := [some (.ref 0), some (.long (jz (0 + p0))), none, some (.int (iz 0)), some (.int (iz p0)), some (.int (iz i_2))]) (st' := []) (h' := cmH z zl (uf (uf (uf f 10 pp) 11 li) 12 ty) fl tx) rfl ?_
  refine Rx.iinc (b := 1) rfl rfl rfl ?_
  refine Rx.walk 0 (pc' := 65) (L' := [some (.ref 0), some (.long (jz (0 + p0))), none, some (.int (iz 1)), some (.int (iz p0)), some (.int (iz i_2))]) (st' := []) (h' := cmH z zl (uf (uf (uf f 10 pp) 11 li) 12 ty) fl tx) rfl ?_
  refine Rx.walk 3 (pc' := 6) (L' := [some (.ref 0), some (.long (jz (0 + p0))), none, some (.int (iz 1)), some (.int (iz p0)), some (.int (iz i_2))]) (st' := [.int (iz 2), .int (iz 1)]) (h' := cmH z zl (uf (uf (uf f 10 pp) 11 li) 12 ty) fl tx) rfl ?_
  refine Rx.ge2 rfl rfl ⟨by omega, by omega⟩ ⟨by omega, by omega⟩ (fun b3 => by omega) (fun b3 => ?_)
  refine Rx.walk 4 (pc' := 15) (L' := [some (.ref 0), some (.long (jz (0 + p0))), none, some (.int (iz 1)), some (.int (iz 0)), some (.int (iz 0))]) (st' := []) (h' := cmH z zl (uf (uf (uf f 10 pp) 11 li) 12 ty) fl tx) rfl ?_
  refine m_tillNow_l1 _ z zl (uf (uf (uf f 10 pp) 11 li) 12 ty) fl tx K p0 p1 t pp li ty (0 + p0) hM _ ?_ ((li 1 - 0) + 1 : Int).toNat 0 0 (by first | assumption | omega) (by first | assumption | omega) rfl (by omega) 
  intro i_4
  refine Rx.walk 0 (pc' := 52) (L' := [some (.ref 0), some (.long (jz (0 + p0))), none, some (.int (iz 1)), some (.int (iz p1)), some (.int (iz i_4))]) (st' := []) (h' := cmH z zl (uf (uf (uf f 10 pp) 11 li) 12 ty) fl tx) rfl ?_
  refine Rx.walk 2 (pc' := 56) (L' := [some (.ref 0), some (.long (jz (0 + p0))), none, some (.int (iz 1)), some (.int (iz p1)), some (.int (iz i_4))]) (st' := [.long (jz 3125), .long (jz (0 + p0))]) (h' := cmH z zl (uf (uf (uf f 10 pp) 11 li) 12 ty) fl tx) rfl ?_
  refine Rx.lmul rfl ?_
  refine Rx.walk 1 (pc' := 59) (L' := [some (.ref 0), some (.long (jz (0 + p0))), none, some (.int (iz 1)), some (.int (iz p1)), some (.int (iz i_4))]) (st' := [.int (iz p1), .long (jz ((0 + p0) * 3125))]) (h' := cmH z zl (uf (uf (uf f 10 pp) 11 li) 12 ty) fl tx) rfl ?_
  refine Rx.i2l rfl ⟨by omega, by omega⟩ ?_
  refine Rx.ladd rfl ?_
  refine Rx.walk 1 (pc' := 62) (L' := [some (.ref 0), some (.long (jz (((0 + p0) * 3125) + p1))), none, some (.int (iz 1)), some (.int (iz p1)), some (.int (iz i_4))]) (st' := []) (h' := cmH z zl (uf (uf (uf f 10 pp) 11 li) 12 ty) fl tx) rfl ?_
  refine Rx.iinc (b := 1) rfl rfl rfl ?_
  refine Rx.walk 0 (pc' := 65) (L' := [some (.ref 0), some (.long (jz (((0 + p0) * 3125) + p1))), none, some (.int (iz 2)), some (.int (iz p1)), some (.int (iz i_4))]) (st' := []) (h' := cmH z zl (uf (uf (uf f 10 pp) 11 li) 12 ty) fl tx) rfl ?_
  refine Rx.walk 3 (pc' := 6) (L' := [some (.ref 0), some (.long (jz (((0 + p0) * 3125) + p1))), none, some (.int (iz 2)), some (.int (iz p1)), some (.int (iz i_4))]) (st' := [.int (iz 2), .int (iz 2)]) (h' := cmH z zl (uf (uf (uf f 10 pp) 11 li) 12 ty) fl tx) rfl ?_
  refine Rx.ge2 rfl rfl ⟨by omega, by omega⟩ ⟨by omega, by omega⟩ (fun b5 => ?_) (fun b5 => by omega)
  refine Rx.walk 5 (pc' := 75) (L' := [some (.ref 0), some (.long (jz (((0 + p0) * 3125) + p1))), none, some (.int (iz 0)), some (.int (iz 3)), some (.int (iz i_4))]) (st' := [.int (iz 3)]) (h' := cmH z zl (uf (uf (uf f 10 pp) 11 li) 12 ty) fl tx) rfl ?_
  refine Rx.lt1 rfl rfl ⟨by omega, by omega⟩ (fun b6 => by omega) (fun b6 => ?_)
  refine Rx.walk 2 (pc' := 80) (L' := [some (.ref 0), some (.long (jz (((0 + p0) * 3125) + p1))), none, some (.int (iz 0)), some (.int (iz 3)), some (.int (iz i_4))]) (st' := [.int (iz 0), .int (iz 2)]) (h' := cmH z zl (uf (uf (uf f 10 pp) 11 li) 12 ty) fl tx) rfl ?_
  refine Rx.imul rfl ?_
  refine Rx.walk 0 (pc' := 81) (L' := [some (.ref 0), some (.long (jz (((0 + p0) * 3125) + p1))), none, some (.int (iz 0)), some (.int (iz 3)), some (.int (iz i_4))]) (st' := [.int (iz 0)]) (h' := cmH z zl (uf (uf (uf f 10 pp) 11 li) 12 ty) fl tx) rfl ?_
  refine Rx.walk 3 (pc' := 87) (L' := [some (.ref 0), some (.long (jz (((0 + p0) * 3125) + p1))), none, some (.int (iz 0)), some (.int (iz 3)), some (.int (iz i_4))]) (st' := [.int (iz 3), .ref 12, .int (iz 0)]) (h' := cmH z zl (uf (uf (uf f 10 pp) 11 li) 12 ty) fl tx) rfl ?_
  refine Rx.ial (g := ty) rfl rfl (by omega) (by omega) (by omega) ?_
  refine Rx.iadd rfl ?_
  refine Rx.walk 1 (pc' := 90) (L' := [some (.ref 0), some (.long (jz (((0 + p0) * 3125) + p1))), none, some (.int (iz (0 + (ty 3)))), some (.int (iz 3)), some (.int (iz i_4))]) (st' := []) (h' := cmH z zl (uf (uf (uf f 10 pp) 11 li) 12 ty) fl tx) rfl ?_
  refine Rx.iinc (b := -1) rfl rfl rfl ?_
  refine Rx.walk 0 (pc' := 93) (L' := [some (.ref 0), some (.long (jz (((0 + p0) * 3125) + p1))), none, some (.int (iz (0 + (ty 3)))), some (.int (iz 2)), some (.int (iz i_4))]) (st' := []) (h' := cmH z zl (uf (uf (uf f 10 pp) 11 li) 12 ty) fl tx) rfl ?_
  refine Rx.walk 2 (pc' := 75) (L' := [some (.ref 0), some (.long (jz (((0 + p0) * 3125) + p1))), none, some (.int (iz (0 + (ty 3)))), some (.int (iz 2)), some (.int (iz i_4))]) (st' := [.int (iz 2)]) (h' := cmH z zl (uf (uf (uf f 10 pp) 11 li) 12 ty) fl tx) rfl ?_
  refine Rx.lt1 rfl rfl ⟨by omega, by omega⟩ (fun b7 => by omega) (fun b7 => ?_)
  refine Rx.walk 2 (pc' := 80) (L' := [some (.ref 0), some (.long (jz (((0 + p0) * 3125) + p1))), none, some (.int (iz (0 + (ty 3)))), some (.int (iz 2)), some (.int (iz i_4))]) (st' := [.int (iz (0 + (ty 3))), .int (iz 2)]) (h' := cmH z zl (uf (uf (uf f 10 pp) 11 li) 12 ty) fl tx) rfl ?_
  refine Rx.imul rfl ?_
  refine Rx.walk 3 (pc' := 87) (L' := [some (.ref 0), some (.long (jz (((0 + p0) * 3125) + p1))), none, some (.int (iz (0 + (ty 3)))), some (.int (iz 2)), some (.int (iz i_4))]) (st' := [.int (iz 2), .ref 12, .int (iz (2 * (0 + (ty 3))))]) (h' := cmH z zl (uf (uf (uf f 10 pp) 11 li) 12 ty) fl tx) rfl ?_
  refine Rx.ial (g := ty) rfl rfl (by omega) (by omega) (by omega) ?_
  refine Rx.iadd rfl ?_
  refine Rx.walk 1 (pc' := 90) (L' := [some (.ref 0), some (.long (jz (((0 + p0) * 3125) + p1))), none, some (.int (iz ((2 * (0 + (ty 3))) + (ty 2)))), some (.int (iz 2)), some (.int (iz i_4))]) (st' := []) (h' := cmH z zl (uf (uf (uf f 10 pp) 11 li) 12 ty) fl tx) rfl ?_
  refine Rx.iinc (b := -1) rfl rfl rfl ?_
  refine Rx.walk 0 (pc' := 93) (L' := [some (.ref 0), some (.long (jz (((0 + p0) * 3125) + p1))), none, some (.int (iz ((2 * (0 + (ty 3))) + (ty 2)))), some (.int (iz 1)), some (.int (iz i_4))]) (st' := []) (h' := cmH z zl (uf (uf (uf f 10 pp) 11 li) 12 ty) fl tx) rfl ?_
  refine Rx.walk 2 (pc' := 75) (L' := [some (.ref 0), some (.long (jz (((0 + p0) * 3125) + p1))), none, some (.int (iz ((2 * (0 + (ty 3))) + (ty 2)))), some (.int (iz 1)), some (.int (iz i_4))]) (st' := [.int (iz 1)]) (h' := cmH z zl (uf (uf (uf f 10 pp) 11 li) 12 ty) fl tx) rfl ?_
  refine Rx.lt1 rfl rfl ⟨by omega, by omega⟩ (fun b8 => by omega) (fun b8 => ?_)
  refine Rx.walk 2 (pc' := 80) (L' := [some (.ref 0), some (.long (jz (((0 + p0) * 3125) + p1))), none, some (.int (iz ((2 * (0 + (ty 3))) + (ty 2)))), some (.int (iz 1)), some (.int (iz i_4))]) (st' := [.int (iz ((2 * (0 + (ty 3))) + (ty 2))), .int (iz 2)]) (h' := cmH z zl (uf (uf (uf f 10 pp) 11 li) 12 ty) fl tx) rfl ?_
  refine Rx.imul rfl ?_
  refine Rx.walk 3 (pc' := 87) (L' := [some (.ref 0), some (.long (jz (((0 + p0) * 3125) + p1))), none, some (.int (iz ((2 * (0 + (ty 3))) + (ty 2)))), some (.int (iz 1)), some (.int (iz i_4))]) (st' := [.int (iz 1), .ref 12, .int (iz (2 * ((2 * (0 + (ty 3))) + (ty 2))))]) (h' := cmH z zl (uf (uf (uf f 10 pp) 11 li) 12 ty) fl tx) rfl ?_
  refine Rx.ial (g := ty) rfl rfl (by omega) (by omega) (by omega) ?_
  refine Rx.iadd rfl ?_
  refine Rx.walk 1 (pc' := 90) (L' := [some (.ref 0), some (.long (jz (((0 + p0) * 3125) + p1))), none, some (.int (iz ((2 * ((2 * (0 + (ty 3))) + (ty 2))) + (ty 1)))), some (.int (iz 1)), some (.int (iz i_4))]) (st' := []) (h' := cmH z zl (uf (uf (uf f 10 pp) 11 li) 12 ty) fl tx) rfl ?_
  refine Rx.iinc (b := -1) rfl rfl rfl ?_
  refine Rx.walk 0 (pc' := 93) (L' := [some (.ref 0), some (.long (jz (((0 + p0) * 3125) + p1))), none, some (.int (iz ((2 * ((2 * (0 + (ty 3))) + (ty 2))) + (ty 1)))), some (.int (iz 0)), some (.int (iz i_4))]) (st' := []) (h' := cmH z zl (uf (uf (uf f 10 pp) 11 li) 12 ty) fl tx) rfl ?_
  refine Rx.walk 2 (pc' := 75) (L' := [some (.ref 0), some (.long (jz (((0 + p0) * 3125) + p1))), none, some (.int (iz ((2 * ((2 * (0 + (ty 3))) + (ty 2))) + (ty 1)))), some (.int (iz 0)), some (.int (iz i_4))]) (st' := [.int (iz 0)]) (h' := cmH z zl (uf (uf (uf f 10 pp) 11 li) 12 ty) fl tx) rfl ?_
  refine Rx.lt1 rfl rfl ⟨by omega, by omega⟩ (fun b9 => by omega) (fun b9 => ?_)
  refine Rx.walk 2 (pc' := 80) (L' := [some (.ref 0), some (.long (jz (((0 + p0) * 3125) + p1))), none, some (.int (iz ((2 * ((2 * (0 + (ty 3))) + (ty 2))) + (ty 1)))), some (.int (iz 0)), some (.int (iz i_4))]) (st' := [.int (iz ((2 * ((2 * (0 + (ty 3))) + (ty 2))) + (ty 1))), .int (iz 2)]) (h' := cmH z zl (uf (uf (uf f 10 pp) 11 li) 12 ty) fl tx) rfl ?_
  refine Rx.imul rfl ?_
  refine Rx.walk 3 (pc' := 87) (L' := [some (.ref 0), some (.long (jz (((0 + p0) * 3125) + p1))), none, some (.int (iz ((2 * ((2 * (0 + (ty 3))) + (ty 2))) + (ty 1)))), some (.int (iz 0)), some (.int (iz i_4))]) (st' := [.int (iz 0), .ref 12, .int (iz (2 * ((2 * ((2 * (0 + (ty 3))) + (ty 2))) + (ty 1))))]) (h' := cmH z zl (uf (uf (uf f 10 pp) 11 li) 12 ty) fl tx) rfl ?_
  refine Rx.ial (g := ty) rfl rfl (by omega) (by omega) (by omega) ?_
  refine Rx.iadd rfl ?_
  refine Rx.walk 1 (pc' := 90) (L' := [some (.ref 0), some (.long (jz (((0 + p0) * 3125) + p1))), none, some (.int (iz ((2 * ((2 * ((2 * (0 + (ty 3))) + (ty 2))) + (ty 1))) + (ty 0)))), some (.int (iz 0)), some (.int (iz i_4))]) (st' := []) (h' := cmH z zl (uf (uf (uf f 10 pp) 11 li) 12 ty) fl tx) rfl ?_
  refine Rx.iinc (b := -1) rfl rfl rfl ?_
  refine Rx.walk 0 (pc' := 93) (L' := [some (.ref 0), some (.long (jz (((0 + p0) * 3125) + p1))), none, some (.int (iz ((2 * ((2 * ((2 * (0 + (ty 3))) + (ty 2))) + (ty 1))) + (ty 0)))), some (.int (iz (-1))), some (.int (iz i_4))]) (st' := []) (h' := cmH z zl (uf (uf (uf f 10 pp) 11 li) 12 ty) fl tx) rfl ?_
  refine Rx.walk 2 (pc' := 75) (L' := [some (.ref 0), some (.long (jz (((0 + p0) * 3125) + p1))), none, some (.int (iz ((2 * ((2 * ((2 * (0 + (ty 3))) + (ty 2))) + (ty 1))) + (ty 0)))), some (.int (iz (-1))), some (.int (iz i_4))]) (st' := [.int (iz (-1))]) (h' := cmH z zl (uf (uf (uf f 10 pp) 11 li) 12 ty) fl tx) rfl ?_
  refine Rx.lt1 rfl rfl ⟨by omega, by omega⟩ (fun b10 => ?_) (fun b10 => by omega)
  refine Rx.walk 2 (pc' := 100) (L' := [some (.ref 0), some (.long (jz (((0 + p0) * 3125) + p1))), none, some (.int (iz ((2 * ((2 * ((2 * (0 + (ty 3))) + (ty 2))) + (ty 1))) + (ty 0)))), some (.int (iz (-1))), some (.int (iz i_4))]) (st' := [.long (jz 16), .long (jz (((0 + p0) * 3125) + p1))]) (h' := cmH z zl (uf (uf (uf f 10 pp) 11 li) 12 ty) fl tx) rfl ?_
  refine Rx.lmul rfl ?_
  refine Rx.walk 1 (pc' := 102) (L' := [some (.ref 0), some (.long (jz (((0 + p0) * 3125) + p1))), none, some (.int (iz ((2 * ((2 * ((2 * (0 + (ty 3))) + (ty 2))) + (ty 1))) + (ty 0)))), some (.int (iz (-1))), some (.int (iz i_4))]) (st' := [.int (iz ((2 * ((2 * ((2 * (0 + (ty 3))) + (ty 2))) + (ty 1))) + (ty 0))), .long (jz ((((0 + p0) * 3125) + p1) * 16))]) (h' := cmH z zl (uf (uf (uf f 10 pp) 11 li) 12 ty) fl tx) rfl ?_
  refine Rx.i2l rfl ⟨by omega, by omega⟩ ?_
  refine Rx.ladd rfl ?_
  refine Rx.ret rfl ?_
  have e : (((((0 + p0) * 3125) + p1) * 16) + ((2 * ((2 * ((2 * (0 + (ty 3))) + (ty 2))) + (ty 1))) + (ty 0))) = tn p0 p1 t := by unfold tn; have := tw_c hm7 (by omega); omega
  exact ⟨by rw [e], rfl⟩

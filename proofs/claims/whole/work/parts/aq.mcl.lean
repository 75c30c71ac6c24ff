/-! rules read by the model: the end of a clause (printed by wip/whole/genmcl.py) -/
set_option maxRecDepth 100000 in
set_option maxHeartbeats 4000000 in
theorem m_clT1 (d : Nat) (z : Nat → Int) (zl : Nat → Int) (f : Nat → Int → Int) (fl : Nat → Int → Int) (tx : Nat)  (le : Int) (cn : Int) (v : Int) (fa : Int) (dpv : Int) (ans : Int) (wor : Int) (n : Int) (a : Int) (bg : Int) (tb : Int → Int) (b : Int → Int) (lt : Int → Int) (w4 : Option Value) (hle : le = 121) (hfa : fa = -1 ∨ (0 ≤ fa ∧ fa ≤ 160)) (hans : ans = 0 ∨ ans = 1) (hcn : cn = 0 ∨ cn = 1) (P : Option Value → AmH → Prop) (hx0 : ∀ (ans' : Int) (wor' : Int), ((fa = -1 ∧ ans = 0 ∧ cn ≠ 0 ∧ ans' = 1 ∧ wor' = v) ∨ (¬ (fa = -1 ∧ ans = 0 ∧ cn ≠ 0) ∧ ans' = ans ∧ wor' = wor)) → P (none) (cmH (u1 (u1 (u1 (u1 (u1 (u1 (u1 (u1 z 8 bg) 9 n) 10 a) 11 fa) 12 dpv) 13 121) 14 wor') 17 ans') zl (uf (uf f 1 tb) 4 lt) fl 1)) : ∀ (kF : Nat), 0 < (kF : Int) → Rx (d) m_X12_clause 134 [some (.ref 0), some (.int (iz le)), some (.int (iz cn)), some (.int (iz v)), w4] [] (cmH (u1 (u1 (u1 (u1 (u1 (u1 (u1 (u1 z 8 bg) 9 n) 10 a) 11 fa) 12 dpv) 13 121) 14 wor) 17 ans) zl (uf (uf f 1 tb) 4 lt) fl 1) P := by
  intro kF
  induction kF with
  | zero =>
    intro   hk
    exfalso; omega
  | succ kF ih =>
    intro   hk
    refine Rx.walk 3 (pc' := 139) (L' := [some (.ref 0), some (.int (iz le)), some (.int (iz cn)), some (.int (iz v)), w4]) (st' := [.int (iz (-1)), .int (iz fa)]) (h' := cmH (u1 (u1 (u1 (u1 (u1 (u1 (u1 (u1 z 8 bg) 9 n) 10 a) 11 fa) 12 dpv) 13 121) 14 wor) 17 ans) zl (uf (uf f 1 tb) 4 lt) fl 1) rfl ?_
    refine Rx.ne2 rfl rfl ⟨by omega, by omega⟩ ⟨by omega, by omega⟩ (fun b1 => ?_) (fun b1 => ?_)
    · refine Rx.ret rfl ?_
      exact hx0 _ _ (by omega)
    · refine Rx.walk 2 (pc' := 146) (L' := [some (.ref 0), some (.int (iz le)), some (.int (iz cn)), some (.int (iz v)), w4]) (st' := [.int (iz ans)]) (h' := cmH (u1 (u1 (u1 (u1 (u1 (u1 (u1 (u1 z 8 bg) 9 n) 10 a) 11 fa) 12 dpv) 13 121) 14 wor) 17 ans) zl (uf (uf f 1 tb) 4 lt) fl 1) rfl ?_
      refine Rx.ne1 rfl rfl ⟨by omega, by omega⟩ (fun b2 => ?_) (fun b2 => ?_)
      · refine Rx.ret rfl ?_
        exact hx0 _ _ (by omega)
      · refine Rx.walk 3 (pc' := 154) (L' := [some (.ref 0), some (.int (iz le)), some (.int (iz cn)), some (.int (iz v)), w4]) (st' := [.int (iz 121), .int (iz le)]) (h' := cmH (u1 (u1 (u1 (u1 (u1 (u1 (u1 (u1 z 8 bg) 9 n) 10 a) 11 fa) 12 dpv) 13 121) 14 wor) 17 ans) zl (uf (uf f 1 tb) 4 lt) fl 1) rfl ?_
        refine Rx.ne2 rfl rfl ⟨by omega, by omega⟩ ⟨by omega, by omega⟩ (fun b3 => by omega) (fun b3 => ?_)
        refine Rx.walk 1 (pc' := 158) (L' := [some (.ref 0), some (.int (iz le)), some (.int (iz cn)), some (.int (iz v)), w4]) (st' := [.int (iz cn)]) (h' := cmH (u1 (u1 (u1 (u1 (u1 (u1 (u1 (u1 z 8 bg) 9 n) 10 a) 11 fa) 12 dpv) 13 121) 14 wor) 17 ans) zl (uf (uf f 1 tb) 4 lt) fl 1) rfl ?_
        refine Rx.ne1 rfl rfl ⟨by omega, by omega⟩ (fun b4 => ?_) (fun b4 => ?_)
        · refine Rx.walk 6 (pc' := 172) (L' := [some (.ref 0), some (.int (iz le)), some (.int (iz cn)), some (.int (iz v)), w4]) (st' := []) (h' := cmH (u1 (u1 (u1 (u1 (u1 (u1 (u1 (u1 z 8 bg) 9 n) 10 a) 11 fa) 12 dpv) 13 121) 14 v) 17 1) zl (uf (uf f 1 tb) 4 lt) fl 1) rfl ?_
          refine Rx.ret rfl ?_
          exact hx0 _ _ (by omega)
        · refine Rx.ret rfl ?_
          exact hx0 _ _ (by omega)
set_option maxRecDepth 100000 in
set_option maxHeartbeats 4000000 in
theorem m_clT2 (d : Nat) (z : Nat → Int) (zl : Nat → Int) (f : Nat → Int → Int) (fl : Nat → Int → Int) (tx : Nat)  (le : Int) (cn : Int) (v : Int) (fa : Int) (dpv : Int) (ans : Int) (wor : Int) (n : Int) (a : Int) (bg : Int) (tb : Int → Int) (b : Int → Int) (lt : Int → Int) (w4 : Option Value) (hle : le = 121) (hfa : fa = -1 ∨ (0 ≤ fa ∧ fa ≤ 160)) (hans : ans = 0 ∨ ans = 1) (hcn : cn = 0 ∨ cn = 1) (P : Option Value → AmH → Prop) (hx0 : ∀ (ans' : Int) (wor' : Int), ((fa = -1 ∧ ans = 0 ∧ cn ≠ 0 ∧ ans' = 1 ∧ wor' = v) ∨ (¬ (fa = -1 ∧ ans = 0 ∧ cn ≠ 0) ∧ ans' = ans ∧ wor' = wor)) → P (none) (cmH (u1 (u1 (u1 (u1 (u1 (u1 (u1 (u1 z 8 bg) 9 n) 10 a) 11 fa) 12 dpv) 13 121) 14 wor') 17 ans') zl (uf (uf f 2 tb) 4 lt) fl 2)) : ∀ (kF : Nat), 0 < (kF : Int) → Rx (d) m_X12_clause 134 [some (.ref 0), some (.int (iz le)), some (.int (iz cn)), some (.int (iz v)), w4] [] (cmH (u1 (u1 (u1 (u1 (u1 (u1 (u1 (u1 z 8 bg) 9 n) 10 a) 11 fa) 12 dpv) 13 121) 14 wor) 17 ans) zl (uf (uf f 2 tb) 4 lt) fl 2) P := by
  intro kF
  induction kF with
  | zero =>
    intro   hk
    exfalso; omega
  | succ kF ih =>
    intro   hk
    refine Rx.walk 3 (pc' := 139) (L' := [some (.ref 0), some (.int (iz le)), some (.int (iz cn)), some (.int (iz v)), w4]) (st' := [.int (iz (-1)), .int (iz fa)]) (h' := cmH (u1 (u1 (u1 (u1 (u1 (u1 (u1 (u1 z 8 bg) 9 n) 10 a) 11 fa) 12 dpv) 13 121) 14 wor) 17 ans) zl (uf (uf f 2 tb) 4 lt) fl 2) rfl ?_
    refine Rx.ne2 rfl rfl ⟨by omega, by omega⟩ ⟨by omega, by omega⟩ (fun b1 => ?_) (fun b1 => ?_)
    · refine Rx.ret rfl ?_
      exact hx0 _ _ (by omega)
    · refine Rx.walk 2 (pc' := 146) (L' := [some (.ref 0), some (.int (iz le)), some (.int (iz cn)), some (.int (iz v)), w4]) (st' := [.int (iz ans)]) (h' := cmH (u1 (u1 (u1 (u1 (u1 (u1 (u1 (u1 z 8 bg) 9 n) 10 a) 11 fa) 12 dpv) 13 121) 14 wor) 17 ans) zl (uf (uf f 2 tb) 4 lt) fl 2) rfl ?_
      refine Rx.ne1 rfl rfl ⟨by omega, by omega⟩ (fun b2 => ?_) (fun b2 => ?_)
      · refine Rx.ret rfl ?_
        exact hx0 _ _ (by omega)
      · refine Rx.walk 3 (pc' := 154) (L' := [some (.ref 0), some (.int (iz le)), some (.int (iz cn)), some (.int (iz v)), w4]) (st' := [.int (iz 121), .int (iz le)]) (h' := cmH (u1 (u1 (u1 (u1 (u1 (u1 (u1 (u1 z 8 bg) 9 n) 10 a) 11 fa) 12 dpv) 13 121) 14 wor) 17 ans) zl (uf (uf f 2 tb) 4 lt) fl 2) rfl ?_
        refine Rx.ne2 rfl rfl ⟨by omega, by omega⟩ ⟨by omega, by omega⟩ (fun b3 => by omega) (fun b3 => ?_)
        refine Rx.walk 1 (pc' := 158) (L' := [some (.ref 0), some (.int (iz le)), some (.int (iz cn)), some (.int (iz v)), w4]) (st' := [.int (iz cn)]) (h' := cmH (u1 (u1 (u1 (u1 (u1 (u1 (u1 (u1 z 8 bg) 9 n) 10 a) 11 fa) 12 dpv) 13 121) 14 wor) 17 ans) zl (uf (uf f 2 tb) 4 lt) fl 2) rfl ?_
        refine Rx.ne1 rfl rfl ⟨by omega, by omega⟩ (fun b4 => ?_) (fun b4 => ?_)
        · refine Rx.walk 6 (pc' := 172) (L' := [some (.ref 0), some (.int (iz le)), some (.int (iz cn)), some (.int (iz v)), w4]) (st' := []) (h' := cmH (u1 (u1 (u1 (u1 (u1 (u1 (u1 (u1 z 8 bg) 9 n) 10 a) 11 fa) 12 dpv) 13 121) 14 v) 17 1) zl (uf (uf f 2 tb) 4 lt) fl 2) rfl ?_
          refine Rx.ret rfl ?_
          exact hx0 _ _ (by omega)
        · refine Rx.ret rfl ?_
          exact hx0 _ _ (by omega)

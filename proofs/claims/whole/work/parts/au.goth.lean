/-! rules read by the model: a whole text (printed by wip/whole/gength.py) -/
abbrev RuC : Type := ((Int → Int) → Int) × ((Int → Int) → Int)
/-- the first clause whose condition holds -/
def fnd (L : Int → Int) : List RuC → Int
  | [] => 0
  | c :: r => if c.1 L ≠ 0 then c.2 L else fnd L r
section GoT
variable (n : Int) (b : Int → Int)
def rlS (k : Nat) (a : Int) : RuT := if sg n b (sks n b a) = 59 then ruleL n b k (sks n b a + 1) else (true, sks n b a, [], [])
def gtI (L : Int → Int) (Rt : RuT) (k : Nat) (a fa dp ans wor : Int) : Prop := (fa = -1 ∧ dp = 0 ∧ Rt.1 = (rlS n b k a).1 ∧ Rt.2.1 = (rlS n b k a).2.1 ∧ fnd L Rt.2.2.2 = (if ans = 1 then wor else fnd L (rlS n b k a).2.2.2)) ∨ (Rt.1 = false ∧ fa = Rt.2.1 ∧ fa ≠ -1)
variable {n b}
theorem rlS_s {k : Nat} {a0 : Int} (h : (clauseG n b a0).1.1 = true) : (ruleL n b (k + 1) a0).1 = (rlS n b k (clauseG n b a0).1.2.1).1 ∧ (ruleL n b (k + 1) a0).2.1 = (rlS n b k (clauseG n b a0).1.2.1).2.1 ∧ (ruleL n b (k + 1) a0).2.2.2 = ((clauseG n b a0).2, (clauseG n b a0).1.2.2.2) :: (rlS n b k (clauseG n b a0).1.2.1).2.2.2 := by
  unfold rlS
  by_cases h2 : sg n b (sks n b (clauseG n b a0).1.2.1) = 59
  · rw [ruleL_s h h2, if_pos h2]; exact ⟨rfl, rfl, rfl⟩
  · rw [ruleL_e h h2, if_neg h2]; exact ⟨rfl, rfl, rfl⟩
theorem gt_step {L : Int → Int} {Rt : RuT} {k : Nat} {a0 ans wor a' fa' dp' ans' wor' : Int} (h0 : 0 ≤ a0) (h1 : a0 ≤ n) (hans : ans = 0 ∨ ans = 1) (e1 : Rt.1 = (ruleL n b (k + 1) a0).1) (e2 : Rt.2.1 = (ruleL n b (k + 1) a0).2.1) (e3 : fnd L Rt.2.2.2 = (if ans = 1 then wor else fnd L (ruleL n b (k + 1) a0).2.2.2)) (hc : ((clauseG n b a0).1.1 = true ∧ fa' = -1 ∧ a' = (clauseG n b a0).1.2.1 ∧ dp' = 0 ∧ ((ans = 0 ∧ (clauseG n b a0).2 L ≠ 0 ∧ ans' = 1 ∧ wor' = (clauseG n b a0).1.2.2.2 L) ∨ (¬ (ans = 0 ∧ (clauseG n b a0).2 L ≠ 0) ∧ ans' = ans ∧ wor' = wor))) ∨ ((clauseG n b a0).1.1 = false ∧ fa' = (clauseG n b a0).1.2.1 ∧ ans' = ans ∧ wor' = wor)) : gtI n b L Rt k a' fa' dp' ans' wor' := by
  rcases hc with ⟨c1, c2, c3, c4, c5⟩ | ⟨c1, c2, c3, c4⟩
  · obtain ⟨s1, s2, s3⟩ := rlS_s (k := k) c1
    refine Or.inl ⟨c2, c4, ?_, ?_, ?_⟩
    · rw [e1, s1, c3]
    · rw [e2, s2, c3]
    · rw [e3, s3, c3]
      rcases c5 with ⟨d1, d2, d3, d4⟩ | ⟨d1, d2, d3⟩
      · rw [if_neg (by omega), if_pos d3, d4]
        show (if _ then _ else _) = _
        exact if_pos d2
      · rcases hans with q | q
        · rw [if_neg (by omega), if_neg (by omega)]
          show (if _ then _ else _) = _
          exact if_neg (fun x => d1 ⟨q, x⟩)
        · rw [if_pos q, if_pos (d2.trans q), d3]
  · have := (clauseG_ok (n := n) (b := b) h0 h1).1
    exact Or.inr ⟨by rw [e1, ruleL_f c1], by rw [e2, ruleL_f c1]; exact c2, by omega⟩
theorem rlS_n {k : Nat} {a : Int} (h : sg n b (sks n b a) ≠ 59) : rlS n b k a = (true, sks n b a, [], []) := if_neg h
theorem rlS_y {k : Nat} {a : Int} (h : sg n b (sks n b a) = 59) : rlS n b k a = ruleL n b k (sks n b a + 1) := if_pos h
end GoT
set_option maxRecDepth 100000 in
set_option maxHeartbeats 4000000 in
theorem m_opens (d : Nat) (z : Nat → Int) (zl : Nat → Int) (f : Nat → Int → Int) (fl : Nat → Int → Int) (tx : Nat)  (x : Nat) (fr : Int) (n : Int) : Rx (d) m_X12_opens 0 (am_ent [.ref 0, .ref x, .int (iz fr), .int (iz n)] 4) [] (cmH z zl f fl tx) (fun rv h => rv = none ∧ h = cmH (u1 (u1 (u1 (u1 z 8 fr) 9 n) 10 0) 11 (-1)) zl f fl x) := by
  refine Rx.walk 0 (pc' := 0) (L' := [some (.ref 0), some (.ref x), some (.int (iz fr)), some (.int (iz n))]) (st' := []) (h' := cmH z zl f fl tx) rfl ?_
  refine Rx.walk 15 (pc' := 25) (L' := [some (.ref 0), some (.ref x), some (.int (iz fr)), some (.int (iz n))]) (st' := []) (h' := cmH (u1 (u1 (u1 (u1 z 8 fr) 9 n) 10 0) 11 (-1)) zl f fl x) rfl ?_
  refine Rx.ret rfl ?_
  exact ⟨rfl, rfl⟩
set_option maxRecDepth 100000 in
set_option maxHeartbeats 4000000 in
theorem m_goth_l1 (d : Nat) (z : Nat → Int) (zl : Nat → Int) (f : Nat → Int → Int) (fl : Nat → Int → Int) (tx : Nat)  (n : Int) (bg : Int) (tb : Int → Int) (b : Int → Int) (lt : Int → Int) (Rt : RuT) (w1 : Option Value) (w2 : Option Value) (w3 : Option Value) (hT : tOK n b) (hM : mOK n bg 160 tb b) (hL : ∀ k : Int, 0 ≤ k → k < 128 → -1000000 ≤ lt k ∧ lt k ≤ 1000000) (P : Option Value → AmH → Prop) (hx0 : ∀ (a' : Int) (fa' : Int) (dp' : Int) (ans' : Int) (wor' : Int), ((Rt.1 = true ∧ sg n b Rt.2.1 = -1 ∧ fa' = -1 ∧ wor' = fnd (ltL lt) Rt.2.2.2) ∨ (¬ (Rt.1 = true ∧ sg n b Rt.2.1 = -1) ∧ fa' = Rt.2.1 ∧ fa' ≠ -1)) → ((0 ≤ a' ∧ a' ≤ n) ∧ (fa' = -1 ∨ (0 ≤ fa' ∧ fa' ≤ 160)) ∧ (ans' = 0 ∨ ans' = 1)) → P (none) (cmH (u1 (u1 (u1 (u1 (u1 (u1 (u1 (u1 z 8 bg) 9 n) 10 a') 11 fa') 12 dp') 13 121) 14 wor') 17 ans') zl (uf (uf f 1 tb) 4 lt) fl 1)) : ∀ (kF : Nat) (a : Int) (fa : Int) (dp : Int) (ans : Int) (wor : Int) (k : Nat), (0 ≤ a ∧ a ≤ n) → (fa = -1 ∨ (0 ≤ fa ∧ fa ≤ 160)) → (ans = 0 ∨ ans = 1) → (fa = -1 → n - a < (k : Int)) → (ans = 0 → wor = 0) → (gtI n b (ltL lt) Rt k a fa dp ans wor) → (n - a) < (kF : Int) → Rx (d + 29) m_X12_goThrough 32 [some (.ref 0), w1, w2, w3] [] (cmH (u1 (u1 (u1 (u1 (u1 (u1 (u1 (u1 z 8 bg) 9 n) 10 a) 11 fa) 12 dp) 13 121) 14 wor) 17 ans) zl (uf (uf f 1 tb) 4 lt) fl 1) P := by
  obtain ⟨hT1, hT2, hT3⟩ := id hT
  have hbg := hM.1
  have hbz := hM.2.1
  intro kF
  induction kF with
  | zero =>
    intro a fa dp ans wor k ha hfa hans hke hw hI hk
    exfalso; omega
  | succ kF ih =>
    intro a fa dp ans wor k ha hfa hans hke hw hI hk
    refine Rx.walk 3 (pc' := 37) (L' := [some (.ref 0), w1, w2, w3]) (st' := [.int (iz (-1)), .int (iz fa)]) (h' := cmH (u1 (u1 (u1 (u1 (u1 (u1 (u1 (u1 z 8 bg) 9 n) 10 a) 11 fa) 12 dp) 13 121) 14 wor) 17 ans) zl (uf (uf f 1 tb) 4 lt) fl 1) rfl ?_
    refine Rx.ne2 rfl rfl ⟨by omega, by omega⟩ ⟨by omega, by omega⟩ (fun b1 => ?_) (fun b1 => ?_)
    · refine Rx.walk 3 (pc' := 71) (L' := [some (.ref 0), w1, w2, w3]) (st' := [.int (iz (-1)), .int (iz fa)]) (h' := cmH (u1 (u1 (u1 (u1 (u1 (u1 (u1 (u1 z 8 bg) 9 n) 10 a) 11 fa) 12 dp) 13 121) 14 wor) 17 ans) zl (uf (uf f 1 tb) 4 lt) fl 1) rfl ?_
      refine Rx.ne2 rfl rfl ⟨by omega, by omega⟩ ⟨by omega, by omega⟩ (fun b2 => ?_) (fun b2 => by omega)
      refine Rx.ret rfl ?_
      exact hx0 _ _ _ _ _ (by rcases hI with z | z; (exfalso; omega); exact Or.inr ⟨fun x => absurd (z.1.symm.trans x.1) (by decide), z.2.1, z.2.2⟩) ⟨ha, hfa, hans⟩
    · obtain ⟨rfl, rfl, hi1, hi2, hi3⟩ : fa = -1 ∧ dp = 0 ∧ Rt.1 = (rlS n b k a).1 ∧ Rt.2.1 = (rlS n b k a).2.1 ∧ fnd (ltL lt) Rt.2.2.2 = (if ans = 1 then wor else fnd (ltL lt) (rlS n b k a).2.2.2) := by rcases hI with z | z; exact z; (exfalso; omega)
      replace hke := hke rfl
      refine Rx.walk 1 (pc' := 41) (L' := [some (.ref 0), w1, w2, w3]) (st' := [.ref 0]) (h' := cmH (u1 (u1 (u1 (u1 (u1 (u1 (u1 (u1 z 8 bg) 9 n) 10 a) 11 (-1)) 12 0) 13 121) 14 wor) 17 ans) zl (uf (uf f 1 tb) 4 lt) fl 1) rfl ?_
      refine Rx.callx (m' := m_X12_look) (as := [.ref 0]) (rest := []) rfl (m_look1 _ (u1 (u1 (u1 (u1 z 12 0) 13 121) 14 wor) 17 ans) zl (uf f 4 lt) fl 1  n a bg (-1) tb b hT hM ha) (fun v9 h10 q11 => ?_)
      obtain ⟨r_3, a_4, rfl, rfl, f5, f6, f7, f8⟩ := q11
      refine Rx.walk 0 (pc' := 44) (L' := [some (.ref 0), w1, w2, w3]) (st' := [.int (iz r_3)]) (h' := cmH (u1 (u1 (u1 (u1 (u1 (u1 (u1 (u1 z 8 bg) 9 n) 10 a_4) 11 (-1)) 12 0) 13 121) 14 wor) 17 ans) zl (uf (uf f 1 tb) 4 lt) fl 1) rfl ?_
      refine Rx.walk 1 (pc' := 46) (L' := [some (.ref 0), w1, w2, w3]) (st' := [.int (iz 59), .int (iz r_3)]) (h' := cmH (u1 (u1 (u1 (u1 (u1 (u1 (u1 (u1 z 8 bg) 9 n) 10 a_4) 11 (-1)) 12 0) 13 121) 14 wor) 17 ans) zl (uf (uf f 1 tb) 4 lt) fl 1) rfl ?_
      refine Rx.ne2 rfl rfl ⟨by omega, by omega⟩ ⟨by omega, by omega⟩ (fun b12 => ?_) (fun b12 => ?_)
      · refine Rx.walk 3 (pc' := 71) (L' := [some (.ref 0), w1, w2, w3]) (st' := [.int (iz (-1)), .int (iz (-1))]) (h' := cmH (u1 (u1 (u1 (u1 (u1 (u1 (u1 (u1 z 8 bg) 9 n) 10 a_4) 11 (-1)) 12 0) 13 121) 14 wor) 17 ans) zl (uf (uf f 1 tb) 4 lt) fl 1) rfl ?_
        refine Rx.ne2 rfl rfl ⟨by omega, by omega⟩ ⟨by omega, by omega⟩ (fun b13 => by omega) (fun b13 => ?_)
        refine Rx.walk 1 (pc' := 75) (L' := [some (.ref 0), w1, w2, w3]) (st' := [.ref 0]) (h' := cmH (u1 (u1 (u1 (u1 (u1 (u1 (u1 (u1 z 8 bg) 9 n) 10 a_4) 11 (-1)) 12 0) 13 121) 14 wor) 17 ans) zl (uf (uf f 1 tb) 4 lt) fl 1) rfl ?_
        refine Rx.callx (m' := m_X12_look) (as := [.ref 0]) (rest := []) rfl (m_look1 _ (u1 (u1 (u1 (u1 z 12 0) 13 121) 14 wor) 17 ans) zl (uf f 4 lt) fl 1  n a_4 bg (-1) tb b hT hM ⟨by omega, by omega⟩) (fun v20 h21 q22 => ?_)
        obtain ⟨r_14, a_15, rfl, rfl, f16, f17, f18, f19⟩ := q22
        refine Rx.walk 0 (pc' := 78) (L' := [some (.ref 0), w1, w2, w3]) (st' := [.int (iz r_14)]) (h' := cmH (u1 (u1 (u1 (u1 (u1 (u1 (u1 (u1 z 8 bg) 9 n) 10 a_15) 11 (-1)) 12 0) 13 121) 14 wor) 17 ans) zl (uf (uf f 1 tb) 4 lt) fl 1) rfl ?_
        refine Rx.walk 1 (pc' := 79) (L' := [some (.ref 0), w1, w2, w3]) (st' := [.int (iz (-1)), .int (iz r_14)]) (h' := cmH (u1 (u1 (u1 (u1 (u1 (u1 (u1 (u1 z 8 bg) 9 n) 10 a_15) 11 (-1)) 12 0) 13 121) 14 wor) 17 ans) zl (uf (uf f 1 tb) 4 lt) fl 1) rfl ?_
        refine Rx.eq2 rfl rfl ⟨by omega, by omega⟩ ⟨by omega, by omega⟩ (fun b23 => ?_) (fun b23 => ?_)
        · refine Rx.ret rfl ?_
          exact hx0 _ _ _ _ _ (by have hs9 : sg n b (sks n b a) ≠ 59 := (by rw [← f5, ← f6]; omega); rw [rlS_n hs9] at hi1 hi2 hi3; have e2 : a_15 = sks n b a := (by rw [f16, f5, sks_sks]); refine Or.inl ⟨hi1, ?_, rfl, ?_⟩; (rw [show Rt.2.1 = sks n b a from hi2, ← e2, ← f17]; omega); (rw [hi3]; show wor = if ans = 1 then wor else 0; split; rfl; exact hw (by omega))) ⟨⟨by omega, by omega⟩, Or.inl rfl, hans⟩
        · refine Rx.walk 1 (pc' := 83) (L' := [some (.ref 0), w1, w2, w3]) (st' := [.ref 0]) (h' := cmH (u1 (u1 (u1 (u1 (u1 (u1 (u1 (u1 z 8 bg) 9 n) 10 a_15) 11 (-1)) 12 0) 13 121) 14 wor) 17 ans) zl (uf (uf f 1 tb) 4 lt) fl 1) rfl ?_
          refine Rx.callx (m' := m_X12_fails) (as := [.ref 0]) (rest := []) rfl (m_fails _ (u1 (u1 (u1 (u1 (u1 (u1 z 8 bg) 9 n) 12 0) 13 121) 14 wor) 17 ans) zl (uf (uf f 1 tb) 4 lt) fl 1  a_15 (-1) (Or.inl rfl)) (fun v26 h27 q28 => ?_)
          obtain ⟨fa_24, rfl, rfl, f25⟩ := q28
          refine Rx.walk 0 (pc' := 86) (L' := [some (.ref 0), w1, w2, w3]) (st' := [.int (iz 0)]) (h' := cmH (u1 (u1 (u1 (u1 (u1 (u1 (u1 (u1 z 8 bg) 9 n) 10 a_15) 11 fa_24) 12 0) 13 121) 14 wor) 17 ans) zl (uf (uf f 1 tb) 4 lt) fl 1) rfl ?_
          refine Rx.walk 1 (pc' := 87) (L' := [some (.ref 0), w1, w2, w3]) (st' := []) (h' := cmH (u1 (u1 (u1 (u1 (u1 (u1 (u1 (u1 z 8 bg) 9 n) 10 a_15) 11 fa_24) 12 0) 13 121) 14 wor) 17 ans) zl (uf (uf f 1 tb) 4 lt) fl 1) rfl ?_
          refine Rx.ret rfl ?_
          exact hx0 _ _ _ _ _ (by have hs9 : sg n b (sks n b a) ≠ 59 := (by rw [← f5, ← f6]; omega); rw [rlS_n hs9] at hi1 hi2 hi3; have e2 : a_15 = sks n b a := (by rw [f16, f5, sks_sks]); refine Or.inr ⟨fun x => ?_, ?_, ?_⟩; (have y := x.2; rw [show Rt.2.1 = sks n b a from hi2, ← e2, ← f17] at y; omega); (rw [show Rt.2.1 = sks n b a from hi2]; omega); omega) ⟨⟨by omega, by omega⟩, by omega, hans⟩
      · have hlt : a_4 < n := by rcases Int.lt_or_le a_4 n with q | q; exact q; (exfalso; rw [sg_ge q] at f6; omega)
        have hs9 : sg n b (sks n b a) = 59 := by rw [← f5, ← f6]; omega
        obtain ⟨k, rfl⟩ : ∃ k2 : Nat, k = k2 + 1 := ⟨k - 1, by omega⟩
        rw [rlS_y hs9, ← f5] at hi1 hi2 hi3
        obtain ⟨CG, hCG⟩ : ∃ q, q = clauseG n b (a_4 + 1) := ⟨_, rfl⟩
        have hco := clauseG_ok (n := n) (b := b) (a := a_4 + 1) (by omega) (by omega)
        rw [← hCG] at hco
        refine Rx.walk 4 (pc' := 55) (L' := [some (.ref 0), w1, w2, w3]) (st' := [.int (iz 1), .int (iz a_4), .ref 0]) (h' := cmH (u1 (u1 (u1 (u1 (u1 (u1 (u1 (u1 z 8 bg) 9 n) 10 a_4) 11 (-1)) 12 0) 13 121) 14 wor) 17 ans) zl (uf (uf f 1 tb) 4 lt) fl 1) rfl ?_
        refine Rx.iadd rfl ?_
        refine Rx.walk 2 (pc' := 60) (L' := [some (.ref 0), w1, w2, w3]) (st' := [.ref 0]) (h' := cmH (u1 (u1 (u1 (u1 (u1 (u1 (u1 (u1 z 8 bg) 9 n) 10 (a_4 + 1)) 11 (-1)) 12 0) 13 121) 14 wor) 17 ans) zl (uf (uf f 1 tb) 4 lt) fl 1) rfl ?_
        refine Rx.callx (m' := m_X12_clause) (as := [.ref 0]) (rest := []) rfl (m_clause1 _ z zl f fl 1  ans wor n (a_4 + 1) bg tb b lt CG hT hM ⟨by omega, by omega⟩ hL hans hCG) (fun v36 h37 q38 => ?_)
        obtain ⟨a_29, fa_30, dp_31, ans_32, wor_33, rfl, rfl, f34, f35⟩ := q38
        refine Rx.walk 0 (pc' := 63) (L' := [some (.ref 0), w1, w2, w3]) (st' := []) (h' := cmH (u1 (u1 (u1 (u1 (u1 (u1 (u1 (u1 z 8 bg) 9 n) 10 a_29) 11 fa_30) 12 dp_31) 13 121) 14 wor_33) 17 ans_32) zl (uf (uf f 1 tb) 4 lt) fl 1) rfl ?_
        refine Rx.walk 1 (pc' := 32) (L' := [some (.ref 0), w1, w2, w3]) (st' := []) (h' := cmH (u1 (u1 (u1 (u1 (u1 (u1 (u1 (u1 z 8 bg) 9 n) 10 a_29) 11 fa_30) 12 dp_31) 13 121) 14 wor_33) 17 ans_32) zl (uf (uf f 1 tb) 4 lt) fl 1) rfl ?_
        exact ih a_29 fa_30 dp_31 ans_32 wor_33 k (by obtain ⟨z1, -, -⟩ := f35; clear f34; exact ⟨by omega, by omega⟩) (f35).2.1 (f35).2.2 (fun z => by rcases f34 with y | y; (have := hco.2.2 y.1; have := y.2.2.1; omega); (have := hco.1; have := y.2.1; omega)) (fun z => by rcases f34 with y | y; (rcases y.2.2.2.2 with x | x; (exfalso; omega); (rw [x.2.2]; exact hw (by omega))); (rw [y.2.2.2]; exact hw (by omega))) (gt_step (a0 := a_4 + 1) (by omega) (by omega) hans hi1 hi2 hi3 (by rw [← hCG]; exact f34)) (by obtain ⟨z1, -, -⟩ := f35; clear f34; rcases hco with ⟨hcx, -⟩; omega) 
set_option maxRecDepth 100000 in
set_option maxHeartbeats 4000000 in
theorem m_goth1 (d : Nat) (z : Nat → Int) (zl : Nat → Int) (f : Nat → Int → Int) (fl : Nat → Int → Int) (tx : Nat)  (n : Int) (bg : Int) (tb : Int → Int) (b : Int → Int) (lt : Int → Int) (Rt : RuT) (hT : tOK n b) (hM : mOK n bg 160 tb b) (hL : ∀ k : Int, 0 ≤ k → k < 128 → -1000000 ≤ lt k ∧ lt k ≤ 1000000) (hRt : Rt = ruleL n b 161 0) : Rx (d + 29) m_X12_goThrough 0 (am_ent [.ref 0, .ref 1, .int (iz bg), .int (iz n)] 4) [] (cmH z zl (uf (uf f 1 tb) 4 lt) fl tx) (fun rv h => ∃ a' : Int, ∃ fa' : Int, ∃ dp' : Int, ∃ ans' : Int, ∃ wor' : Int, rv = none ∧ h = cmH (u1 (u1 (u1 (u1 (u1 (u1 (u1 (u1 z 8 bg) 9 n) 10 a') 11 fa') 12 dp') 13 121) 14 wor') 17 ans') zl (uf (uf f 1 tb) 4 lt) fl 1 ∧ ((Rt.1 = true ∧ sg n b Rt.2.1 = -1 ∧ fa' = -1 ∧ wor' = fnd (ltL lt) Rt.2.2.2) ∨ (¬ (Rt.1 = true ∧ sg n b Rt.2.1 = -1) ∧ fa' = Rt.2.1 ∧ fa' ≠ -1)) ∧ ((0 ≤ a' ∧ a' ≤ n) ∧ (fa' = -1 ∨ (0 ≤ fa' ∧ fa' ≤ 160)) ∧ (ans' = 0 ∨ ans' = 1))) := by
  obtain ⟨hT1, hT2, hT3⟩ := id hT
  have hbg := hM.1
  have hbz := hM.2.1
  obtain ⟨CG, hCG⟩ : ∃ q, q = clauseG n b 0 := ⟨_, rfl⟩
  have hco := clauseG_ok (n := n) (b := b) (a := 0) (by omega) (by omega)
  rw [← hCG] at hco
  refine Rx.walk 0 (pc' := 0) (L' := [some (.ref 0), some (.ref 1), some (.int (iz bg)), some (.int (iz n))]) (st' := []) (h' := cmH z zl (uf (uf f 1 tb) 4 lt) fl tx) rfl ?_
  refine Rx.walk 4 (pc' := 4) (L' := [some (.ref 0), some (.ref 1), some (.int (iz bg)), some (.int (iz n))]) (st' := [.int (iz n), .int (iz bg), .ref 1, .ref 0]) (h' := cmH z zl (uf (uf f 1 tb) 4 lt) fl tx) rfl ?_
  refine Rx.callx (m' := m_X12_opens) (as := [.ref 0, .ref 1, .int (iz bg), .int (iz n)]) (rest := []) rfl (m_opens _ z zl (uf (uf f 1 tb) 4 lt) fl tx  1 bg n ) (fun v1 h2 q3 => ?_)
  obtain ⟨rfl, rfl⟩ := q3
  refine Rx.walk 0 (pc' := 7) (L' := [some (.ref 0), some (.ref 1), some (.int (iz bg)), some (.int (iz n))]) (st' := []) (h' := cmH (u1 (u1 (u1 (u1 z 8 bg) 9 n) 10 0) 11 (-1)) zl (uf (uf f 1 tb) 4 lt) fl 1) rfl ?_
  refine Rx.walk 13 (pc' := 29) (L' := [some (.ref 0), some (.ref 1), some (.int (iz bg)), some (.int (iz n))]) (st' := [.ref 0]) (h' := cmH (u1 (u1 (u1 (u1 (u1 (u1 (u1 (u1 z 8 bg) 9 n) 10 0) 11 (-1)) 12 0) 13 121) 14 0) 17 0) zl (uf (uf f 1 tb) 4 lt) fl 1) rfl ?_
  refine Rx.callx (m' := m_X12_clause) (as := [.ref 0]) (rest := []) rfl (m_clause1 _ z zl f fl 1  0 0 n 0 bg tb b lt CG hT hM ⟨by omega, by omega⟩ hL (Or.inl rfl) hCG) (fun v11 h12 q13 => ?_)
  obtain ⟨a_4, fa_5, dp_6, ans_7, wor_8, rfl, rfl, f9, f10⟩ := q13
  refine Rx.walk 0 (pc' := 32) (L' := [some (.ref 0), some (.ref 1), some (.int (iz bg)), some (.int (iz n))]) (st' := []) (h' := cmH (u1 (u1 (u1 (u1 (u1 (u1 (u1 (u1 z 8 bg) 9 n) 10 a_4) 11 fa_5) 12 dp_6) 13 121) 14 wor_8) 17 ans_7) zl (uf (uf f 1 tb) 4 lt) fl 1) rfl ?_
  refine m_goth_l1 _ z zl f fl 1  n bg tb b lt Rt (some (.ref 1)) (some (.int (iz bg))) (some (.int (iz n))) hT hM hL _ ?_ ((n - a_4) + 1 : Int).toNat a_4 fa_5 dp_6 ans_7 wor_8 160 (by obtain ⟨z1, -, -⟩ := f10; clear f9; exact ⟨by omega, by omega⟩) (f10).2.1 (f10).2.2 (fun z => by rcases f9 with y | y; (have := hco.2.2 y.1; have := y.2.2.1; omega); (have := hco.1; have := y.2.1; omega)) (fun z => by rcases f9 with y | y; (rcases y.2.2.2.2 with x | x; (exfalso; omega); exact x.2.2); exact y.2.2.2) (gt_step (k := 160) (ans := 0) (wor := 0) (Int.le_refl 0) hT1 (Or.inl rfl) (congrArg (·.1) hRt) (congrArg (·.2.1) hRt) (by rw [if_neg (by decide), hRt]) (by rw [← hCG]; exact f9)) (by omega) 
  intro a_14 fa_15 dp_16 ans_17 wor_18 f19 f20
  show (fun (rv : Option Value) (h : AmH) => ∃ a' : Int, ∃ fa' : Int, ∃ dp' : Int, ∃ ans' : Int, ∃ wor' : Int, rv = none ∧ h = cmH (u1 (u1 (u1 (u1 (u1 (u1 (u1 (u1 z 8 bg) 9 n) 10 a') 11 fa') 12 dp') 13 121) 14 wor') 17 ans') zl (uf (uf f 1 tb) 4 lt) fl 1 ∧ ((Rt.1 = true ∧ sg n b Rt.2.1 = -1 ∧ fa' = -1 ∧ wor' = fnd (ltL lt) Rt.2.2.2) ∨ (¬ (Rt.1 = true ∧ sg n b Rt.2.1 = -1) ∧ fa' = Rt.2.1 ∧ fa' ≠ -1)) ∧ ((0 ≤ a' ∧ a' ≤ n) ∧ (fa' = -1 ∨ (0 ≤ fa' ∧ fa' ≤ 160)) ∧ (ans' = 0 ∨ ans' = 1))) (none) (cmH (u1 (u1 (u1 (u1 (u1 (u1 (u1 (u1 z 8 bg) 9 n) 10 a_14) 11 fa_15) 12 dp_16) 13 121) 14 wor_18) 17 ans_17) zl (uf (uf f 1 tb) 4 lt) fl 1)
  exact ⟨_, _, _, _, _, rfl, rfl, f19, f20⟩
set_option maxRecDepth 100000 in
set_option maxHeartbeats 4000000 in
theorem m_goth_l2 (d : Nat) (z : Nat → Int) (zl : Nat → Int) (f : Nat → Int → Int) (fl : Nat → Int → Int) (tx : Nat)  (n : Int) (bg : Int) (tb : Int → Int) (b : Int → Int) (lt : Int → Int) (Rt : RuT) (w1 : Option Value) (w2 : Option Value) (w3 : Option Value) (hT : tOK n b) (hM : mOK n bg 640 tb b) (hL : ∀ k : Int, 0 ≤ k → k < 128 → -1000000 ≤ lt k ∧ lt k ≤ 1000000) (P : Option Value → AmH → Prop) (hx0 : ∀ (a' : Int) (fa' : Int) (dp' : Int) (ans' : Int) (wor' : Int), ((Rt.1 = true ∧ sg n b Rt.2.1 = -1 ∧ fa' = -1 ∧ wor' = fnd (ltL lt) Rt.2.2.2) ∨ (¬ (Rt.1 = true ∧ sg n b Rt.2.1 = -1) ∧ fa' = Rt.2.1 ∧ fa' ≠ -1)) → ((0 ≤ a' ∧ a' ≤ n) ∧ (fa' = -1 ∨ (0 ≤ fa' ∧ fa' ≤ 160)) ∧ (ans' = 0 ∨ ans' = 1)) → P (none) (cmH (u1 (u1 (u1 (u1 (u1 (u1 (u1 (u1 z 8 bg) 9 n) 10 a') 11 fa') 12 dp') 13 121) 14 wor') 17 ans') zl (uf (uf f 2 tb) 4 lt) fl 2)) : ∀ (kF : Nat) (a : Int) (fa : Int) (dp : Int) (ans : Int) (wor : Int) (k : Nat), (0 ≤ a ∧ a ≤ n) → (fa = -1 ∨ (0 ≤ fa ∧ fa ≤ 160)) → (ans = 0 ∨ ans = 1) → (fa = -1 → n - a < (k : Int)) → (ans = 0 → wor = 0) → (gtI n b (ltL lt) Rt k a fa dp ans wor) → (n - a) < (kF : Int) → Rx (d + 29) m_X12_goThrough 32 [some (.ref 0), w1, w2, w3] [] (cmH (u1 (u1 (u1 (u1 (u1 (u1 (u1 (u1 z 8 bg) 9 n) 10 a) 11 fa) 12 dp) 13 121) 14 wor) 17 ans) zl (uf (uf f 2 tb) 4 lt) fl 2) P := by
  obtain ⟨hT1, hT2, hT3⟩ := id hT
  have hbg := hM.1
  have hbz := hM.2.1
  intro kF
  induction kF with
  | zero =>
    intro a fa dp ans wor k ha hfa hans hke hw hI hk
    exfalso; omega
  | succ kF ih =>
    intro a fa dp ans wor k ha hfa hans hke hw hI hk
    refine Rx.walk 3 (pc' := 37) (L' := [some (.ref 0), w1, w2, w3]) (st' := [.int (iz (-1)), .int (iz fa)]) (h' := cmH (u1 (u1 (u1 (u1 (u1 (u1 (u1 (u1 z 8 bg) 9 n) 10 a) 11 fa) 12 dp) 13 121) 14 wor) 17 ans) zl (uf (uf f 2 tb) 4 lt) fl 2) rfl ?_
    refine Rx.ne2 rfl rfl ⟨by omega, by omega⟩ ⟨by omega, by omega⟩ (fun b1 => ?_) (fun b1 => ?_)
    · refine Rx.walk 3 (pc' := 71) (L' := [some (.ref 0), w1, w2, w3]) (st' := [.int (iz (-1)), .int (iz fa)]) (h' := cmH (u1 (u1 (u1 (u1 (u1 (u1 (u1 (u1 z 8 bg) 9 n) 10 a) 11 fa) 12 dp) 13 121) 14 wor) 17 ans) zl (uf (uf f 2 tb) 4 lt) fl 2) rfl ?_
      refine Rx.ne2 rfl rfl ⟨by omega, by omega⟩ ⟨by omega, by omega⟩ (fun b2 => ?_) (fun b2 => by omega)
      refine Rx.ret rfl ?_
      exact hx0 _ _ _ _ _ (by rcases hI with z | z; (exfalso; omega); exact Or.inr ⟨fun x => absurd (z.1.symm.trans x.1) (by decide), z.2.1, z.2.2⟩) ⟨ha, hfa, hans⟩
    · obtain ⟨rfl, rfl, hi1, hi2, hi3⟩ : fa = -1 ∧ dp = 0 ∧ Rt.1 = (rlS n b k a).1 ∧ Rt.2.1 = (rlS n b k a).2.1 ∧ fnd (ltL lt) Rt.2.2.2 = (if ans = 1 then wor else fnd (ltL lt) (rlS n b k a).2.2.2) := by rcases hI with z | z; exact z; (exfalso; omega)
      replace hke := hke rfl
      refine Rx.walk 1 (pc' := 41) (L' := [some (.ref 0), w1, w2, w3]) (st' := [.ref 0]) (h' := cmH (u1 (u1 (u1 (u1 (u1 (u1 (u1 (u1 z 8 bg) 9 n) 10 a) 11 (-1)) 12 0) 13 121) 14 wor) 17 ans) zl (uf (uf f 2 tb) 4 lt) fl 2) rfl ?_
      refine Rx.callx (m' := m_X12_look) (as := [.ref 0]) (rest := []) rfl (m_look2 _ (u1 (u1 (u1 (u1 z 12 0) 13 121) 14 wor) 17 ans) zl (uf f 4 lt) fl 2  n a bg (-1) tb b hT hM ha) (fun v9 h10 q11 => ?_)
      obtain ⟨r_3, a_4, rfl, rfl, f5, f6, f7, f8⟩ := q11
      refine Rx.walk 0 (pc' := 44) (L' := [some (.ref 0), w1, w2, w3]) (st' := [.int (iz r_3)]) (h' := cmH (u1 (u1 (u1 (u1 (u1 (u1 (u1 (u1 z 8 bg) 9 n) 10 a_4) 11 (-1)) 12 0) 13 121) 14 wor) 17 ans) zl (uf (uf f 2 tb) 4 lt) fl 2) rfl ?_
      refine Rx.walk 1 (pc' := 46) (L' := [some (.ref 0), w1, w2, w3]) (st' := [.int (iz 59), .int (iz r_3)]) (h' := cmH (u1 (u1 (u1 (u1 (u1 (u1 (u1 (u1 z 8 bg) 9 n) 10 a_4) 11 (-1)) 12 0) 13 121) 14 wor) 17 ans) zl (uf (uf f 2 tb) 4 lt) fl 2) rfl ?_
      refine Rx.ne2 rfl rfl ⟨by omega, by omega⟩ ⟨by omega, by omega⟩ (fun b12 => ?_) (fun b12 => ?_)
      · refine Rx.walk 3 (pc' := 71) (L' := [some (.ref 0), w1, w2, w3]) (st' := [.int (iz (-1)), .int (iz (-1))]) (h' := cmH (u1 (u1 (u1 (u1 (u1 (u1 (u1 (u1 z 8 bg) 9 n) 10 a_4) 11 (-1)) 12 0) 13 121) 14 wor) 17 ans) zl (uf (uf f 2 tb) 4 lt) fl 2) rfl ?_
        refine Rx.ne2 rfl rfl ⟨by omega, by omega⟩ ⟨by omega, by omega⟩ (fun b13 => by omega) (fun b13 => ?_)
        refine Rx.walk 1 (pc' := 75) (L' := [some (.ref 0), w1, w2, w3]) (st' := [.ref 0]) (h' := cmH (u1 (u1 (u1 (u1 (u1 (u1 (u1 (u1 z 8 bg) 9 n) 10 a_4) 11 (-1)) 12 0) 13 121) 14 wor) 17 ans) zl (uf (uf f 2 tb) 4 lt) fl 2) rfl ?_
        refine Rx.callx (m' := m_X12_look) (as := [.ref 0]) (rest := []) rfl (m_look2 _ (u1 (u1 (u1 (u1 z 12 0) 13 121) 14 wor) 17 ans) zl (uf f 4 lt) fl 2  n a_4 bg (-1) tb b hT hM ⟨by omega, by omega⟩) (fun v20 h21 q22 => ?_)
        obtain ⟨r_14, a_15, rfl, rfl, f16, f17, f18, f19⟩ := q22
        refine Rx.walk 0 (pc' := 78) (L' := [some (.ref 0), w1, w2, w3]) (st' := [.int (iz r_14)]) (h' := cmH (u1 (u1 (u1 (u1 (u1 (u1 (u1 (u1 z 8 bg) 9 n) 10 a_15) 11 (-1)) 12 0) 13 121) 14 wor) 17 ans) zl (uf (uf f 2 tb) 4 lt) fl 2) rfl ?_
        refine Rx.walk 1 (pc' := 79) (L' := [some (.ref 0), w1, w2, w3]) (st' := [.int (iz (-1)), .int (iz r_14)]) (h' := cmH (u1 (u1 (u1 (u1 (u1 (u1 (u1 (u1 z 8 bg) 9 n) 10 a_15) 11 (-1)) 12 0) 13 121) 14 wor) 17 ans) zl (uf (uf f 2 tb) 4 lt) fl 2) rfl ?_
        refine Rx.eq2 rfl rfl ⟨by omega, by omega⟩ ⟨by omega, by omega⟩ (fun b23 => ?_) (fun b23 => ?_)
        · refine Rx.ret rfl ?_
          exact hx0 _ _ _ _ _ (by have hs9 : sg n b (sks n b a) ≠ 59 := (by rw [← f5, ← f6]; omega); rw [rlS_n hs9] at hi1 hi2 hi3; have e2 : a_15 = sks n b a := (by rw [f16, f5, sks_sks]); refine Or.inl ⟨hi1, ?_, rfl, ?_⟩; (rw [show Rt.2.1 = sks n b a from hi2, ← e2, ← f17]; omega); (rw [hi3]; show wor = if ans = 1 then wor else 0; split; rfl; exact hw (by omega))) ⟨⟨by omega, by omega⟩, Or.inl rfl, hans⟩
        · refine Rx.walk 1 (pc' := 83) (L' := [some (.ref 0), w1, w2, w3]) (st' := [.ref 0]) (h' := cmH (u1 (u1 (u1 (u1 (u1 (u1 (u1 (u1 z 8 bg) 9 n) 10 a_15) 11 (-1)) 12 0) 13 121) 14 wor) 17 ans) zl (uf (uf f 2 tb) 4 lt) fl 2) rfl ?_
          refine Rx.callx (m' := m_X12_fails) (as := [.ref 0]) (rest := []) rfl (m_fails _ (u1 (u1 (u1 (u1 (u1 (u1 z 8 bg) 9 n) 12 0) 13 121) 14 wor) 17 ans) zl (uf (uf f 2 tb) 4 lt) fl 2  a_15 (-1) (Or.inl rfl)) (fun v26 h27 q28 => ?_)
          obtain ⟨fa_24, rfl, rfl, f25⟩ := q28
          refine Rx.walk 0 (pc' := 86) (L' := [some (.ref 0), w1, w2, w3]) (st' := [.int (iz 0)]) (h' := cmH (u1 (u1 (u1 (u1 (u1 (u1 (u1 (u1 z 8 bg) 9 n) 10 a_15) 11 fa_24) 12 0) 13 121) 14 wor) 17 ans) zl (uf (uf f 2 tb) 4 lt) fl 2) rfl ?_
          refine Rx.walk 1 (pc' := 87) (L' := [some (.ref 0), w1, w2, w3]) (st' := []) (h' := cmH (u1 (u1 (u1 (u1 (u1 (u1 (u1 (u1 z 8 bg) 9 n) 10 a_15) 11 fa_24) 12 0) 13 121) 14 wor) 17 ans) zl (uf (uf f 2 tb) 4 lt) fl 2) rfl ?_
          refine Rx.ret rfl ?_
          exact hx0 _ _ _ _ _ (by have hs9 : sg n b (sks n b a) ≠ 59 := (by rw [← f5, ← f6]; omega); rw [rlS_n hs9] at hi1 hi2 hi3; have e2 : a_15 = sks n b a := (by rw [f16, f5, sks_sks]); refine Or.inr ⟨fun x => ?_, ?_, ?_⟩; (have y := x.2; rw [show Rt.2.1 = sks n b a from hi2, ← e2, ← f17] at y; omega); (rw [show Rt.2.1 = sks n b a from hi2]; omega); omega) ⟨⟨by omega, by omega⟩, by omega, hans⟩
      · have hlt : a_4 < n := by rcases Int.lt_or_le a_4 n with q | q; exact q; (exfalso; rw [sg_ge q] at f6; omega)
        have hs9 : sg n b (sks n b a) = 59 := by rw [← f5, ← f6]; omega
        obtain ⟨k, rfl⟩ : ∃ k2 : Nat, k = k2 + 1 := ⟨k - 1, by omega⟩
        rw [rlS_y hs9, ← f5] at hi1 hi2 hi3
        obtain ⟨CG, hCG⟩ : ∃ q, q = clauseG n b (a_4 + 1) := ⟨_, rfl⟩
        have hco := clauseG_ok (n := n) (b := b) (a := a_4 + 1) (by omega) (by omega)
        rw [← hCG] at hco
        refine Rx.walk 4 (pc' := 55) (L' := [some (.ref 0), w1, w2, w3]) (st' := [.int (iz 1), .int (iz a_4), .ref 0]) (h' := cmH (u1 (u1 (u1 (u1 (u1 (u1 (u1 (u1 z 8 bg) 9 n) 10 a_4) 11 (-1)) 12 0) 13 121) 14 wor) 17 ans) zl (uf (uf f 2 tb) 4 lt) fl 2) rfl ?_
        refine Rx.iadd rfl ?_
        refine Rx.walk 2 (pc' := 60) (L' := [some (.ref 0), w1, w2, w3]) (st' := [.ref 0]) (h' := cmH (u1 (u1 (u1 (u1 (u1 (u1 (u1 (u1 z 8 bg) 9 n) 10 (a_4 + 1)) 11 (-1)) 12 0) 13 121) 14 wor) 17 ans) zl (uf (uf f 2 tb) 4 lt) fl 2) rfl ?_
        refine Rx.callx (m' := m_X12_clause) (as := [.ref 0]) (rest := []) rfl (m_clause2 _ z zl f fl 2  ans wor n (a_4 + 1) bg tb b lt CG hT hM ⟨by omega, by omega⟩ hL hans hCG) (fun v36 h37 q38 => ?_)
        obtain ⟨a_29, fa_30, dp_31, ans_32, wor_33, rfl, rfl, f34, f35⟩ := q38
        refine Rx.walk 0 (pc' := 63) (L' := [some (.ref 0), w1, w2, w3]) (st' := []) (h' := cmH (u1 (u1 (u1 (u1 (u1 (u1 (u1 (u1 z 8 bg) 9 n) 10 a_29) 11 fa_30) 12 dp_31) 13 121) 14 wor_33) 17 ans_32) zl (uf (uf f 2 tb) 4 lt) fl 2) rfl ?_
        refine Rx.walk 1 (pc' := 32) (L' := [some (.ref 0), w1, w2, w3]) (st' := []) (h' := cmH (u1 (u1 (u1 (u1 (u1 (u1 (u1 (u1 z 8 bg) 9 n) 10 a_29) 11 fa_30) 12 dp_31) 13 121) 14 wor_33) 17 ans_32) zl (uf (uf f 2 tb) 4 lt) fl 2) rfl ?_
        exact ih a_29 fa_30 dp_31 ans_32 wor_33 k (by obtain ⟨z1, -, -⟩ := f35; clear f34; exact ⟨by omega, by omega⟩) (f35).2.1 (f35).2.2 (fun z => by rcases f34 with y | y; (have := hco.2.2 y.1; have := y.2.2.1; omega); (have := hco.1; have := y.2.1; omega)) (fun z => by rcases f34 with y | y; (rcases y.2.2.2.2 with x | x; (exfalso; omega); (rw [x.2.2]; exact hw (by omega))); (rw [y.2.2.2]; exact hw (by omega))) (gt_step (a0 := a_4 + 1) (by omega) (by omega) hans hi1 hi2 hi3 (by rw [← hCG]; exact f34)) (by obtain ⟨z1, -, -⟩ := f35; clear f34; rcases hco with ⟨hcx, -⟩; omega) 
set_option maxRecDepth 100000 in
set_option maxHeartbeats 4000000 in
theorem m_goth2 (d : Nat) (z : Nat → Int) (zl : Nat → Int) (f : Nat → Int → Int) (fl : Nat → Int → Int) (tx : Nat)  (n : Int) (bg : Int) (tb : Int → Int) (b : Int → Int) (lt : Int → Int) (Rt : RuT) (hT : tOK n b) (hM : mOK n bg 640 tb b) (hL : ∀ k : Int, 0 ≤ k → k < 128 → -1000000 ≤ lt k ∧ lt k ≤ 1000000) (hRt : Rt = ruleL n b 161 0) : Rx (d + 29) m_X12_goThrough 0 (am_ent [.ref 0, .ref 2, .int (iz bg), .int (iz n)] 4) [] (cmH z zl (uf (uf f 2 tb) 4 lt) fl tx) (fun rv h => ∃ a' : Int, ∃ fa' : Int, ∃ dp' : Int, ∃ ans' : Int, ∃ wor' : Int, rv = none ∧ h = cmH (u1 (u1 (u1 (u1 (u1 (u1 (u1 (u1 z 8 bg) 9 n) 10 a') 11 fa') 12 dp') 13 121) 14 wor') 17 ans') zl (uf (uf f 2 tb) 4 lt) fl 2 ∧ ((Rt.1 = true ∧ sg n b Rt.2.1 = -1 ∧ fa' = -1 ∧ wor' = fnd (ltL lt) Rt.2.2.2) ∨ (¬ (Rt.1 = true ∧ sg n b Rt.2.1 = -1) ∧ fa' = Rt.2.1 ∧ fa' ≠ -1)) ∧ ((0 ≤ a' ∧ a' ≤ n) ∧ (fa' = -1 ∨ (0 ≤ fa' ∧ fa' ≤ 160)) ∧ (ans' = 0 ∨ ans' = 1))) := by
  obtain ⟨hT1, hT2, hT3⟩ := id hT
  have hbg := hM.1
  have hbz := hM.2.1
  obtain ⟨CG, hCG⟩ : ∃ q, q = clauseG n b 0 := ⟨_, rfl⟩
  have hco := clauseG_ok (n := n) (b := b) (a := 0) (by omega) (by omega)
  rw [← hCG] at hco
  refine Rx.walk 0 (pc' := 0) (L' := [some (.ref 0), some (.ref 2), some (.int (iz bg)), some (.int (iz n))]) (st' := []) (h' := cmH z zl (uf (uf f 2 tb) 4 lt) fl tx) rfl ?_
  refine Rx.walk 4 (pc' := 4) (L' := [some (.ref 0), some (.ref 2), some (.int (iz bg)), some (.int (iz n))]) (st' := [.int (iz n), .int (iz bg), .ref 2, .ref 0]) (h' := cmH z zl (uf (uf f 2 tb) 4 lt) fl tx) rfl ?_
  refine Rx.callx (m' := m_X12_opens) (as := [.ref 0, .ref 2, .int (iz bg), .int (iz n)]) (rest := []) rfl (m_opens _ z zl (uf (uf f 2 tb) 4 lt) fl tx  2 bg n ) (fun v1 h2 q3 => ?_)
  obtain ⟨rfl, rfl⟩ := q3
  refine Rx.walk 0 (pc' := 7) (L' := [some (.ref 0), some (.ref 2), some (.int (iz bg)), some (.int (iz n))]) (st' := []) (h' := cmH (u1 (u1 (u1 (u1 z 8 bg) 9 n) 10 0) 11 (-1)) zl (uf (uf f 2 tb) 4 lt) fl 2) rfl ?_
  refine Rx.walk 13 (pc' := 29) (L' := [some (.ref 0), some (.ref 2), some (.int (iz bg)), some (.int (iz n))]) (st' := [.ref 0]) (h' := cmH (u1 (u1 (u1 (u1 (u1 (u1 (u1 (u1 z 8 bg) 9 n) 10 0) 11 (-1)) 12 0) 13 121) 14 0) 17 0) zl (uf (uf f 2 tb) 4 lt) fl 2) rfl ?_
  refine Rx.callx (m' := m_X12_clause) (as := [.ref 0]) (rest := []) rfl (m_clause2 _ z zl f fl 2  0 0 n 0 bg tb b lt CG hT hM ⟨by omega, by omega⟩ hL (Or.inl rfl) hCG) (fun v11 h12 q13 => ?_)
  obtain ⟨a_4, fa_5, dp_6, ans_7, wor_8, rfl, rfl, f9, f10⟩ := q13
  refine Rx.walk 0 (pc' := 32) (L' := [some (.ref 0), some (.ref 2), some (.int (iz bg)), some (.int (iz n))]) (st' := []) (h' := cmH (u1 (u1 (u1 (u1 (u1 (u1 (u1 (u1 z 8 bg) 9 n) 10 a_4) 11 fa_5) 12 dp_6) 13 121) 14 wor_8) 17 ans_7) zl (uf (uf f 2 tb) 4 lt) fl 2) rfl ?_
  refine m_goth_l2 _ z zl f fl 2  n bg tb b lt Rt (some (.ref 2)) (some (.int (iz bg))) (some (.int (iz n))) hT hM hL _ ?_ ((n - a_4) + 1 : Int).toNat a_4 fa_5 dp_6 ans_7 wor_8 160 (by obtain ⟨z1, -, -⟩ := f10; clear f9; exact ⟨by omega, by omega⟩) (f10).2.1 (f10).2.2 (fun z => by rcases f9 with y | y; (have := hco.2.2 y.1; have := y.2.2.1; omega); (have := hco.1; have := y.2.1; omega)) (fun z => by rcases f9 with y | y; (rcases y.2.2.2.2 with x | x; (exfalso; omega); exact x.2.2); exact y.2.2.2) (gt_step (k := 160) (ans := 0) (wor := 0) (Int.le_refl 0) hT1 (Or.inl rfl) (congrArg (·.1) hRt) (congrArg (·.2.1) hRt) (by rw [if_neg (by decide), hRt]) (by rw [← hCG]; exact f9)) (by omega) 
  intro a_14 fa_15 dp_16 ans_17 wor_18 f19 f20
  show (fun (rv : Option Value) (h : AmH) => ∃ a' : Int, ∃ fa' : Int, ∃ dp' : Int, ∃ ans' : Int, ∃ wor' : Int, rv = none ∧ h = cmH (u1 (u1 (u1 (u1 (u1 (u1 (u1 (u1 z 8 bg) 9 n) 10 a') 11 fa') 12 dp') 13 121) 14 wor') 17 ans') zl (uf (uf f 2 tb) 4 lt) fl 2 ∧ ((Rt.1 = true ∧ sg n b Rt.2.1 = -1 ∧ fa' = -1 ∧ wor' = fnd (ltL lt) Rt.2.2.2) ∨ (¬ (Rt.1 = true ∧ sg n b Rt.2.1 = -1) ∧ fa' = Rt.2.1 ∧ fa' ≠ -1)) ∧ ((0 ≤ a' ∧ a' ≤ n) ∧ (fa' = -1 ∨ (0 ≤ fa' ∧ fa' ≤ 160)) ∧ (ans' = 0 ∨ ans' = 1))) (none) (cmH (u1 (u1 (u1 (u1 (u1 (u1 (u1 (u1 z 8 bg) 9 n) 10 a_14) 11 fa_15) 12 dp_16) 13 121) 14 wor_18) 17 ans_17) zl (uf (uf f 2 tb) 4 lt) fl 2)
  exact ⟨_, _, _, _, _, rfl, rfl, f19, f20⟩

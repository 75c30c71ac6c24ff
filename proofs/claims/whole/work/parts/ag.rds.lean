/-! rules: a whole text read by the class (printed by wip/whole/genrds.py) -/
section ClOk
variable {n : Int} {b : Int → Int}
theorem clQ_ok {q : RsT} {a : Int} (a0 : 0 ≤ a) (hq : a ≤ q.2.1 ∧ q.2.1 ≤ n ∧ (q.1 = true → (q.2.2.1.length : Int) + a ≤ q.2.1 ∧ a < q.2.1)) : a ≤ (clQ n b q).2.1 ∧ (clQ n b q).2.1 ≤ n ∧ ((clQ n b q).1 = true → ((clQ n b q).2.2.1.length : Int) + a ≤ (clQ n b q).2.1 + 1 ∧ a < (clQ n b q).2.1) := by
  have s1 := sks_le n b q.2.1
  have s2 := sks_n b hq.2.1
  unfold clQ
  split
  · rename_i h
    have hq3 := hq.2.2 h
    split
    · rename_i hm
      have hlt := sk_lt hq.2.1 hm (by decide)
      obtain ⟨w1, w2, w3⟩ := sumR_ok (n := n) (b := b) 6 (sks n b q.2.1 + 1) (by omega) (by omega)
      split
      · rename_i hw
        have w3 := w3 hw
        refine ⟨?_, w2, fun _ => ⟨?_, ?_⟩⟩
        · show a ≤ (sumR n b 6 (sks n b q.2.1 + 1)).2.1; omega
        · show ((q.2.2.1 ++ [-11] ++ (sumR n b 6 (sks n b q.2.1 + 1)).2.2.1 ++ [-12]).length : Int) + a ≤ (sumR n b 6 (sks n b q.2.1 + 1)).2.1 + 1
          rw [List.length_append, List.length_append, List.length_append]
          show ((q.2.2.1.length + 1 + (sumR n b 6 (sks n b q.2.1 + 1)).2.2.1.length + 1 : Nat) : Int) + a ≤ _
          omega
        · show a < (sumR n b 6 (sks n b q.2.1 + 1)).2.1; omega
      · exact ⟨by show a ≤ (sumR n b 6 (sks n b q.2.1 + 1)).2.1; omega, w2, fun q => absurd q (by simp [rsF])⟩
    · exact ⟨by show a ≤ sks n b q.2.1; omega, s2, fun q => absurd q (by simp [rsF])⟩
  · exact ⟨hq.1, hq.2.1, fun q => absurd q (by simp [rsF])⟩
theorem clauseG_ok {a : Int} (a0 : 0 ≤ a) (a1 : a ≤ n) : a ≤ (clauseG n b a).1.2.1 ∧ (clauseG n b a).1.2.1 ≤ n ∧ ((clauseG n b a).1.1 = true → ((clauseG n b a).1.2.2.1.length : Int) + a ≤ (clauseG n b a).1.2.1 ∧ a + 1 < (clauseG n b a).1.2.1) := by
  have s1 := sks_le n b a
  have s2 := sks_n b a1
  unfold clauseG
  split
  · rename_i h
    have hlt := sk_lt a1 h (by decide)
    have t1 := sks_le n b (sks n b a + 1)
    have t2 := sks_n b (show sks n b a + 1 ≤ n by omega)
    split
    · rename_i h2
      have hlt2 := sk_lt (show sks n b a + 1 ≤ n by omega) h2 (by decide)
      generalize hu : sks n b (sks n b a + 1) + 1 = u at *
      have u1 := sks_le n b u
      have u2 := sks_n b (show u ≤ n by omega)
      unfold clU
      split
      · have hc := condG_ok (b := b) (unitR_ok (n := n) (b := b) 6) (sks n b u) (by omega) u2
        have hq := clQ_ok (b := b) (a := sks n b u) (by omega) hc
        exact ⟨by show a ≤ (clQ n b (condG n b (unitR n b 6) (sks n b u))).2.1; omega, hq.2.1, fun q => by have := hq.2.2 q; exact ⟨by show ((clQ n b (condG n b (unitR n b 6) (sks n b u))).2.2.1.length : Int) + a ≤ (clQ n b (condG n b (unitR n b 6) (sks n b u))).2.1; omega, by show a + 1 < (clQ n b (condG n b (unitR n b 6) (sks n b u))).2.1; omega⟩⟩
      · have hS := sumR_ok (n := n) (b := b) 6 (sks n b u) (by omega) u2
        split
        · rename_i hs
          have hS3 := hS.2.2 hs
          have v1 := sks_le n b (sumR n b 6 (sks n b u)).2.1
          have v2 := sks_n b hS.2.1
          split
          · refine ⟨?_, v2, fun _ => ⟨?_, ?_⟩⟩
            · show a ≤ sks n b (sumR n b 6 (sks n b u)).2.1; omega
            · show (((sumR n b 6 (sks n b u)).2.2.1 ++ [-12]).length : Int) + a ≤ sks n b (sumR n b 6 (sks n b u)).2.1
              rw [List.length_append]
              show (((sumR n b 6 (sks n b u)).2.2.1.length + 1 : Nat) : Int) + a ≤ _
              omega
            · show a + 1 < sks n b (sumR n b 6 (sks n b u)).2.1; omega
          · have hc := cndB_ok (b := b) (q := sumR n b 6 (sks n b u)) (a := sks n b u) (by omega) hS
            have hq := clQ_ok (b := b) (a := sks n b u) (by omega) hc
            exact ⟨by show a ≤ (clQ n b (cndB n b (sumR n b 6 (sks n b u)))).2.1; omega, hq.2.1, fun q => by have := hq.2.2 q; exact ⟨by show ((clQ n b (cndB n b (sumR n b 6 (sks n b u)))).2.2.1.length : Int) + a ≤ (clQ n b (cndB n b (sumR n b 6 (sks n b u)))).2.1; omega, by show a + 1 < (clQ n b (cndB n b (sumR n b 6 (sks n b u)))).2.1; omega⟩⟩
        · exact ⟨by show a ≤ (sumR n b 6 (sks n b u)).2.1; omega, hS.2.1, fun q => absurd q (by simp [rsF])⟩
    · exact ⟨by show a ≤ sks n b (sks n b a + 1); omega, t2, fun q => absurd q (by simp [rsF])⟩
  · exact ⟨s1, s2, fun q => absurd q (by simp [rsF])⟩
end ClOk
/-- a rule: told, where, code, its clauses (condition, value) -/
abbrev RuT : Type := Bool × Int × List Int × List (((Int → Int) → Int) × ((Int → Int) → Int))
def ruleL (n : Int) (b : Int → Int) : Nat → Int → RuT
  | 0, a => (false, a, [], [])
  | k + 1, a => if (clauseG n b a).1.1 = true then (if sg n b (sks n b (clauseG n b a).1.2.1) = 59 then ((ruleL n b k (sks n b (clauseG n b a).1.2.1 + 1)).1, (ruleL n b k (sks n b (clauseG n b a).1.2.1 + 1)).2.1, (clauseG n b a).1.2.2.1 ++ (ruleL n b k (sks n b (clauseG n b a).1.2.1 + 1)).2.2.1, ((clauseG n b a).2, (clauseG n b a).1.2.2.2) :: (ruleL n b k (sks n b (clauseG n b a).1.2.1 + 1)).2.2.2) else (true, sks n b (clauseG n b a).1.2.1, (clauseG n b a).1.2.2.1, [((clauseG n b a).2, (clauseG n b a).1.2.2.2)])) else (false, (clauseG n b a).1.2.1, [], [])
theorem ruleL_f {n : Int} {b : Int → Int} {k : Nat} {a : Int} (h : (clauseG n b a).1.1 = false) : ruleL n b (k + 1) a = (false, (clauseG n b a).1.2.1, [], []) := by
  show (if _ then _ else _) = _
  rw [if_neg (by rw [h]; decide)]
theorem ruleL_e {n : Int} {b : Int → Int} {k : Nat} {a : Int} (h : (clauseG n b a).1.1 = true) (h2 : sg n b (sks n b (clauseG n b a).1.2.1) ≠ 59) : ruleL n b (k + 1) a = (true, sks n b (clauseG n b a).1.2.1, (clauseG n b a).1.2.2.1, [((clauseG n b a).2, (clauseG n b a).1.2.2.2)]) := by
  show (if _ then _ else _) = _
  rw [if_pos h, if_neg h2]
theorem ruleL_s {n : Int} {b : Int → Int} {k : Nat} {a : Int} (h : (clauseG n b a).1.1 = true) (h2 : sg n b (sks n b (clauseG n b a).1.2.1) = 59) : ruleL n b (k + 1) a = ((ruleL n b k (sks n b (clauseG n b a).1.2.1 + 1)).1, (ruleL n b k (sks n b (clauseG n b a).1.2.1 + 1)).2.1, (clauseG n b a).1.2.2.1 ++ (ruleL n b k (sks n b (clauseG n b a).1.2.1 + 1)).2.2.1, ((clauseG n b a).2, (clauseG n b a).1.2.2.2) :: (ruleL n b k (sks n b (clauseG n b a).1.2.1 + 1)).2.2.2) := by
  show (if _ then _ else _) = _
  rw [if_pos h, if_pos h2]
/-- what the class's reading of a rule leaves -/
def rlR (n : Int) (b : Int → Int) (R : RuT) (P : List Int) (r a' sz' : Int) (cd' : Int → Int) : Prop := (R.1 = true ∧ r = 1 ∧ a' = R.2.1 ∧ sz' = (P ++ R.2.2.1).length ∧ lsI sz'.toNat cd' = P ++ R.2.2.1) ∨ (R.1 = false ∧ a' = R.2.1 ∧ (r = 0 ∨ (r = 1 ∧ isD n b a' = true)))
set_option maxRecDepth 100000 in
set_option maxHeartbeats 4000000 in
theorem x_rReads_l (d : Nat) (z : Nat → Nat → Int) (f : Nat → Int → Int) (C : Nat → CuR) (T : Nat → TsR) (rc : Nat → Nat) (tl : AmH)  (n : Int) (b : Int → Int) (Rt : RuT) (hT : tOK n b) (P : Option Value → AmH → Prop) (hx0 : ∀ (r : Int) (a' : Int) (sz' : Int) (cd' : Int → Int), (rlR n b Rt [] r a' sz' cd') → ((r = 0 ∨ r = 1) ∧ (0 ≤ a' ∧ a' ≤ n) ∧ (0 ≤ sz' ∧ sz' ≤ 161)) → P (some (.int (iz r))) (cxW (u2 (u2 (u2 z 1 1 n) 1 2 a') 12 1 sz') (uf (uf f 2 b) 13 cd') C T rc tl)) : ∀ (kF : Nat) (i : Int) (a : Int) (sz : Int) (cd : Int → Int) (P0 : List Int), (0 ≤ a ∧ a ≤ n) → (0 ≤ i ∧ 2 * i ≤ a) → (0 ≤ sz ∧ sz ≤ a) → (sz = P0.length ∧ lsI sz.toNat cd = P0) → (Rt.1 = (ruleL n b (161 - i).toNat a).1 ∧ Rt.2.1 = (ruleL n b (161 - i).toNat a).2.1 ∧ Rt.2.2.1 = P0 ++ (ruleL n b (161 - i).toNat a).2.2.1) → (160 - i) < (kF : Int) → Rx (d + 34) m_X6_reads 7 [some (.ref 12), some (.ref 1), some (.int (iz i))] [] (cxW (u2 (u2 (u2 z 1 1 n) 1 2 a) 12 1 sz) (uf (uf f 2 b) 13 cd) C T rc tl) P := by
  obtain ⟨hT1, hT2, hT3⟩ := id hT
  intro kF
  induction kF with
  | zero =>
    intro i a sz cd P0 ha hi hs hP hE hk
    exfalso; omega
  | succ kF ih =>
    intro i a sz cd P0 ha hi hs hP hE hk
    refine Rx.walk 2 (pc' := 11) (L' := [some (.ref 12), some (.ref 1), some (.int (iz i))]) (st' := [.int (iz 160), .int (iz i)]) (h' := cxW (u2 (u2 (u2 z 1 1 n) 1 2 a) 12 1 sz) (uf (uf f 2 b) 13 cd) C T rc tl) rfl ?_
    refine Rx.ge2 rfl rfl ⟨by omega, by omega⟩ ⟨by omega, by omega⟩ (fun b1 => ?_) (fun b1 => ?_)
    · refine Rx.walk 1 (pc' := 42) (L' := [some (.ref 12), some (.ref 1), some (.int (iz i))]) (st' := [.int (iz 1)]) (h' := cxW (u2 (u2 (u2 z 1 1 n) 1 2 a) 12 1 sz) (uf (uf f 2 b) 13 cd) C T rc tl) rfl ?_
      refine Rx.ret rfl ?_
      exact hx0 _ _ _ _ (by exfalso; omega) (by exfalso; omega)
    · refine Rx.walk 2 (pc' := 16) (L' := [some (.ref 12), some (.ref 1), some (.int (iz i))]) (st' := [.ref 1, .ref 12]) (h' := cxW (u2 (u2 (u2 z 1 1 n) 1 2 a) 12 1 sz) (uf (uf f 2 b) 13 cd) C T rc tl) rfl ?_
      refine Rx.callx (m' := m_X6_readsClause) (as := [.ref 12, .ref 1]) (rest := []) rfl (x_rClause _ (u2 (u2 (u2 z 1 1 n) 1 2 a) 12 1 sz) (uf (uf f 2 b) 13 cd) C T rc tl  n a b sz cd hT ha hs) (fun v8 h9 q10 => ?_)
      obtain ⟨r_2, a_3, sz_4, cd_5, rfl, rfl, f6, f7⟩ := q10
      refine Rx.walk 0 (pc' := 19) (L' := [some (.ref 12), some (.ref 1), some (.int (iz i))]) (st' := [.int (iz r_2)]) (h' := cxW (u2 (u2 (u2 z 1 1 n) 1 2 a_3) 12 1 sz_4) (uf (uf f 2 b) 13 cd_5) C T rc tl) rfl ?_
      obtain ⟨hq10, hr10, hu10⟩ := id f7
      refine Rx.ne1 rfl rfl ⟨by omega, by omega⟩ (fun b11 => ?_) (fun b11 => ?_)
      · refine Rx.walk 2 (pc' := 27) (L' := [some (.ref 12), some (.ref 1), some (.int (iz i))]) (st' := [.int (iz 59), .ref 1]) (h' := cxW (u2 (u2 (u2 z 1 1 n) 1 2 a_3) 12 1 sz_4) (uf (uf f 2 b) 13 cd_5) C T rc tl) rfl ?_
        refine Rx.callx (m' := m_X8_accepts) (as := [.ref 1, .int (iz 59)]) (rest := []) rfl (x_acc _ (u2 (u2 (u2 z 1 1 n) 1 2 a_3) 12 1 sz_4) (uf (uf f 2 b) 13 cd_5) C T rc tl  59 n a_3 b hT ⟨by omega, by omega⟩ (by first | assumption | omega)) (fun v16 h17 q18 => ?_)
        obtain ⟨r_12, a_13, rfl, rfl, f14, f15⟩ := q18
        refine Rx.walk 0 (pc' := 30) (L' := [some (.ref 12), some (.ref 1), some (.int (iz i))]) (st' := [.int (iz r_12)]) (h' := cxW (u2 (u2 (u2 z 1 1 n) 1 2 a_13) 12 1 sz_4) (uf (uf f 2 b) 13 cd_5) C T rc tl) rfl ?_
        refine Rx.ne1 rfl rfl ⟨by omega, by omega⟩ (fun b19 => ?_) (fun b19 => ?_)
        · refine Rx.iinc (b := 1) rfl rfl rfl ?_
          refine Rx.walk 0 (pc' := 38) (L' := [some (.ref 12), some (.ref 1), some (.int (iz (i + 1)))]) (st' := []) (h' := cxW (u2 (u2 (u2 z 1 1 n) 1 2 a_13) 12 1 sz_4) (uf (uf f 2 b) 13 cd_5) C T rc tl) rfl ?_
          refine Rx.walk 1 (pc' := 7) (L' := [some (.ref 12), some (.ref 1), some (.int (iz (i + 1)))]) (st' := []) (h' := cxW (u2 (u2 (u2 z 1 1 n) 1 2 a_13) 12 1 sz_4) (uf (uf f 2 b) 13 cd_5) C T rc tl) rfl ?_
          obtain ⟨-, w1, w2⟩ : r_12 = 1 ∧ sg n b (sks n b a_3) = 59 ∧ a_13 = sks n b a_3 + 1 := by rcases f14 with z | z; exact z; (exfalso; omega)
          obtain ⟨z1, z3, z4, z5⟩ : (clauseG n b a).1.1 = true ∧ a_3 = (clauseG n b a).1.2.1 ∧ sz_4 = sz + (clauseG n b a).1.2.2.1.length ∧ lsI (sz_4).toNat cd_5 = lsI sz.toNat cd ++ (clauseG n b a).1.2.2.1 := by
            rcases f6 with ⟨z1, z2, z3, z4, z5⟩ | ⟨z1, z2, z3, z4⟩
            · exact ⟨z1, z3, z4, z5⟩
            · exfalso
              have hdg := z4.elim (fun z => absurd z (by omega)) (fun z => z.2)
              have hdx := isD_sg.mp hdg
              have hsk : sks n b a_3 = a_3 := sks_at (by have := (isD_t.mp hdg); omega)
              rw [hsk] at w1; omega
          have hco := (clauseG_ok (n := n) (b := b) ha.1 ha.2).2.2 z1
          have hskl := sks_le n b a_3
          rw [show (161 - i).toNat = (160 - i).toNat + 1 by omega, ruleL_s z1 (by rw [← z3]; exact w1), ← z3, ← w2] at hE
          exact ih (i + 1) a_13 sz_4 cd_5 (P0 ++ (clauseG n b a).1.2.2.1) ⟨by omega, by omega⟩ ⟨by omega, by omega⟩ ⟨by omega, by omega⟩ ⟨by rw [List.length_append, z4, hP.1]; rfl, by rw [z5, hP.2]⟩ ⟨by rw [show (161 - (i + 1)).toNat = (160 - i).toNat by omega]; exact hE.1, by rw [show (161 - (i + 1)).toNat = (160 - i).toNat by omega]; exact hE.2.1, by rw [show (161 - (i + 1)).toNat = (160 - i).toNat by omega, List.append_assoc]; exact hE.2.2⟩ (by first | assumption | omega) 
        · refine Rx.walk 1 (pc' := 34) (L' := [some (.ref 12), some (.ref 1), some (.int (iz i))]) (st' := [.int (iz 1)]) (h' := cxW (u2 (u2 (u2 z 1 1 n) 1 2 a_13) 12 1 sz_4) (uf (uf f 2 b) 13 cd_5) C T rc tl) rfl ?_
          refine Rx.ret rfl ?_
          exact hx0 _ _ _ _ (by obtain ⟨-, w1, w2⟩ : r_12 = 0 ∧ sg n b (sks n b a_3) ≠ 59 ∧ a_13 = sks n b a_3 := (by rcases f14 with z | z; (exfalso; omega); exact z); rcases f6 with ⟨z1, z2, z3, z4, z5⟩ | ⟨z1, z2, z3, z4⟩; (rw [show (161 - i).toNat = (160 - i).toNat + 1 by omega, ruleL_e z1 (by rw [← z3]; exact w1)] at hE; refine Or.inl ⟨hE.1, rfl, by rw [hE.2.1, w2, z3], ?_, ?_⟩; (rw [hE.2.2, List.nil_append, List.length_append, z4, hP.1]; rfl); (rw [hE.2.2, List.nil_append, z5, hP.2])); (have hdg := z4.elim (fun z => absurd z (by omega)) (fun z => z.2); have hsk : sks n b a_3 = a_3 := sks_at (by have := (isD_t.mp hdg); omega); rw [show (161 - i).toNat = (160 - i).toNat + 1 by omega, ruleL_f z1] at hE; exact Or.inr ⟨hE.1, by rw [hE.2.1, w2, hsk]; exact z2, Or.inr ⟨rfl, by rw [w2, hsk]; exact hdg⟩⟩)) ⟨Or.inr rfl, by omega, by omega⟩
      · refine Rx.walk 1 (pc' := 23) (L' := [some (.ref 12), some (.ref 1), some (.int (iz i))]) (st' := [.int (iz 0)]) (h' := cxW (u2 (u2 (u2 z 1 1 n) 1 2 a_3) 12 1 sz_4) (uf (uf f 2 b) 13 cd_5) C T rc tl) rfl ?_
        refine Rx.ret rfl ?_
        exact hx0 _ _ _ _ (by rcases f6 with z | ⟨z1, z2, z3, z4⟩; (exfalso; have := z.2.1; omega); (rw [show (161 - i).toNat = (160 - i).toNat + 1 by omega, ruleL_f z1] at hE; exact Or.inr ⟨hE.1, z2.trans hE.2.1.symm, Or.inl rfl⟩)) ⟨Or.inl rfl, by omega, by omega⟩
set_option maxRecDepth 100000 in
set_option maxHeartbeats 4000000 in
theorem x_rReads (d : Nat) (z : Nat → Nat → Int) (f : Nat → Int → Int) (C : Nat → CuR) (T : Nat → TsR) (rc : Nat → Nat) (tl : AmH)  (n : Int) (b : Int → Int) (sz : Int) (cd : Int → Int) (hT : tOK n b) : Rx (d + 34) m_X6_reads 0 (am_ent [.ref 12, .ref 1] 3) [] (cxW (u2 (u2 (u2 z 1 1 n) 1 2 0) 12 1 sz) (uf (uf f 2 b) 13 cd) C T rc tl) (fun rv h => ∃ r : Int, ∃ a' : Int, ∃ sz' : Int, ∃ cd' : Int → Int, rv = some (.int (iz r)) ∧ h = cxW (u2 (u2 (u2 z 1 1 n) 1 2 a') 12 1 sz') (uf (uf f 2 b) 13 cd') C T rc tl ∧ rlR n b (ruleL n b 161 0) [] r a' sz' cd' ∧ ((r = 0 ∨ r = 1) ∧ (0 ≤ a' ∧ a' ≤ n) ∧ (0 ≤ sz' ∧ sz' ≤ 161))) := by
  obtain ⟨hT1, hT2, hT3⟩ := id hT
  refine Rx.walk 0 (pc' := 0) (L' := [some (.ref 12), some (.ref 1), none]) (st' := []) (h' := cxW (u2 (u2 (u2 z 1 1 n) 1 2 0) 12 1 sz) (uf (uf f 2 b) 13 cd) C T rc tl) rfl ?_
  refine Rx.walk 5 (pc' := 7) (L' := [some (.ref 12), some (.ref 1), some (.int (iz 0))]) (st' := []) (h' := cxW (u2 (u2 (u2 z 1 1 n) 1 2 0) 12 1 0) (uf (uf f 2 b) 13 cd) C T rc tl) rfl ?_
  refine x_rReads_l _ (u2 (u2 (u2 z 1 1 n) 1 2 0) 12 1 0) (uf (uf f 2 b) 13 cd) C T rc tl  n b (ruleL n b 161 0) hT _ ?_ ((160 - 0) + 1 : Int).toNat 0 0 0 cd [] ⟨by omega, by omega⟩ ⟨by omega, by omega⟩ ⟨by omega, by omega⟩ ⟨rfl, rfl⟩ ⟨rfl, rfl, rfl⟩ (by omega) 
  intro r_1 a_2 sz_3 cd_4 f5 f6
  show (fun (rv : Option Value) (h : AmH) => ∃ r : Int, ∃ a' : Int, ∃ sz' : Int, ∃ cd' : Int → Int, rv = some (.int (iz r)) ∧ h = cxW (u2 (u2 (u2 z 1 1 n) 1 2 a') 12 1 sz') (uf (uf f 2 b) 13 cd') C T rc tl ∧ rlR n b (ruleL n b 161 0) [] r a' sz' cd' ∧ ((r = 0 ∨ r = 1) ∧ (0 ≤ a' ∧ a' ≤ n) ∧ (0 ≤ sz' ∧ sz' ≤ 161))) (some (Value.int (iz r_1))) (cxW (u2 (u2 (u2 z 1 1 n) 1 2 a_2) 12 1 sz_3) (uf (uf f 2 b) 13 cd_4) C T rc tl)
  exact ⟨_, _, _, _, rfl, rfl, f5, f6⟩

/-! rules: clauses of the class (printed by wip/whole/gencls.py) -/
section ClL
variable {n : Int} {b : Int → Int}
theorem cndB_ok {q : RsT} {a : Int} (a0 : 0 ≤ a) (hq : a ≤ q.2.1 ∧ q.2.1 ≤ n ∧ (q.1 = true → (q.2.2.1.length : Int) + a ≤ q.2.1 ∧ a < q.2.1)) : a ≤ (cndB n b q).2.1 ∧ (cndB n b q).2.1 ≤ n ∧ ((cndB n b q).1 = true → ((cndB n b q).2.2.1.length : Int) + a ≤ (cndB n b q).2.1 ∧ a < (cndB n b q).2.1) := by
  have h1 := cmpG_ok (b := b) (sumR_ok (n := n) (b := b) 6) a0 hq
  have h2 := opL_ok (b := b) (o1 := 38) (o2 := 38) (e1 := -8) (e2 := -8) (unitR_ok (n := n) (b := b) 6) (by decide) (by decide) 161 _ a a0 h1.1 h1.2.1 h1.2.2
  exact opL_ok (b := b) (o1 := 124) (o2 := 124) (e1 := -9) (e2 := -9) (opG_ok (o1 := 38) (o2 := 38) (e1 := -8) (e2 := -8) (b := b) (unitR_ok (n := n) (b := b) 6) (by decide) (by decide)) (by decide) (by decide) 161 _ a a0 h2.1 h2.2.1 h2.2.2
theorem cndB_s {q : RsT} (h : q.1 = true) : cndB n b (q.1, sks n b q.2.1, q.2.2) = cndB n b q := by
  unfold cndB
  congr 2
  obtain ⟨q1, q2, q3⟩ := q
  cases q1 with
  | true =>
    unfold cmpG
    simp only [sks_sks]
    rfl
  | false => exact absurd h (by simp)
theorem clQ_f {q : RsT} (h : q.1 = false) : clQ n b q = rsF q.2.1 := by unfold clQ; rw [if_neg (by rw [h]; decide)]
theorem clQ_m {q : RsT} (h : q.1 = true) (hm : sg n b (sks n b q.2.1) ≠ 63) : clQ n b q = rsF (sks n b q.2.1) := by unfold clQ; rw [if_pos h, if_neg hm]
theorem clQ_w {q : RsT} (h : q.1 = true) (hm : sg n b (sks n b q.2.1) = 63) (hw : (sumR n b 6 (sks n b q.2.1 + 1)).1 = false) : clQ n b q = rsF (sumR n b 6 (sks n b q.2.1 + 1)).2.1 := by unfold clQ; rw [if_pos h, if_pos hm, if_neg (by rw [hw]; decide)]
theorem clQ_o {q : RsT} (h : q.1 = true) (hm : sg n b (sks n b q.2.1) = 63) (hw : (sumR n b 6 (sks n b q.2.1 + 1)).1 = true) : clQ n b q = (true, (sumR n b 6 (sks n b q.2.1 + 1)).2.1, q.2.2.1 ++ [-11] ++ (sumR n b 6 (sks n b q.2.1 + 1)).2.2.1 ++ [-12], (sumR n b 6 (sks n b q.2.1 + 1)).2.2.2) := by unfold clQ; rw [if_pos h, if_pos hm, if_pos hw]
end ClL
set_option maxRecDepth 100000 in
set_option maxHeartbeats 4000000 in
theorem x_sum6 : ∀ (d : Nat) (z : Nat → Nat → Int) (f : Nat → Int → Int) (C : Nat → CuR) (T : Nat → TsR) (rc : Nat → Nat) (tl : AmH)  (dp : Int) (n : Int) (a : Int) (b : Int → Int) (sz : Int) (cd : Int → Int) (hT : tOK n b) (ha : 0 ≤ a ∧ a ≤ n) (hs : 0 ≤ sz ∧ sz ≤ a) (hdp : 0 ≤ dp ∧ dp = 6 - ((6 : Nat) : Int)), Rx (d + 32) m_X6_readsSum 0 (am_ent [.ref 12, .ref 1, .int (iz dp)] 5) [] (cxW (u2 (u2 (u2 z 1 1 n) 1 2 a) 12 1 sz) (uf (uf f 2 b) 13 cd) C T rc tl) (fun rv h => ∃ r : Int, ∃ a' : Int, ∃ sz' : Int, ∃ cd' : Int → Int, rv = some (.int (iz r)) ∧ h = cxW (u2 (u2 (u2 z 1 1 n) 1 2 a') 12 1 sz') (uf (uf f 2 b) 13 cd') C T rc tl ∧ rdR n b (sumR n b 6 a) sz cd r a' sz' cd' ∧ ((r = 0 ∨ r = 1) ∧ (a ≤ a' ∧ a' ≤ n) ∧ (0 ≤ sz' ∧ sz' ≤ 161))) := by
  intro d z f C T rc tl dp n a b sz cd hT ha hs hdp
  exact (x_sumAll 6 d z f C T rc tl dp n a b sz cd hT ha hs hdp).deep (by omega)
set_option maxRecDepth 100000 in
set_option maxHeartbeats 4000000 in
theorem x_rClause (d : Nat) (z : Nat → Nat → Int) (f : Nat → Int → Int) (C : Nat → CuR) (T : Nat → TsR) (rc : Nat → Nat) (tl : AmH)  (n : Int) (a : Int) (b : Int → Int) (sz : Int) (cd : Int → Int) (hT : tOK n b) (ha : 0 ≤ a ∧ a ≤ n) (hs : 0 ≤ sz ∧ sz ≤ a) : Rx (d + 33) m_X6_readsClause 0 (am_ent [.ref 12, .ref 1] 4) [] (cxW (u2 (u2 (u2 z 1 1 n) 1 2 a) 12 1 sz) (uf (uf f 2 b) 13 cd) C T rc tl) (fun rv h => ∃ r : Int, ∃ a' : Int, ∃ sz' : Int, ∃ cd' : Int → Int, rv = some (.int (iz r)) ∧ h = cxW (u2 (u2 (u2 z 1 1 n) 1 2 a') 12 1 sz') (uf (uf f 2 b) 13 cd') C T rc tl ∧ rdR n b (clauseG n b a).1 sz cd r a' sz' cd' ∧ ((r = 0 ∨ r = 1) ∧ (a ≤ a' ∧ a' ≤ n) ∧ (0 ≤ sz' ∧ sz' ≤ 161))) := by
  obtain ⟨hT1, hT2, hT3⟩ := id hT
  refine Rx.walk 0 (pc' := 0) (L' := [some (.ref 12), some (.ref 1), none, none]) (st' := []) (h' := cxW (u2 (u2 (u2 z 1 1 n) 1 2 a) 12 1 sz) (uf (uf f 2 b) 13 cd) C T rc tl) rfl ?_
  refine Rx.walk 2 (pc' := 3) (L' := [some (.ref 12), some (.ref 1), none, none]) (st' := [.int (iz 121), .ref 1]) (h' := cxW (u2 (u2 (u2 z 1 1 n) 1 2 a) 12 1 sz) (uf (uf f 2 b) 13 cd) C T rc tl) rfl ?_
  refine Rx.callx (m' := m_X8_accepts) (as := [.ref 1, .int (iz 121)]) (rest := []) rfl (x_acc _ (u2 (u2 (u2 z 1 1 n) 1 2 a) 12 1 sz) (uf (uf f 2 b) 13 cd) C T rc tl  121 n a b hT ha (by first | assumption | omega)) (fun v5 h6 q7 => ?_)
  obtain ⟨r_1, a_2, rfl, rfl, f3, f4⟩ := q7
  refine Rx.walk 0 (pc' := 6) (L' := [some (.ref 12), some (.ref 1), none, none]) (st' := [.int (iz r_1)]) (h' := cxW (u2 (u2 (u2 z 1 1 n) 1 2 a_2) 12 1 sz) (uf (uf f 2 b) 13 cd) C T rc tl) rfl ?_
  refine Rx.eq1 rfl rfl ⟨by omega, by omega⟩ (fun b8 => ?_) (fun b8 => ?_)
  · refine Rx.walk 1 (pc' := 19) (L' := [some (.ref 12), some (.ref 1), none, none]) (st' := [.int (iz 0)]) (h' := cxW (u2 (u2 (u2 z 1 1 n) 1 2 a_2) 12 1 sz) (uf (uf f 2 b) 13 cd) C T rc tl) rfl ?_
    refine Rx.ret rfl ?_
    refine ⟨_, _, _, _, rfl, rfl, ?_, Or.inl rfl, by omega, by omega⟩
    obtain ⟨-, y1, y2⟩ : r_1 = 0 ∧ sg n b (sks n b a) ≠ 121 ∧ a_2 = sks n b a := by rcases f3 with z | z; (exfalso; omega); exact z
    rw [show (clauseG n b a).1 = rsF (sks n b a) from by unfold clauseG; rw [if_neg y1]]
    exact Or.inr ⟨rfl, y2, by omega, Or.inl rfl⟩
  · refine Rx.walk 2 (pc' := 12) (L' := [some (.ref 12), some (.ref 1), none, none]) (st' := [.int (iz 58), .ref 1]) (h' := cxW (u2 (u2 (u2 z 1 1 n) 1 2 a_2) 12 1 sz) (uf (uf f 2 b) 13 cd) C T rc tl) rfl ?_
    refine Rx.callx (m' := m_X8_accepts) (as := [.ref 1, .int (iz 58)]) (rest := []) rfl (x_acc _ (u2 (u2 (u2 z 1 1 n) 1 2 a_2) 12 1 sz) (uf (uf f 2 b) 13 cd) C T rc tl  58 n a_2 b hT ⟨by omega, by omega⟩ (by first | assumption | omega)) (fun v13 h14 q15 => ?_)
    obtain ⟨r_9, a_10, rfl, rfl, f11, f12⟩ := q15
    refine Rx.walk 0 (pc' := 15) (L' := [some (.ref 12), some (.ref 1), none, none]) (st' := [.int (iz r_9)]) (h' := cxW (u2 (u2 (u2 z 1 1 n) 1 2 a_10) 12 1 sz) (uf (uf f 2 b) 13 cd) C T rc tl) rfl ?_
    refine Rx.ne1 rfl rfl ⟨by omega, by omega⟩ (fun b16 => ?_) (fun b16 => ?_)
    · refine Rx.walk 1 (pc' := 21) (L' := [some (.ref 12), some (.ref 1), none, none]) (st' := [.ref 1]) (h' := cxW (u2 (u2 (u2 z 1 1 n) 1 2 a_10) 12 1 sz) (uf (uf f 2 b) 13 cd) C T rc tl) rfl ?_
      refine Rx.callx (m' := m_X8_sign) (as := [.ref 1]) (rest := []) rfl (x_sgn _ (u2 (u2 (u2 z 1 1 n) 1 2 a_10) 12 1 sz) (uf (uf f 2 b) 13 cd) C T rc tl  n a_10 b hT ⟨by omega, by omega⟩) (fun v23 h24 q25 => ?_)
      obtain ⟨r_17, a_18, rfl, rfl, f19, f20, f21, f22⟩ := q25
      refine Rx.walk 0 (pc' := 24) (L' := [some (.ref 12), some (.ref 1), none, none]) (st' := [.int (iz r_17)]) (h' := cxW (u2 (u2 (u2 z 1 1 n) 1 2 a_18) 12 1 sz) (uf (uf f 2 b) 13 cd) C T rc tl) rfl ?_
      refine Rx.walk 3 (pc' := 28) (L' := [some (.ref 12), some (.ref 1), some (.int (iz r_17)), none]) (st' := [.int (iz 33), .int (iz r_17)]) (h' := cxW (u2 (u2 (u2 z 1 1 n) 1 2 a_18) 12 1 sz) (uf (uf f 2 b) 13 cd) C T rc tl) rfl ?_
      refine Rx.eq2 rfl rfl ⟨by omega, by omega⟩ ⟨by omega, by omega⟩ (fun b26 => ?_) (fun b26 => ?_)
      · refine Rx.walk 3 (pc' := 44) (L' := [some (.ref 12), some (.ref 1), some (.int (iz r_17)), some (.int (iz 0))]) (st' := [.int (iz 0)]) (h' := cxW (u2 (u2 (u2 z 1 1 n) 1 2 a_18) 12 1 sz) (uf (uf f 2 b) 13 cd) C T rc tl) rfl ?_
        refine Rx.eq1 rfl rfl ⟨by omega, by omega⟩ (fun b27 => ?_) (fun b27 => by omega)
        refine Rx.walk 4 (pc' := 80) (L' := [some (.ref 12), some (.ref 1), some (.int (iz r_17)), some (.int (iz 0))]) (st' := [.int (iz 0), .int (iz 0), .ref 1, .ref 12]) (h' := cxW (u2 (u2 (u2 z 1 1 n) 1 2 a_18) 12 1 sz) (uf (uf f 2 b) 13 cd) C T rc tl) rfl ?_
        refine Rx.callx (m' := m_X6_readsCondition) (as := [.ref 12, .ref 1, .int (iz 0), .int (iz 0)]) (rest := []) rfl (x_cond6 _ (u2 (u2 (u2 z 1 1 n) 1 2 a_18) 12 1 sz) (uf (uf f 2 b) 13 cd) C T rc tl  0 n a_18 b sz cd hT ⟨by omega, by omega⟩ ⟨by omega, by omega⟩ (by omega)) (fun v34 h35 q36 => ?_)
        obtain ⟨r_28, a_29, sz_30, cd_31, rfl, rfl, f32, f33⟩ := q36
        refine Rx.walk 0 (pc' := 83) (L' := [some (.ref 12), some (.ref 1), some (.int (iz r_17)), some (.int (iz 0))]) (st' := [.int (iz r_28)]) (h' := cxW (u2 (u2 (u2 z 1 1 n) 1 2 a_29) 12 1 sz_30) (uf (uf f 2 b) 13 cd_31) C T rc tl) rfl ?_
        obtain ⟨hq36, hr36, hu36⟩ := id f33
        refine Rx.eq1 rfl rfl ⟨by omega, by omega⟩ (fun b37 => ?_) (fun b37 => ?_)
        · refine Rx.walk 1 (pc' := 96) (L' := [some (.ref 12), some (.ref 1), some (.int (iz r_17)), some (.int (iz 0))]) (st' := [.int (iz 0)]) (h' := cxW (u2 (u2 (u2 z 1 1 n) 1 2 a_29) 12 1 sz_30) (uf (uf f 2 b) 13 cd_31) C T rc tl) rfl ?_
          refine Rx.ret rfl ?_
          refine ⟨_, _, _, _, rfl, rfl, ?_, Or.inl rfl, by omega, by omega⟩
          obtain ⟨-, y1, y2⟩ : r_1 = 1 ∧ sg n b (sks n b a) = 121 ∧ a_2 = sks n b a + 1 := by rcases f3 with z | z; exact z; (exfalso; omega)
          obtain ⟨-, x1, x2⟩ : r_9 = 1 ∧ sg n b (sks n b a_2) = 58 ∧ a_10 = sks n b a_2 + 1 := by rcases f11 with z | z; exact z; (exfalso; omega)
          have eK : clauseG n b a = clU n b a_10 := by unfold clauseG; rw [if_pos y1, ← y2, if_pos x1, ← x2]
          have eu : sg n b (sks n b a_10) = r_17 := by rw [← f19]; exact f20.symm
          have eC : (clauseG n b a).1 = clQ n b (condG n b (unitR n b 6) a_18) := by rw [eK]; unfold clU; rw [if_pos (by omega), ← f19]
          have hqq : rdR n b (condG n b (unitR n b 6) a_18) sz cd r_28 a_29 sz_30 cd_31 := f32
          have hqk := condG_ok (b := b) (unitR_ok (n := n) (b := b) 6) a_18 (by omega) (by omega)
          rcases hqq with z | ⟨q1, q2, q3, q4⟩
          · exfalso; have := z.2.1; omega
          · rw [eC, clQ_f q1]
            exact Or.inr ⟨rfl, q2, q3, Or.inl rfl⟩
        · refine Rx.walk 2 (pc' := 89) (L' := [some (.ref 12), some (.ref 1), some (.int (iz r_17)), some (.int (iz 0))]) (st' := [.int (iz 63), .ref 1]) (h' := cxW (u2 (u2 (u2 z 1 1 n) 1 2 a_29) 12 1 sz_30) (uf (uf f 2 b) 13 cd_31) C T rc tl) rfl ?_
          refine Rx.callx (m' := m_X8_accepts) (as := [.ref 1, .int (iz 63)]) (rest := []) rfl (x_acc _ (u2 (u2 (u2 z 1 1 n) 1 2 a_29) 12 1 sz_30) (uf (uf f 2 b) 13 cd_31) C T rc tl  63 n a_29 b hT ⟨by omega, by omega⟩ (by first | assumption | omega)) (fun v42 h43 q44 => ?_)
          obtain ⟨r_38, a_39, rfl, rfl, f40, f41⟩ := q44
          refine Rx.walk 0 (pc' := 92) (L' := [some (.ref 12), some (.ref 1), some (.int (iz r_17)), some (.int (iz 0))]) (st' := [.int (iz r_38)]) (h' := cxW (u2 (u2 (u2 z 1 1 n) 1 2 a_39) 12 1 sz_30) (uf (uf f 2 b) 13 cd_31) C T rc tl) rfl ?_
          refine Rx.ne1 rfl rfl ⟨by omega, by omega⟩ (fun b45 => ?_) (fun b45 => ?_)
          · have hqq0 : rdR n b (condG n b (unitR n b 6) a_18) sz cd r_28 a_29 sz_30 cd_31 := by have z : rdR n b (condG n b (unitR n b 6) a_18) sz cd r_28 a_29 sz_30 cd_31 := f32; exact z
            have hqk0 := condG_ok (b := b) (unitR_ok (n := n) (b := b) 6) a_18 (by omega) (by omega)
            have hszb : sz_30 ≤ a_29 := by
              rcases hqq0 with ⟨q1, q2, q3, q4, q5⟩ | ⟨q1, q2, q3, q4⟩
              · have := hqk0.2.2 q1; omega
              · exfalso
                have hdg := q4.elim (fun z => absurd z (by omega)) (fun z => z.2)
                have hdx := isD_sg.mp hdg
                have hsk : sks n b a_29 = a_29 := sks_at (by have := (isD_t.mp hdg); omega)
                rcases f40 with z | z
                · rw [hsk] at z; omega
                · omega
            have hskl := sks_le n b a_29
            have hA3 : a_39 = sks n b a_29 + 1 := by rcases f40 with z | z; exact z.2.2; (exfalso; omega)
            refine Rx.walk 2 (pc' := 100) (L' := [some (.ref 12), some (.ref 1), some (.int (iz r_17)), some (.int (iz 0))]) (st' := [.int (iz (-11)), .ref 12]) (h' := cxW (u2 (u2 (u2 z 1 1 n) 1 2 a_39) 12 1 sz_30) (uf (uf f 2 b) 13 cd_31) C T rc tl) rfl ?_
            refine Rx.callx (m' := m_X6_emit) (as := [.ref 12, .int (iz (-11))]) (rest := []) rfl (x_emit _ (u2 (u2 (u2 z 1 1 n) 1 2 a_39) 12 1 sz_30) (uf (uf f 2 b) 13 cd_31) C T rc tl  (-11) sz_30 cd_31 (by first | assumption | omega)) (fun v49 h50 q51 => ?_)
            obtain ⟨sz_46, cd_47, rfl, rfl, f48⟩ := q51
            refine Rx.walk 0 (pc' := 103) (L' := [some (.ref 12), some (.ref 1), some (.int (iz r_17)), some (.int (iz 0))]) (st' := []) (h' := cxW (u2 (u2 (u2 z 1 1 n) 1 2 a_39) 12 1 sz_46) (uf (uf f 2 b) 13 cd_47) C T rc tl) rfl ?_
            have heb : 0 ≤ sz_46 ∧ sz_46 ≤ 161 := by rcases f48 with z | z <;> omega
            refine Rx.walk 3 (pc' := 106) (L' := [some (.ref 12), some (.ref 1), some (.int (iz r_17)), some (.int (iz 0))]) (st' := [.int (iz 0), .ref 1, .ref 12]) (h' := cxW (u2 (u2 (u2 z 1 1 n) 1 2 a_39) 12 1 sz_46) (uf (uf f 2 b) 13 cd_47) C T rc tl) rfl ?_
            refine Rx.callx (m' := m_X6_readsSum) (as := [.ref 12, .ref 1, .int (iz 0)]) (rest := []) rfl (x_sum6 _ (u2 (u2 (u2 z 1 1 n) 1 2 a_39) 12 1 sz_46) (uf (uf f 2 b) 13 cd_47) C T rc tl  0 n a_39 b sz_46 cd_47 hT ⟨by omega, by omega⟩ ⟨by omega, by omega⟩ (by omega)) (fun v58 h59 q60 => ?_)
            obtain ⟨r_52, a_53, sz_54, cd_55, rfl, rfl, f56, f57⟩ := q60
            refine Rx.walk 0 (pc' := 109) (L' := [some (.ref 12), some (.ref 1), some (.int (iz r_17)), some (.int (iz 0))]) (st' := [.int (iz r_52)]) (h' := cxW (u2 (u2 (u2 z 1 1 n) 1 2 a_53) 12 1 sz_54) (uf (uf f 2 b) 13 cd_55) C T rc tl) rfl ?_
            obtain ⟨hq60, hr60, hu60⟩ := id f57
            refine Rx.ne1 rfl rfl ⟨by omega, by omega⟩ (fun b61 => ?_) (fun b61 => ?_)
            · refine Rx.walk 2 (pc' := 117) (L' := [some (.ref 12), some (.ref 1), some (.int (iz r_17)), some (.int (iz 0))]) (st' := [.int (iz (-12)), .ref 12]) (h' := cxW (u2 (u2 (u2 z 1 1 n) 1 2 a_53) 12 1 sz_54) (uf (uf f 2 b) 13 cd_55) C T rc tl) rfl ?_
              refine Rx.callx (m' := m_X6_emit) (as := [.ref 12, .int (iz (-12))]) (rest := []) rfl (x_emit _ (u2 (u2 (u2 z 1 1 n) 1 2 a_53) 12 1 sz_54) (uf (uf f 2 b) 13 cd_55) C T rc tl  (-12) sz_54 cd_55 (by first | assumption | omega)) (fun v65 h66 q67 => ?_)
              obtain ⟨sz_62, cd_63, rfl, rfl, f64⟩ := q67
              refine Rx.walk 0 (pc' := 120) (L' := [some (.ref 12), some (.ref 1), some (.int (iz r_17)), some (.int (iz 0))]) (st' := []) (h' := cxW (u2 (u2 (u2 z 1 1 n) 1 2 a_53) 12 1 sz_62) (uf (uf f 2 b) 13 cd_63) C T rc tl) rfl ?_
              have heb : 0 ≤ sz_62 ∧ sz_62 ≤ 161 := by rcases f64 with z | z <;> omega
              refine Rx.walk 1 (pc' := 121) (L' := [some (.ref 12), some (.ref 1), some (.int (iz r_17)), some (.int (iz 0))]) (st' := [.int (iz 1)]) (h' := cxW (u2 (u2 (u2 z 1 1 n) 1 2 a_53) 12 1 sz_62) (uf (uf f 2 b) 13 cd_63) C T rc tl) rfl ?_
              refine Rx.ret rfl ?_
              refine ⟨_, _, _, _, rfl, rfl, ?_, Or.inr rfl, by omega, by omega⟩
              obtain ⟨-, y1, y2⟩ : r_1 = 1 ∧ sg n b (sks n b a) = 121 ∧ a_2 = sks n b a + 1 := by rcases f3 with z | z; exact z; (exfalso; omega)
              obtain ⟨-, x1, x2⟩ : r_9 = 1 ∧ sg n b (sks n b a_2) = 58 ∧ a_10 = sks n b a_2 + 1 := by rcases f11 with z | z; exact z; (exfalso; omega)
              have eK : clauseG n b a = clU n b a_10 := by unfold clauseG; rw [if_pos y1, ← y2, if_pos x1, ← x2]
              have eu : sg n b (sks n b a_10) = r_17 := by rw [← f19]; exact f20.symm
              have eC : (clauseG n b a).1 = clQ n b (condG n b (unitR n b 6) a_18) := by rw [eK]; unfold clU; rw [if_pos (by omega), ← f19]
              have hqq : rdR n b (condG n b (unitR n b 6) a_18) sz cd r_28 a_29 sz_30 cd_31 := f32
              have hqk := condG_ok (b := b) (unitR_ok (n := n) (b := b) 6) a_18 (by omega) (by omega)
              obtain ⟨-, w1, w2⟩ : r_38 = 1 ∧ sg n b (sks n b a_29) = 63 ∧ a_39 = sks n b a_29 + 1 := by rcases f40 with z | z; exact z; (exfalso; omega)
              obtain ⟨q1, q3, q4, q5⟩ : (condG n b (unitR n b 6) a_18).1 = true ∧ a_29 = (condG n b (unitR n b 6) a_18).2.1 ∧ sz_30 = sz + (condG n b (unitR n b 6) a_18).2.2.1.length ∧ lsI (sz_30).toNat cd_31 = lsI sz.toNat cd ++ (condG n b (unitR n b 6) a_18).2.2.1 := by
                rcases hqq with ⟨q1, q2, q3, q4, q5⟩ | ⟨q1, q2, q3, q4⟩
                · exact ⟨q1, q3, q4, q5⟩
                · exfalso
                  have hdg := q4.elim (fun z => absurd z (by omega)) (fun z => z.2)
                  have hdx := isD_sg.mp hdg
                  have hsk : sks n b a_29 = a_29 := sks_at (by have := (isD_t.mp hdg); omega)
                  rw [hsk] at w1; omega
              have ew : sumR n b 6 (sks n b (condG n b (unitR n b 6) a_18).2.1 + 1) = (sumR n b 6 a_39) := by rw [← q3, ← w2]
              have hm : sg n b (sks n b (condG n b (unitR n b 6) a_18).2.1) = 63 := by rw [← q3]; exact w1
              have hqw := sumR_ok (n := n) (b := b) 6 a_39 (by omega) (by omega)
              have hql := hqk.2.2 q1
              rcases f56 with ⟨z1, -, z3, z4, z5⟩ | ⟨z1, z2, z3, z4⟩
              · have hwl := hqw.2.2 z1
                rw [eC, clQ_o q1 hm (by rw [ew]; exact z1), ew]
                rcases f48 with ⟨l1, l2, l3⟩ | ⟨l1, l2⟩
                · rcases f64 with ⟨m1, m2, m3⟩ | ⟨m1, m2⟩
                  · refine Or.inl ⟨rfl, rfl, z3, ?_, ?_⟩
                    · show _ = sz + (((condG n b (unitR n b 6) a_18).2.2.1 ++ [-11] ++ (sumR n b 6 a_39).2.2.1 ++ [-12]).length : Int); rw [List.length_append, List.length_append, List.length_append]; show _ = sz + (((condG n b (unitR n b 6) a_18).2.2.1.length + 1 + (sumR n b 6 a_39).2.2.1.length + 1 : Nat) : Int); omega
                    · show _ = _ ++ ((condG n b (unitR n b 6) a_18).2.2.1 ++ [-11] ++ (sumR n b 6 a_39).2.2.1 ++ [-12]); rw [m3, z5, l3, q5]; simp only [List.append_assoc]
                  · exfalso; omega
                · exfalso; omega
              · rw [eC, clQ_w q1 hm (by rw [ew]; exact z1), ew]
                exact Or.inr ⟨rfl, z2, by omega, z4.elim (fun z => absurd z (by omega)) (fun z => Or.inr ⟨rfl, z.2⟩)⟩
            · refine Rx.walk 1 (pc' := 113) (L' := [some (.ref 12), some (.ref 1), some (.int (iz r_17)), some (.int (iz 0))]) (st' := [.int (iz 0)]) (h' := cxW (u2 (u2 (u2 z 1 1 n) 1 2 a_53) 12 1 sz_54) (uf (uf f 2 b) 13 cd_55) C T rc tl) rfl ?_
              refine Rx.ret rfl ?_
              refine ⟨_, _, _, _, rfl, rfl, ?_, Or.inl rfl, by omega, by omega⟩
              obtain ⟨-, y1, y2⟩ : r_1 = 1 ∧ sg n b (sks n b a) = 121 ∧ a_2 = sks n b a + 1 := by rcases f3 with z | z; exact z; (exfalso; omega)
              obtain ⟨-, x1, x2⟩ : r_9 = 1 ∧ sg n b (sks n b a_2) = 58 ∧ a_10 = sks n b a_2 + 1 := by rcases f11 with z | z; exact z; (exfalso; omega)
              have eK : clauseG n b a = clU n b a_10 := by unfold clauseG; rw [if_pos y1, ← y2, if_pos x1, ← x2]
              have eu : sg n b (sks n b a_10) = r_17 := by rw [← f19]; exact f20.symm
              have eC : (clauseG n b a).1 = clQ n b (condG n b (unitR n b 6) a_18) := by rw [eK]; unfold clU; rw [if_pos (by omega), ← f19]
              have hqq : rdR n b (condG n b (unitR n b 6) a_18) sz cd r_28 a_29 sz_30 cd_31 := f32
              have hqk := condG_ok (b := b) (unitR_ok (n := n) (b := b) 6) a_18 (by omega) (by omega)
              obtain ⟨-, w1, w2⟩ : r_38 = 1 ∧ sg n b (sks n b a_29) = 63 ∧ a_39 = sks n b a_29 + 1 := by rcases f40 with z | z; exact z; (exfalso; omega)
              obtain ⟨q1, q3, q4, q5⟩ : (condG n b (unitR n b 6) a_18).1 = true ∧ a_29 = (condG n b (unitR n b 6) a_18).2.1 ∧ sz_30 = sz + (condG n b (unitR n b 6) a_18).2.2.1.length ∧ lsI (sz_30).toNat cd_31 = lsI sz.toNat cd ++ (condG n b (unitR n b 6) a_18).2.2.1 := by
                rcases hqq with ⟨q1, q2, q3, q4, q5⟩ | ⟨q1, q2, q3, q4⟩
                · exact ⟨q1, q3, q4, q5⟩
                · exfalso
                  have hdg := q4.elim (fun z => absurd z (by omega)) (fun z => z.2)
                  have hdx := isD_sg.mp hdg
                  have hsk : sks n b a_29 = a_29 := sks_at (by have := (isD_t.mp hdg); omega)
                  rw [hsk] at w1; omega
              have ew : sumR n b 6 (sks n b (condG n b (unitR n b 6) a_18).2.1 + 1) = (sumR n b 6 a_39) := by rw [← q3, ← w2]
              have hm : sg n b (sks n b (condG n b (unitR n b 6) a_18).2.1) = 63 := by rw [← q3]; exact w1
              have hqw := sumR_ok (n := n) (b := b) 6 a_39 (by omega) (by omega)
              have hql := hqk.2.2 q1
              rcases f56 with z | ⟨z1, z2, z3, z4⟩
              · exfalso; have := z.2.1; omega
              · rw [eC, clQ_w q1 hm (by rw [ew]; exact z1), ew]
                exact Or.inr ⟨rfl, z2, z3, Or.inl rfl⟩
          · refine Rx.walk 1 (pc' := 96) (L' := [some (.ref 12), some (.ref 1), some (.int (iz r_17)), some (.int (iz 0))]) (st' := [.int (iz 0)]) (h' := cxW (u2 (u2 (u2 z 1 1 n) 1 2 a_39) 12 1 sz_30) (uf (uf f 2 b) 13 cd_31) C T rc tl) rfl ?_
            refine Rx.ret rfl ?_
            refine ⟨_, _, _, _, rfl, rfl, ?_, Or.inl rfl, by omega, by omega⟩
            obtain ⟨-, y1, y2⟩ : r_1 = 1 ∧ sg n b (sks n b a) = 121 ∧ a_2 = sks n b a + 1 := by rcases f3 with z | z; exact z; (exfalso; omega)
            obtain ⟨-, x1, x2⟩ : r_9 = 1 ∧ sg n b (sks n b a_2) = 58 ∧ a_10 = sks n b a_2 + 1 := by rcases f11 with z | z; exact z; (exfalso; omega)
            have eK : clauseG n b a = clU n b a_10 := by unfold clauseG; rw [if_pos y1, ← y2, if_pos x1, ← x2]
            have eu : sg n b (sks n b a_10) = r_17 := by rw [← f19]; exact f20.symm
            have eC : (clauseG n b a).1 = clQ n b (condG n b (unitR n b 6) a_18) := by rw [eK]; unfold clU; rw [if_pos (by omega), ← f19]
            have hqq : rdR n b (condG n b (unitR n b 6) a_18) sz cd r_28 a_29 sz_30 cd_31 := f32
            have hqk := condG_ok (b := b) (unitR_ok (n := n) (b := b) 6) a_18 (by omega) (by omega)
            obtain ⟨-, w1, w2⟩ : r_38 = 0 ∧ sg n b (sks n b a_29) ≠ 63 ∧ a_39 = sks n b a_29 := by rcases f40 with z | z; (exfalso; omega); exact z
            rcases hqq with ⟨q1, q2, q3, q4, q5⟩ | ⟨q1, q2, q3, q4⟩
            · rw [eC, clQ_m q1 (by rw [← q3]; exact w1)]
              exact Or.inr ⟨rfl, by rw [w2, q3]; rfl, by omega, Or.inl rfl⟩
            · rw [eC, clQ_f q1]
              have hdg := q4.elim (fun z => absurd z (by omega)) (fun z => z.2)
              have hdx := isD_sg.mp hdg
              have hsk : sks n b a_29 = a_29 := sks_at (by have := (isD_t.mp hdg); omega)
              exact Or.inr ⟨rfl, by rw [w2, hsk]; exact q2, by omega, Or.inl rfl⟩
      · refine Rx.walk 2 (pc' := 34) (L' := [some (.ref 12), some (.ref 1), some (.int (iz r_17)), none]) (st' := [.int (iz 40), .int (iz r_17)]) (h' := cxW (u2 (u2 (u2 z 1 1 n) 1 2 a_18) 12 1 sz) (uf (uf f 2 b) 13 cd) C T rc tl) rfl ?_
        refine Rx.eq2 rfl rfl ⟨by omega, by omega⟩ ⟨by omega, by omega⟩ (fun b68 => ?_) (fun b68 => ?_)
        · refine Rx.walk 3 (pc' := 44) (L' := [some (.ref 12), some (.ref 1), some (.int (iz r_17)), some (.int (iz 0))]) (st' := [.int (iz 0)]) (h' := cxW (u2 (u2 (u2 z 1 1 n) 1 2 a_18) 12 1 sz) (uf (uf f 2 b) 13 cd) C T rc tl) rfl ?_
          refine Rx.eq1 rfl rfl ⟨by omega, by omega⟩ (fun b69 => ?_) (fun b69 => by omega)
          refine Rx.walk 4 (pc' := 80) (L' := [some (.ref 12), some (.ref 1), some (.int (iz r_17)), some (.int (iz 0))]) (st' := [.int (iz 0), .int (iz 0), .ref 1, .ref 12]) (h' := cxW (u2 (u2 (u2 z 1 1 n) 1 2 a_18) 12 1 sz) (uf (uf f 2 b) 13 cd) C T rc tl) rfl ?_
          refine Rx.callx (m' := m_X6_readsCondition) (as := [.ref 12, .ref 1, .int (iz 0), .int (iz 0)]) (rest := []) rfl (x_cond6 _ (u2 (u2 (u2 z 1 1 n) 1 2 a_18) 12 1 sz) (uf (uf f 2 b) 13 cd) C T rc tl  0 n a_18 b sz cd hT ⟨by omega, by omega⟩ ⟨by omega, by omega⟩ (by omega)) (fun v76 h77 q78 => ?_)
          obtain ⟨r_70, a_71, sz_72, cd_73, rfl, rfl, f74, f75⟩ := q78
          refine Rx.walk 0 (pc' := 83) (L' := [some (.ref 12), some (.ref 1), some (.int (iz r_17)), some (.int (iz 0))]) (st' := [.int (iz r_70)]) (h' := cxW (u2 (u2 (u2 z 1 1 n) 1 2 a_71) 12 1 sz_72) (uf (uf f 2 b) 13 cd_73) C T rc tl) rfl ?_
          obtain ⟨hq78, hr78, hu78⟩ := id f75
          refine Rx.eq1 rfl rfl ⟨by omega, by omega⟩ (fun b79 => ?_) (fun b79 => ?_)
          · refine Rx.walk 1 (pc' := 96) (L' := [some (.ref 12), some (.ref 1), some (.int (iz r_17)), some (.int (iz 0))]) (st' := [.int (iz 0)]) (h' := cxW (u2 (u2 (u2 z 1 1 n) 1 2 a_71) 12 1 sz_72) (uf (uf f 2 b) 13 cd_73) C T rc tl) rfl ?_
            refine Rx.ret rfl ?_
            refine ⟨_, _, _, _, rfl, rfl, ?_, Or.inl rfl, by omega, by omega⟩
            obtain ⟨-, y1, y2⟩ : r_1 = 1 ∧ sg n b (sks n b a) = 121 ∧ a_2 = sks n b a + 1 := by rcases f3 with z | z; exact z; (exfalso; omega)
            obtain ⟨-, x1, x2⟩ : r_9 = 1 ∧ sg n b (sks n b a_2) = 58 ∧ a_10 = sks n b a_2 + 1 := by rcases f11 with z | z; exact z; (exfalso; omega)
            have eK : clauseG n b a = clU n b a_10 := by unfold clauseG; rw [if_pos y1, ← y2, if_pos x1, ← x2]
            have eu : sg n b (sks n b a_10) = r_17 := by rw [← f19]; exact f20.symm
            have eC : (clauseG n b a).1 = clQ n b (condG n b (unitR n b 6) a_18) := by rw [eK]; unfold clU; rw [if_pos (by omega), ← f19]
            have hqq : rdR n b (condG n b (unitR n b 6) a_18) sz cd r_70 a_71 sz_72 cd_73 := f74
            have hqk := condG_ok (b := b) (unitR_ok (n := n) (b := b) 6) a_18 (by omega) (by omega)
            rcases hqq with z | ⟨q1, q2, q3, q4⟩
            · exfalso; have := z.2.1; omega
            · rw [eC, clQ_f q1]
              exact Or.inr ⟨rfl, q2, q3, Or.inl rfl⟩
          · refine Rx.walk 2 (pc' := 89) (L' := [some (.ref 12), some (.ref 1), some (.int (iz r_17)), some (.int (iz 0))]) (st' := [.int (iz 63), .ref 1]) (h' := cxW (u2 (u2 (u2 z 1 1 n) 1 2 a_71) 12 1 sz_72) (uf (uf f 2 b) 13 cd_73) C T rc tl) rfl ?_
            refine Rx.callx (m' := m_X8_accepts) (as := [.ref 1, .int (iz 63)]) (rest := []) rfl (x_acc _ (u2 (u2 (u2 z 1 1 n) 1 2 a_71) 12 1 sz_72) (uf (uf f 2 b) 13 cd_73) C T rc tl  63 n a_71 b hT ⟨by omega, by omega⟩ (by first | assumption | omega)) (fun v84 h85 q86 => ?_)
            obtain ⟨r_80, a_81, rfl, rfl, f82, f83⟩ := q86
            refine Rx.walk 0 (pc' := 92) (L' := [some (.ref 12), some (.ref 1), some (.int (iz r_17)), some (.int (iz 0))]) (st' := [.int (iz r_80)]) (h' := cxW (u2 (u2 (u2 z 1 1 n) 1 2 a_81) 12 1 sz_72) (uf (uf f 2 b) 13 cd_73) C T rc tl) rfl ?_
            refine Rx.ne1 rfl rfl ⟨by omega, by omega⟩ (fun b87 => ?_) (fun b87 => ?_)
            · have hqq0 : rdR n b (condG n b (unitR n b 6) a_18) sz cd r_70 a_71 sz_72 cd_73 := by have z : rdR n b (condG n b (unitR n b 6) a_18) sz cd r_70 a_71 sz_72 cd_73 := f74; exact z
              have hqk0 := condG_ok (b := b) (unitR_ok (n := n) (b := b) 6) a_18 (by omega) (by omega)
              have hszb : sz_72 ≤ a_71 := by
                rcases hqq0 with ⟨q1, q2, q3, q4, q5⟩ | ⟨q1, q2, q3, q4⟩
                · have := hqk0.2.2 q1; omega
                · exfalso
                  have hdg := q4.elim (fun z => absurd z (by omega)) (fun z => z.2)
                  have hdx := isD_sg.mp hdg
                  have hsk : sks n b a_71 = a_71 := sks_at (by have := (isD_t.mp hdg); omega)
                  rcases f82 with z | z
                  · rw [hsk] at z; omega
                  · omega
              have hskl := sks_le n b a_71
              have hA3 : a_81 = sks n b a_71 + 1 := by rcases f82 with z | z; exact z.2.2; (exfalso; omega)
              refine Rx.walk 2 (pc' := 100) (L' := [some (.ref 12), some (.ref 1), some (.int (iz r_17)), some (.int (iz 0))]) (st' := [.int (iz (-11)), .ref 12]) (h' := cxW (u2 (u2 (u2 z 1 1 n) 1 2 a_81) 12 1 sz_72) (uf (uf f 2 b) 13 cd_73) C T rc tl) rfl ?_
              refine Rx.callx (m' := m_X6_emit) (as := [.ref 12, .int (iz (-11))]) (rest := []) rfl (x_emit _ (u2 (u2 (u2 z 1 1 n) 1 2 a_81) 12 1 sz_72) (uf (uf f 2 b) 13 cd_73) C T rc tl  (-11) sz_72 cd_73 (by first | assumption | omega)) (fun v91 h92 q93 => ?_)
              obtain ⟨sz_88, cd_89, rfl, rfl, f90⟩ := q93
              refine Rx.walk 0 (pc' := 103) (L' := [some (.ref 12), some (.ref 1), some (.int (iz r_17)), some (.int (iz 0))]) (st' := []) (h' := cxW (u2 (u2 (u2 z 1 1 n) 1 2 a_81) 12 1 sz_88) (uf (uf f 2 b) 13 cd_89) C T rc tl) rfl ?_
              have heb : 0 ≤ sz_88 ∧ sz_88 ≤ 161 := by rcases f90 with z | z <;> omega
              refine Rx.walk 3 (pc' := 106) (L' := [some (.ref 12), some (.ref 1), some (.int (iz r_17)), some (.int (iz 0))]) (st' := [.int (iz 0), .ref 1, .ref 12]) (h' := cxW (u2 (u2 (u2 z 1 1 n) 1 2 a_81) 12 1 sz_88) (uf (uf f 2 b) 13 cd_89) C T rc tl) rfl ?_
              refine Rx.callx (m' := m_X6_readsSum) (as := [.ref 12, .ref 1, .int (iz 0)]) (rest := []) rfl (x_sum6 _ (u2 (u2 (u2 z 1 1 n) 1 2 a_81) 12 1 sz_88) (uf (uf f 2 b) 13 cd_89) C T rc tl  0 n a_81 b sz_88 cd_89 hT ⟨by omega, by omega⟩ ⟨by omega, by omega⟩ (by omega)) (fun v100 h101 q102 => ?_)
              obtain ⟨r_94, a_95, sz_96, cd_97, rfl, rfl, f98, f99⟩ := q102
              refine Rx.walk 0 (pc' := 109) (L' := [some (.ref 12), some (.ref 1), some (.int (iz r_17)), some (.int (iz 0))]) (st' := [.int (iz r_94)]) (h' := cxW (u2 (u2 (u2 z 1 1 n) 1 2 a_95) 12 1 sz_96) (uf (uf f 2 b) 13 cd_97) C T rc tl) rfl ?_
              obtain ⟨hq102, hr102, hu102⟩ := id f99
              refine Rx.ne1 rfl rfl ⟨by omega, by omega⟩ (fun b103 => ?_) (fun b103 => ?_)
              · refine Rx.walk 2 (pc' := 117) (L' := [some (.ref 12), some (.ref 1), some (.int (iz r_17)), some (.int (iz 0))]) (st' := [.int (iz (-12)), .ref 12]) (h' := cxW (u2 (u2 (u2 z 1 1 n) 1 2 a_95) 12 1 sz_96) (uf (uf f 2 b) 13 cd_97) C T rc tl) rfl ?_
                refine Rx.callx (m' := m_X6_emit) (as := [.ref 12, .int (iz (-12))]) (rest := []) rfl (x_emit _ (u2 (u2 (u2 z 1 1 n) 1 2 a_95) 12 1 sz_96) (uf (uf f 2 b) 13 cd_97) C T rc tl  (-12) sz_96 cd_97 (by first | assumption | omega)) (fun v107 h108 q109 => ?_)
                obtain ⟨sz_104, cd_105, rfl, rfl, f106⟩ := q109
                refine Rx.walk 0 (pc' := 120) (L' := [some (.ref 12), some (.ref 1), some (.int (iz r_17)), some (.int (iz 0))]) (st' := []) (h' := cxW (u2 (u2 (u2 z 1 1 n) 1 2 a_95) 12 1 sz_104) (uf (uf f 2 b) 13 cd_105) C T rc tl) rfl ?_
                have heb : 0 ≤ sz_104 ∧ sz_104 ≤ 161 := by rcases f106 with z | z <;> omega
                refine Rx.walk 1 (pc' := 121) (L' := [some (.ref 12), some (.ref 1), some (.int (iz r_17)), some (.int (iz 0))]) (st' := [.int (iz 1)]) (h' := cxW (u2 (u2 (u2 z 1 1 n) 1 2 a_95) 12 1 sz_104) (uf (uf f 2 b) 13 cd_105) C T rc tl) rfl ?_
                refine Rx.ret rfl ?_
                refine ⟨_, _, _, _, rfl, rfl, ?_, Or.inr rfl, by omega, by omega⟩
                obtain ⟨-, y1, y2⟩ : r_1 = 1 ∧ sg n b (sks n b a) = 121 ∧ a_2 = sks n b a + 1 := by rcases f3 with z | z; exact z; (exfalso; omega)
                obtain ⟨-, x1, x2⟩ : r_9 = 1 ∧ sg n b (sks n b a_2) = 58 ∧ a_10 = sks n b a_2 + 1 := by rcases f11 with z | z; exact z; (exfalso; omega)
                have eK : clauseG n b a = clU n b a_10 := by unfold clauseG; rw [if_pos y1, ← y2, if_pos x1, ← x2]
                have eu : sg n b (sks n b a_10) = r_17 := by rw [← f19]; exact f20.symm
                have eC : (clauseG n b a).1 = clQ n b (condG n b (unitR n b 6) a_18) := by rw [eK]; unfold clU; rw [if_pos (by omega), ← f19]
                have hqq : rdR n b (condG n b (unitR n b 6) a_18) sz cd r_70 a_71 sz_72 cd_73 := f74
                have hqk := condG_ok (b := b) (unitR_ok (n := n) (b := b) 6) a_18 (by omega) (by omega)
                obtain ⟨-, w1, w2⟩ : r_80 = 1 ∧ sg n b (sks n b a_71) = 63 ∧ a_81 = sks n b a_71 + 1 := by rcases f82 with z | z; exact z; (exfalso; omega)
                obtain ⟨q1, q3, q4, q5⟩ : (condG n b (unitR n b 6) a_18).1 = true ∧ a_71 = (condG n b (unitR n b 6) a_18).2.1 ∧ sz_72 = sz + (condG n b (unitR n b 6) a_18).2.2.1.length ∧ lsI (sz_72).toNat cd_73 = lsI sz.toNat cd ++ (condG n b (unitR n b 6) a_18).2.2.1 := by
                  rcases hqq with ⟨q1, q2, q3, q4, q5⟩ | ⟨q1, q2, q3, q4⟩
                  · exact ⟨q1, q3, q4, q5⟩
                  · exfalso
                    have hdg := q4.elim (fun z => absurd z (by omega)) (fun z => z.2)
                    have hdx := isD_sg.mp hdg
                    have hsk : sks n b a_71 = a_71 := sks_at (by have := (isD_t.mp hdg); omega)
                    rw [hsk] at w1; omega
                have ew : sumR n b 6 (sks n b (condG n b (unitR n b 6) a_18).2.1 + 1) = (sumR n b 6 a_81) := by rw [← q3, ← w2]
                have hm : sg n b (sks n b (condG n b (unitR n b 6) a_18).2.1) = 63 := by rw [← q3]; exact w1
                have hqw := sumR_ok (n := n) (b := b) 6 a_81 (by omega) (by omega)
                have hql := hqk.2.2 q1
                rcases f98 with ⟨z1, -, z3, z4, z5⟩ | ⟨z1, z2, z3, z4⟩
                · have hwl := hqw.2.2 z1
                  rw [eC, clQ_o q1 hm (by rw [ew]; exact z1), ew]
                  rcases f90 with ⟨l1, l2, l3⟩ | ⟨l1, l2⟩
                  · rcases f106 with ⟨m1, m2, m3⟩ | ⟨m1, m2⟩
                    · refine Or.inl ⟨rfl, rfl, z3, ?_, ?_⟩
                      · show _ = sz + (((condG n b (unitR n b 6) a_18).2.2.1 ++ [-11] ++ (sumR n b 6 a_81).2.2.1 ++ [-12]).length : Int); rw [List.length_append, List.length_append, List.length_append]; show _ = sz + (((condG n b (unitR n b 6) a_18).2.2.1.length + 1 + (sumR n b 6 a_81).2.2.1.length + 1 : Nat) : Int); omega
                      · show _ = _ ++ ((condG n b (unitR n b 6) a_18).2.2.1 ++ [-11] ++ (sumR n b 6 a_81).2.2.1 ++ [-12]); rw [m3, z5, l3, q5]; simp only [List.append_assoc]
                    · exfalso; omega
                  · exfalso; omega
                · rw [eC, clQ_w q1 hm (by rw [ew]; exact z1), ew]
                  exact Or.inr ⟨rfl, z2, by omega, z4.elim (fun z => absurd z (by omega)) (fun z => Or.inr ⟨rfl, z.2⟩)⟩
              · refine Rx.walk 1 (pc' := 113) (L' := [some (.ref 12), some (.ref 1), some (.int (iz r_17)), some (.int (iz 0))]) (st' := [.int (iz 0)]) (h' := cxW (u2 (u2 (u2 z 1 1 n) 1 2 a_95) 12 1 sz_96) (uf (uf f 2 b) 13 cd_97) C T rc tl) rfl ?_
                refine Rx.ret rfl ?_
                refine ⟨_, _, _, _, rfl, rfl, ?_, Or.inl rfl, by omega, by omega⟩
                obtain ⟨-, y1, y2⟩ : r_1 = 1 ∧ sg n b (sks n b a) = 121 ∧ a_2 = sks n b a + 1 := by rcases f3 with z | z; exact z; (exfalso; omega)
                obtain ⟨-, x1, x2⟩ : r_9 = 1 ∧ sg n b (sks n b a_2) = 58 ∧ a_10 = sks n b a_2 + 1 := by rcases f11 with z | z; exact z; (exfalso; omega)
                have eK : clauseG n b a = clU n b a_10 := by unfold clauseG; rw [if_pos y1, ← y2, if_pos x1, ← x2]
                have eu : sg n b (sks n b a_10) = r_17 := by rw [← f19]; exact f20.symm
                have eC : (clauseG n b a).1 = clQ n b (condG n b (unitR n b 6) a_18) := by rw [eK]; unfold clU; rw [if_pos (by omega), ← f19]
                have hqq : rdR n b (condG n b (unitR n b 6) a_18) sz cd r_70 a_71 sz_72 cd_73 := f74
                have hqk := condG_ok (b := b) (unitR_ok (n := n) (b := b) 6) a_18 (by omega) (by omega)
                obtain ⟨-, w1, w2⟩ : r_80 = 1 ∧ sg n b (sks n b a_71) = 63 ∧ a_81 = sks n b a_71 + 1 := by rcases f82 with z | z; exact z; (exfalso; omega)
                obtain ⟨q1, q3, q4, q5⟩ : (condG n b (unitR n b 6) a_18).1 = true ∧ a_71 = (condG n b (unitR n b 6) a_18).2.1 ∧ sz_72 = sz + (condG n b (unitR n b 6) a_18).2.2.1.length ∧ lsI (sz_72).toNat cd_73 = lsI sz.toNat cd ++ (condG n b (unitR n b 6) a_18).2.2.1 := by
                  rcases hqq with ⟨q1, q2, q3, q4, q5⟩ | ⟨q1, q2, q3, q4⟩
                  · exact ⟨q1, q3, q4, q5⟩
                  · exfalso
                    have hdg := q4.elim (fun z => absurd z (by omega)) (fun z => z.2)
                    have hdx := isD_sg.mp hdg
                    have hsk : sks n b a_71 = a_71 := sks_at (by have := (isD_t.mp hdg); omega)
                    rw [hsk] at w1; omega
                have ew : sumR n b 6 (sks n b (condG n b (unitR n b 6) a_18).2.1 + 1) = (sumR n b 6 a_81) := by rw [← q3, ← w2]
                have hm : sg n b (sks n b (condG n b (unitR n b 6) a_18).2.1) = 63 := by rw [← q3]; exact w1
                have hqw := sumR_ok (n := n) (b := b) 6 a_81 (by omega) (by omega)
                have hql := hqk.2.2 q1
                rcases f98 with z | ⟨z1, z2, z3, z4⟩
                · exfalso; have := z.2.1; omega
                · rw [eC, clQ_w q1 hm (by rw [ew]; exact z1), ew]
                  exact Or.inr ⟨rfl, z2, z3, Or.inl rfl⟩
            · refine Rx.walk 1 (pc' := 96) (L' := [some (.ref 12), some (.ref 1), some (.int (iz r_17)), some (.int (iz 0))]) (st' := [.int (iz 0)]) (h' := cxW (u2 (u2 (u2 z 1 1 n) 1 2 a_81) 12 1 sz_72) (uf (uf f 2 b) 13 cd_73) C T rc tl) rfl ?_
              refine Rx.ret rfl ?_
              refine ⟨_, _, _, _, rfl, rfl, ?_, Or.inl rfl, by omega, by omega⟩
              obtain ⟨-, y1, y2⟩ : r_1 = 1 ∧ sg n b (sks n b a) = 121 ∧ a_2 = sks n b a + 1 := by rcases f3 with z | z; exact z; (exfalso; omega)
              obtain ⟨-, x1, x2⟩ : r_9 = 1 ∧ sg n b (sks n b a_2) = 58 ∧ a_10 = sks n b a_2 + 1 := by rcases f11 with z | z; exact z; (exfalso; omega)
              have eK : clauseG n b a = clU n b a_10 := by unfold clauseG; rw [if_pos y1, ← y2, if_pos x1, ← x2]
              have eu : sg n b (sks n b a_10) = r_17 := by rw [← f19]; exact f20.symm
              have eC : (clauseG n b a).1 = clQ n b (condG n b (unitR n b 6) a_18) := by rw [eK]; unfold clU; rw [if_pos (by omega), ← f19]
              have hqq : rdR n b (condG n b (unitR n b 6) a_18) sz cd r_70 a_71 sz_72 cd_73 := f74
              have hqk := condG_ok (b := b) (unitR_ok (n := n) (b := b) 6) a_18 (by omega) (by omega)
              obtain ⟨-, w1, w2⟩ : r_80 = 0 ∧ sg n b (sks n b a_71) ≠ 63 ∧ a_81 = sks n b a_71 := by rcases f82 with z | z; (exfalso; omega); exact z
              rcases hqq with ⟨q1, q2, q3, q4, q5⟩ | ⟨q1, q2, q3, q4⟩
              · rw [eC, clQ_m q1 (by rw [← q3]; exact w1)]
                exact Or.inr ⟨rfl, by rw [w2, q3]; rfl, by omega, Or.inl rfl⟩
              · rw [eC, clQ_f q1]
                have hdg := q4.elim (fun z => absurd z (by omega)) (fun z => z.2)
                have hdx := isD_sg.mp hdg
                have hsk : sks n b a_71 = a_71 := sks_at (by have := (isD_t.mp hdg); omega)
                exact Or.inr ⟨rfl, by rw [w2, hsk]; exact q2, by omega, Or.inl rfl⟩
        · refine Rx.walk 4 (pc' := 44) (L' := [some (.ref 12), some (.ref 1), some (.int (iz r_17)), some (.int (iz 1))]) (st' := [.int (iz 1)]) (h' := cxW (u2 (u2 (u2 z 1 1 n) 1 2 a_18) 12 1 sz) (uf (uf f 2 b) 13 cd) C T rc tl) rfl ?_
          refine Rx.eq1 rfl rfl ⟨by omega, by omega⟩ (fun b110 => by omega) (fun b110 => ?_)
          refine Rx.walk 3 (pc' := 50) (L' := [some (.ref 12), some (.ref 1), some (.int (iz r_17)), some (.int (iz 1))]) (st' := [.int (iz 0), .ref 1, .ref 12]) (h' := cxW (u2 (u2 (u2 z 1 1 n) 1 2 a_18) 12 1 sz) (uf (uf f 2 b) 13 cd) C T rc tl) rfl ?_
          have hqo := sumR_ok (n := n) (b := b) 6 a_18 (by omega) (by omega)
          refine Rx.callx (m' := m_X6_readsSum) (as := [.ref 12, .ref 1, .int (iz 0)]) (rest := []) rfl (x_sum6 _ (u2 (u2 (u2 z 1 1 n) 1 2 a_18) 12 1 sz) (uf (uf f 2 b) 13 cd) C T rc tl  0 n a_18 b sz cd hT ⟨by omega, by omega⟩ ⟨by omega, by omega⟩ (by omega)) (fun v117 h118 q119 => ?_)
          obtain ⟨r_111, a_112, sz_113, cd_114, rfl, rfl, f115, f116⟩ := q119
          refine Rx.walk 0 (pc' := 53) (L' := [some (.ref 12), some (.ref 1), some (.int (iz r_17)), some (.int (iz 1))]) (st' := [.int (iz r_111)]) (h' := cxW (u2 (u2 (u2 z 1 1 n) 1 2 a_112) 12 1 sz_113) (uf (uf f 2 b) 13 cd_114) C T rc tl) rfl ?_
          obtain ⟨hq119, hr119, hu119⟩ := id f116
          refine Rx.ne1 rfl rfl ⟨by omega, by omega⟩ (fun b120 => ?_) (fun b120 => ?_)
          · refine Rx.walk 1 (pc' := 59) (L' := [some (.ref 12), some (.ref 1), some (.int (iz r_17)), some (.int (iz 1))]) (st' := [.ref 1]) (h' := cxW (u2 (u2 (u2 z 1 1 n) 1 2 a_112) 12 1 sz_113) (uf (uf f 2 b) 13 cd_114) C T rc tl) rfl ?_
            refine Rx.callx (m' := m_X8_sign) (as := [.ref 1]) (rest := []) rfl (x_sgn _ (u2 (u2 (u2 z 1 1 n) 1 2 a_112) 12 1 sz_113) (uf (uf f 2 b) 13 cd_114) C T rc tl  n a_112 b hT ⟨by omega, by omega⟩) (fun v127 h128 q129 => ?_)
            obtain ⟨r_121, a_122, rfl, rfl, f123, f124, f125, f126⟩ := q129
            refine Rx.walk 0 (pc' := 62) (L' := [some (.ref 12), some (.ref 1), some (.int (iz r_17)), some (.int (iz 1))]) (st' := [.int (iz r_121)]) (h' := cxW (u2 (u2 (u2 z 1 1 n) 1 2 a_122) 12 1 sz_113) (uf (uf f 2 b) 13 cd_114) C T rc tl) rfl ?_
            refine Rx.callx (m' := m_X6_comparison) (as := [.int (iz r_121)]) (rest := []) rfl (n_cmp _ (cxW (u2 (u2 (u2 z 1 1 n) 1 2 a_122) 12 1 sz_113) (uf (uf f 2 b) 13 cd_114) C T rc tl)  r_121 (by first | assumption | omega)) (fun v132 h133 q134 => ?_)
            obtain ⟨r_130, rfl, rfl, f131⟩ := q134
            refine Rx.walk 0 (pc' := 65) (L' := [some (.ref 12), some (.ref 1), some (.int (iz r_17)), some (.int (iz 1))]) (st' := [.int (iz r_130)]) (h' := cxW (u2 (u2 (u2 z 1 1 n) 1 2 a_122) 12 1 sz_113) (uf (uf f 2 b) 13 cd_114) C T rc tl) rfl ?_
            have hcb := cmpS_b r_121
            rw [← f131] at hcb
            refine Rx.ne1 rfl rfl ⟨by omega, by omega⟩ (fun b135 => ?_) (fun b135 => ?_)
            · refine Rx.walk 4 (pc' := 80) (L' := [some (.ref 12), some (.ref 1), some (.int (iz r_17)), some (.int (iz 1))]) (st' := [.int (iz 1), .int (iz 0), .ref 1, .ref 12]) (h' := cxW (u2 (u2 (u2 z 1 1 n) 1 2 a_122) 12 1 sz_113) (uf (uf f 2 b) 13 cd_114) C T rc tl) rfl ?_
              have hcs := cmpS_0 (show cmpS r_121 ≠ 0 by rw [← f131]; omega)
              obtain ⟨hok1, hok2, hok3, hok4⟩ : (sumR n b 6 a_18).1 = true ∧ a_112 = (sumR n b 6 a_18).2.1 ∧ sz_113 = sz + (sumR n b 6 a_18).2.2.1.length ∧ lsI (sz_113).toNat cd_114 = lsI sz.toNat cd ++ (sumR n b 6 a_18).2.2.1 := by
                rcases f115 with ⟨z1, z2, z3, z4, z5⟩ | ⟨z1, z2, z3, z4⟩
                · exact ⟨z1, z3, z4, z5⟩
                · exfalso
                  have hdg := z4.elim (fun z => absurd z (by omega)) (fun z => z.2)
                  have hdx := isD_sg.mp hdg
                  have hsk : sks n b a_112 = a_112 := sks_at (by have := (isD_t.mp hdg); omega)
                  rw [hsk] at f123
                  rw [f123] at f124
                  omega
              have hlen := hqo.2.2 hok1
              have hcn : cmpS (sg n b (sks n b (sumR n b 6 a_18).2.1)) ≠ 0 := by rw [← hok2, ← f123, ← f124, ← f131]; omega
              have epos : a_122 = sks n b (sumR n b 6 a_18).2.1 := by rw [f123, hok2]
              have hsame : cndB n b (true, a_122, (sumR n b 6 a_18).2.2) = cndB n b (sumR n b 6 a_18) := by rw [epos, ← hok1]; exact cndB_s hok1
              refine Rx.callx (m' := m_X6_readsCondition) (as := [.ref 12, .ref 1, .int (iz 0), .int (iz 1)]) (rest := []) rfl (x_condB6 _ (u2 (u2 (u2 z 1 1 n) 1 2 a_122) 12 1 sz_113) (uf (uf f 2 b) 13 cd_114) C T rc tl  0 n a_122 b sz_113 cd_114 sz cd a_18 (true, a_122, (sumR n b 6 a_18).2.2) hT ⟨by omega, by omega⟩ (by omega) (by omega) ⟨by omega, by omega⟩ ⟨by omega, by omega⟩ (Or.inl ⟨rfl, rfl, rfl, hok3, hok4⟩) (fun _ => by omega) (fun _ => ⟨by show ((sumR n b 6 a_18).2.2.1.length : Int) + _ ≤ _; omega, by omega⟩)) (fun v142 h143 q144 => ?_)
              obtain ⟨r_136, a_137, sz_138, cd_139, rfl, rfl, f140, f141⟩ := q144
              refine Rx.walk 0 (pc' := 83) (L' := [some (.ref 12), some (.ref 1), some (.int (iz r_17)), some (.int (iz 1))]) (st' := [.int (iz r_136)]) (h' := cxW (u2 (u2 (u2 z 1 1 n) 1 2 a_137) 12 1 sz_138) (uf (uf f 2 b) 13 cd_139) C T rc tl) rfl ?_
              obtain ⟨hq144, hr144, hu144⟩ := id f141
              refine Rx.eq1 rfl rfl ⟨by omega, by omega⟩ (fun b145 => ?_) (fun b145 => ?_)
              · refine Rx.walk 1 (pc' := 96) (L' := [some (.ref 12), some (.ref 1), some (.int (iz r_17)), some (.int (iz 1))]) (st' := [.int (iz 0)]) (h' := cxW (u2 (u2 (u2 z 1 1 n) 1 2 a_137) 12 1 sz_138) (uf (uf f 2 b) 13 cd_139) C T rc tl) rfl ?_
                refine Rx.ret rfl ?_
                refine ⟨_, _, _, _, rfl, rfl, ?_, Or.inl rfl, by omega, by omega⟩
                obtain ⟨-, y1, y2⟩ : r_1 = 1 ∧ sg n b (sks n b a) = 121 ∧ a_2 = sks n b a + 1 := by rcases f3 with z | z; exact z; (exfalso; omega)
                obtain ⟨-, x1, x2⟩ : r_9 = 1 ∧ sg n b (sks n b a_2) = 58 ∧ a_10 = sks n b a_2 + 1 := by rcases f11 with z | z; exact z; (exfalso; omega)
                have eK : clauseG n b a = clU n b a_10 := by unfold clauseG; rw [if_pos y1, ← y2, if_pos x1, ← x2]
                have eu : sg n b (sks n b a_10) = r_17 := by rw [← f19]; exact f20.symm
                have eq0 : sumR n b 6 (sks n b a_10) = sumR n b 6 a_18 := by rw [← f19]
                have eC : (clauseG n b a).1 = clQ n b (cndB n b (sumR n b 6 a_18)) := by rw [eK]; unfold clU; rw [if_neg (by omega), eq0, if_pos hok1, if_neg hcn]
                have hqq : rdR n b (cndB n b (sumR n b 6 a_18)) sz cd r_136 a_137 sz_138 cd_139 := by have z : rdR n b (cndB n b (true, a_122, (sumR n b 6 a_18).2.2)) sz cd r_136 a_137 sz_138 cd_139 := f140; rw [hsame] at z; exact z
                have hqk := cndB_ok (b := b) (q := (sumR n b 6 a_18)) (a := a_18) (by omega) hqo
                rcases hqq with z | ⟨q1, q2, q3, q4⟩
                · exfalso; have := z.2.1; omega
                · rw [eC, clQ_f q1]
                  exact Or.inr ⟨rfl, q2, q3, Or.inl rfl⟩
              · refine Rx.walk 2 (pc' := 89) (L' := [some (.ref 12), some (.ref 1), some (.int (iz r_17)), some (.int (iz 1))]) (st' := [.int (iz 63), .ref 1]) (h' := cxW (u2 (u2 (u2 z 1 1 n) 1 2 a_137) 12 1 sz_138) (uf (uf f 2 b) 13 cd_139) C T rc tl) rfl ?_
                refine Rx.callx (m' := m_X8_accepts) (as := [.ref 1, .int (iz 63)]) (rest := []) rfl (x_acc _ (u2 (u2 (u2 z 1 1 n) 1 2 a_137) 12 1 sz_138) (uf (uf f 2 b) 13 cd_139) C T rc tl  63 n a_137 b hT ⟨by omega, by omega⟩ (by first | assumption | omega)) (fun v150 h151 q152 => ?_)
                obtain ⟨r_146, a_147, rfl, rfl, f148, f149⟩ := q152
                refine Rx.walk 0 (pc' := 92) (L' := [some (.ref 12), some (.ref 1), some (.int (iz r_17)), some (.int (iz 1))]) (st' := [.int (iz r_146)]) (h' := cxW (u2 (u2 (u2 z 1 1 n) 1 2 a_147) 12 1 sz_138) (uf (uf f 2 b) 13 cd_139) C T rc tl) rfl ?_
                refine Rx.ne1 rfl rfl ⟨by omega, by omega⟩ (fun b153 => ?_) (fun b153 => ?_)
                · have hqq0 : rdR n b (cndB n b (sumR n b 6 a_18)) sz cd r_136 a_137 sz_138 cd_139 := by have z : rdR n b (cndB n b (true, a_122, (sumR n b 6 a_18).2.2)) sz cd r_136 a_137 sz_138 cd_139 := f140; rw [hsame] at z; exact z
                  have hqk0 := cndB_ok (b := b) (q := sumR n b 6 a_18) (a := a_18) (by omega) hqo
                  have hszb : sz_138 ≤ a_137 := by
                    rcases hqq0 with ⟨q1, q2, q3, q4, q5⟩ | ⟨q1, q2, q3, q4⟩
                    · have := hqk0.2.2 q1; omega
                    · exfalso
                      have hdg := q4.elim (fun z => absurd z (by omega)) (fun z => z.2)
                      have hdx := isD_sg.mp hdg
                      have hsk : sks n b a_137 = a_137 := sks_at (by have := (isD_t.mp hdg); omega)
                      rcases f148 with z | z
                      · rw [hsk] at z; omega
                      · omega
                  have hskl := sks_le n b a_137
                  have hA3 : a_147 = sks n b a_137 + 1 := by rcases f148 with z | z; exact z.2.2; (exfalso; omega)
                  refine Rx.walk 2 (pc' := 100) (L' := [some (.ref 12), some (.ref 1), some (.int (iz r_17)), some (.int (iz 1))]) (st' := [.int (iz (-11)), .ref 12]) (h' := cxW (u2 (u2 (u2 z 1 1 n) 1 2 a_147) 12 1 sz_138) (uf (uf f 2 b) 13 cd_139) C T rc tl) rfl ?_
                  refine Rx.callx (m' := m_X6_emit) (as := [.ref 12, .int (iz (-11))]) (rest := []) rfl (x_emit _ (u2 (u2 (u2 z 1 1 n) 1 2 a_147) 12 1 sz_138) (uf (uf f 2 b) 13 cd_139) C T rc tl  (-11) sz_138 cd_139 (by first | assumption | omega)) (fun v157 h158 q159 => ?_)
                  obtain ⟨sz_154, cd_155, rfl, rfl, f156⟩ := q159
                  refine Rx.walk 0 (pc' := 103) (L' := [some (.ref 12), some (.ref 1), some (.int (iz r_17)), some (.int (iz 1))]) (st' := []) (h' := cxW (u2 (u2 (u2 z 1 1 n) 1 2 a_147) 12 1 sz_154) (uf (uf f 2 b) 13 cd_155) C T rc tl) rfl ?_
                  have heb : 0 ≤ sz_154 ∧ sz_154 ≤ 161 := by rcases f156 with z | z <;> omega
                  refine Rx.walk 3 (pc' := 106) (L' := [some (.ref 12), some (.ref 1), some (.int (iz r_17)), some (.int (iz 1))]) (st' := [.int (iz 0), .ref 1, .ref 12]) (h' := cxW (u2 (u2 (u2 z 1 1 n) 1 2 a_147) 12 1 sz_154) (uf (uf f 2 b) 13 cd_155) C T rc tl) rfl ?_
                  refine Rx.callx (m' := m_X6_readsSum) (as := [.ref 12, .ref 1, .int (iz 0)]) (rest := []) rfl (x_sum6 _ (u2 (u2 (u2 z 1 1 n) 1 2 a_147) 12 1 sz_154) (uf (uf f 2 b) 13 cd_155) C T rc tl  0 n a_147 b sz_154 cd_155 hT ⟨by omega, by omega⟩ ⟨by omega, by omega⟩ (by omega)) (fun v166 h167 q168 => ?_)
                  obtain ⟨r_160, a_161, sz_162, cd_163, rfl, rfl, f164, f165⟩ := q168
                  refine Rx.walk 0 (pc' := 109) (L' := [some (.ref 12), some (.ref 1), some (.int (iz r_17)), some (.int (iz 1))]) (st' := [.int (iz r_160)]) (h' := cxW (u2 (u2 (u2 z 1 1 n) 1 2 a_161) 12 1 sz_162) (uf (uf f 2 b) 13 cd_163) C T rc tl) rfl ?_
                  obtain ⟨hq168, hr168, hu168⟩ := id f165
                  refine Rx.ne1 rfl rfl ⟨by omega, by omega⟩ (fun b169 => ?_) (fun b169 => ?_)
                  · refine Rx.walk 2 (pc' := 117) (L' := [some (.ref 12), some (.ref 1), some (.int (iz r_17)), some (.int (iz 1))]) (st' := [.int (iz (-12)), .ref 12]) (h' := cxW (u2 (u2 (u2 z 1 1 n) 1 2 a_161) 12 1 sz_162) (uf (uf f 2 b) 13 cd_163) C T rc tl) rfl ?_
                    refine Rx.callx (m' := m_X6_emit) (as := [.ref 12, .int (iz (-12))]) (rest := []) rfl (x_emit _ (u2 (u2 (u2 z 1 1 n) 1 2 a_161) 12 1 sz_162) (uf (uf f 2 b) 13 cd_163) C T rc tl  (-12) sz_162 cd_163 (by first | assumption | omega)) (fun v173 h174 q175 => ?_)
                    obtain ⟨sz_170, cd_171, rfl, rfl, f172⟩ := q175
                    refine Rx.walk 0 (pc' := 120) (L' := [some (.ref 12), some (.ref 1), some (.int (iz r_17)), some (.int (iz 1))]) (st' := []) (h' := cxW (u2 (u2 (u2 z 1 1 n) 1 2 a_161) 12 1 sz_170) (uf (uf f 2 b) 13 cd_171) C T rc tl) rfl ?_
                    have heb : 0 ≤ sz_170 ∧ sz_170 ≤ 161 := by rcases f172 with z | z <;> omega
                    refine Rx.walk 1 (pc' := 121) (L' := [some (.ref 12), some (.ref 1), some (.int (iz r_17)), some (.int (iz 1))]) (st' := [.int (iz 1)]) (h' := cxW (u2 (u2 (u2 z 1 1 n) 1 2 a_161) 12 1 sz_170) (uf (uf f 2 b) 13 cd_171) C T rc tl) rfl ?_
                    refine Rx.ret rfl ?_
                    refine ⟨_, _, _, _, rfl, rfl, ?_, Or.inr rfl, by omega, by omega⟩
                    obtain ⟨-, y1, y2⟩ : r_1 = 1 ∧ sg n b (sks n b a) = 121 ∧ a_2 = sks n b a + 1 := by rcases f3 with z | z; exact z; (exfalso; omega)
                    obtain ⟨-, x1, x2⟩ : r_9 = 1 ∧ sg n b (sks n b a_2) = 58 ∧ a_10 = sks n b a_2 + 1 := by rcases f11 with z | z; exact z; (exfalso; omega)
                    have eK : clauseG n b a = clU n b a_10 := by unfold clauseG; rw [if_pos y1, ← y2, if_pos x1, ← x2]
                    have eu : sg n b (sks n b a_10) = r_17 := by rw [← f19]; exact f20.symm
                    have eq0 : sumR n b 6 (sks n b a_10) = sumR n b 6 a_18 := by rw [← f19]
                    have eC : (clauseG n b a).1 = clQ n b (cndB n b (sumR n b 6 a_18)) := by rw [eK]; unfold clU; rw [if_neg (by omega), eq0, if_pos hok1, if_neg hcn]
                    have hqq : rdR n b (cndB n b (sumR n b 6 a_18)) sz cd r_136 a_137 sz_138 cd_139 := by have z : rdR n b (cndB n b (true, a_122, (sumR n b 6 a_18).2.2)) sz cd r_136 a_137 sz_138 cd_139 := f140; rw [hsame] at z; exact z
                    have hqk := cndB_ok (b := b) (q := (sumR n b 6 a_18)) (a := a_18) (by omega) hqo
                    obtain ⟨-, w1, w2⟩ : r_146 = 1 ∧ sg n b (sks n b a_137) = 63 ∧ a_147 = sks n b a_137 + 1 := by rcases f148 with z | z; exact z; (exfalso; omega)
                    obtain ⟨q1, q3, q4, q5⟩ : (cndB n b (sumR n b 6 a_18)).1 = true ∧ a_137 = (cndB n b (sumR n b 6 a_18)).2.1 ∧ sz_138 = sz + (cndB n b (sumR n b 6 a_18)).2.2.1.length ∧ lsI (sz_138).toNat cd_139 = lsI sz.toNat cd ++ (cndB n b (sumR n b 6 a_18)).2.2.1 := by
                      rcases hqq with ⟨q1, q2, q3, q4, q5⟩ | ⟨q1, q2, q3, q4⟩
                      · exact ⟨q1, q3, q4, q5⟩
                      · exfalso
                        have hdg := q4.elim (fun z => absurd z (by omega)) (fun z => z.2)
                        have hdx := isD_sg.mp hdg
                        have hsk : sks n b a_137 = a_137 := sks_at (by have := (isD_t.mp hdg); omega)
                        rw [hsk] at w1; omega
                    have ew : sumR n b 6 (sks n b (cndB n b (sumR n b 6 a_18)).2.1 + 1) = (sumR n b 6 a_147) := by rw [← q3, ← w2]
                    have hm : sg n b (sks n b (cndB n b (sumR n b 6 a_18)).2.1) = 63 := by rw [← q3]; exact w1
                    have hqw := sumR_ok (n := n) (b := b) 6 a_147 (by omega) (by omega)
                    have hql := hqk.2.2 q1
                    rcases f164 with ⟨z1, -, z3, z4, z5⟩ | ⟨z1, z2, z3, z4⟩
                    · have hwl := hqw.2.2 z1
                      rw [eC, clQ_o q1 hm (by rw [ew]; exact z1), ew]
                      rcases f156 with ⟨l1, l2, l3⟩ | ⟨l1, l2⟩
                      · rcases f172 with ⟨m1, m2, m3⟩ | ⟨m1, m2⟩
                        · refine Or.inl ⟨rfl, rfl, z3, ?_, ?_⟩
                          · show _ = sz + (((cndB n b (sumR n b 6 a_18)).2.2.1 ++ [-11] ++ (sumR n b 6 a_147).2.2.1 ++ [-12]).length : Int); rw [List.length_append, List.length_append, List.length_append]; show _ = sz + (((cndB n b (sumR n b 6 a_18)).2.2.1.length + 1 + (sumR n b 6 a_147).2.2.1.length + 1 : Nat) : Int); omega
                          · show _ = _ ++ ((cndB n b (sumR n b 6 a_18)).2.2.1 ++ [-11] ++ (sumR n b 6 a_147).2.2.1 ++ [-12]); rw [m3, z5, l3, q5]; simp only [List.append_assoc]
                        · exfalso; omega
                      · exfalso; omega
                    · rw [eC, clQ_w q1 hm (by rw [ew]; exact z1), ew]
                      exact Or.inr ⟨rfl, z2, by omega, z4.elim (fun z => absurd z (by omega)) (fun z => Or.inr ⟨rfl, z.2⟩)⟩
                  · refine Rx.walk 1 (pc' := 113) (L' := [some (.ref 12), some (.ref 1), some (.int (iz r_17)), some (.int (iz 1))]) (st' := [.int (iz 0)]) (h' := cxW (u2 (u2 (u2 z 1 1 n) 1 2 a_161) 12 1 sz_162) (uf (uf f 2 b) 13 cd_163) C T rc tl) rfl ?_
                    refine Rx.ret rfl ?_
                    refine ⟨_, _, _, _, rfl, rfl, ?_, Or.inl rfl, by omega, by omega⟩
                    obtain ⟨-, y1, y2⟩ : r_1 = 1 ∧ sg n b (sks n b a) = 121 ∧ a_2 = sks n b a + 1 := by rcases f3 with z | z; exact z; (exfalso; omega)
                    obtain ⟨-, x1, x2⟩ : r_9 = 1 ∧ sg n b (sks n b a_2) = 58 ∧ a_10 = sks n b a_2 + 1 := by rcases f11 with z | z; exact z; (exfalso; omega)
                    have eK : clauseG n b a = clU n b a_10 := by unfold clauseG; rw [if_pos y1, ← y2, if_pos x1, ← x2]
                    have eu : sg n b (sks n b a_10) = r_17 := by rw [← f19]; exact f20.symm
                    have eq0 : sumR n b 6 (sks n b a_10) = sumR n b 6 a_18 := by rw [← f19]
                    have eC : (clauseG n b a).1 = clQ n b (cndB n b (sumR n b 6 a_18)) := by rw [eK]; unfold clU; rw [if_neg (by omega), eq0, if_pos hok1, if_neg hcn]
                    have hqq : rdR n b (cndB n b (sumR n b 6 a_18)) sz cd r_136 a_137 sz_138 cd_139 := by have z : rdR n b (cndB n b (true, a_122, (sumR n b 6 a_18).2.2)) sz cd r_136 a_137 sz_138 cd_139 := f140; rw [hsame] at z; exact z
                    have hqk := cndB_ok (b := b) (q := (sumR n b 6 a_18)) (a := a_18) (by omega) hqo
                    obtain ⟨-, w1, w2⟩ : r_146 = 1 ∧ sg n b (sks n b a_137) = 63 ∧ a_147 = sks n b a_137 + 1 := by rcases f148 with z | z; exact z; (exfalso; omega)
                    obtain ⟨q1, q3, q4, q5⟩ : (cndB n b (sumR n b 6 a_18)).1 = true ∧ a_137 = (cndB n b (sumR n b 6 a_18)).2.1 ∧ sz_138 = sz + (cndB n b (sumR n b 6 a_18)).2.2.1.length ∧ lsI (sz_138).toNat cd_139 = lsI sz.toNat cd ++ (cndB n b (sumR n b 6 a_18)).2.2.1 := by
                      rcases hqq with ⟨q1, q2, q3, q4, q5⟩ | ⟨q1, q2, q3, q4⟩
                      · exact ⟨q1, q3, q4, q5⟩
                      · exfalso
                        have hdg := q4.elim (fun z => absurd z (by omega)) (fun z => z.2)
                        have hdx := isD_sg.mp hdg
                        have hsk : sks n b a_137 = a_137 := sks_at (by have := (isD_t.mp hdg); omega)
                        rw [hsk] at w1; omega
                    have ew : sumR n b 6 (sks n b (cndB n b (sumR n b 6 a_18)).2.1 + 1) = (sumR n b 6 a_147) := by rw [← q3, ← w2]
                    have hm : sg n b (sks n b (cndB n b (sumR n b 6 a_18)).2.1) = 63 := by rw [← q3]; exact w1
                    have hqw := sumR_ok (n := n) (b := b) 6 a_147 (by omega) (by omega)
                    have hql := hqk.2.2 q1
                    rcases f164 with z | ⟨z1, z2, z3, z4⟩
                    · exfalso; have := z.2.1; omega
                    · rw [eC, clQ_w q1 hm (by rw [ew]; exact z1), ew]
                      exact Or.inr ⟨rfl, z2, z3, Or.inl rfl⟩
                · refine Rx.walk 1 (pc' := 96) (L' := [some (.ref 12), some (.ref 1), some (.int (iz r_17)), some (.int (iz 1))]) (st' := [.int (iz 0)]) (h' := cxW (u2 (u2 (u2 z 1 1 n) 1 2 a_147) 12 1 sz_138) (uf (uf f 2 b) 13 cd_139) C T rc tl) rfl ?_
                  refine Rx.ret rfl ?_
                  refine ⟨_, _, _, _, rfl, rfl, ?_, Or.inl rfl, by omega, by omega⟩
                  obtain ⟨-, y1, y2⟩ : r_1 = 1 ∧ sg n b (sks n b a) = 121 ∧ a_2 = sks n b a + 1 := by rcases f3 with z | z; exact z; (exfalso; omega)
                  obtain ⟨-, x1, x2⟩ : r_9 = 1 ∧ sg n b (sks n b a_2) = 58 ∧ a_10 = sks n b a_2 + 1 := by rcases f11 with z | z; exact z; (exfalso; omega)
                  have eK : clauseG n b a = clU n b a_10 := by unfold clauseG; rw [if_pos y1, ← y2, if_pos x1, ← x2]
                  have eu : sg n b (sks n b a_10) = r_17 := by rw [← f19]; exact f20.symm
                  have eq0 : sumR n b 6 (sks n b a_10) = sumR n b 6 a_18 := by rw [← f19]
                  have eC : (clauseG n b a).1 = clQ n b (cndB n b (sumR n b 6 a_18)) := by rw [eK]; unfold clU; rw [if_neg (by omega), eq0, if_pos hok1, if_neg hcn]
                  have hqq : rdR n b (cndB n b (sumR n b 6 a_18)) sz cd r_136 a_137 sz_138 cd_139 := by have z : rdR n b (cndB n b (true, a_122, (sumR n b 6 a_18).2.2)) sz cd r_136 a_137 sz_138 cd_139 := f140; rw [hsame] at z; exact z
                  have hqk := cndB_ok (b := b) (q := (sumR n b 6 a_18)) (a := a_18) (by omega) hqo
                  obtain ⟨-, w1, w2⟩ : r_146 = 0 ∧ sg n b (sks n b a_137) ≠ 63 ∧ a_147 = sks n b a_137 := by rcases f148 with z | z; (exfalso; omega); exact z
                  rcases hqq with ⟨q1, q2, q3, q4, q5⟩ | ⟨q1, q2, q3, q4⟩
                  · rw [eC, clQ_m q1 (by rw [← q3]; exact w1)]
                    exact Or.inr ⟨rfl, by rw [w2, q3]; rfl, by omega, Or.inl rfl⟩
                  · rw [eC, clQ_f q1]
                    have hdg := q4.elim (fun z => absurd z (by omega)) (fun z => z.2)
                    have hdx := isD_sg.mp hdg
                    have hsk : sks n b a_137 = a_137 := sks_at (by have := (isD_t.mp hdg); omega)
                    exact Or.inr ⟨rfl, by rw [w2, hsk]; exact q2, by omega, Or.inl rfl⟩
            · refine Rx.walk 2 (pc' := 71) (L' := [some (.ref 12), some (.ref 1), some (.int (iz r_17)), some (.int (iz 1))]) (st' := [.int (iz (-12)), .ref 12]) (h' := cxW (u2 (u2 (u2 z 1 1 n) 1 2 a_122) 12 1 sz_113) (uf (uf f 2 b) 13 cd_114) C T rc tl) rfl ?_
              refine Rx.callx (m' := m_X6_emit) (as := [.ref 12, .int (iz (-12))]) (rest := []) rfl (x_emit _ (u2 (u2 (u2 z 1 1 n) 1 2 a_122) 12 1 sz_113) (uf (uf f 2 b) 13 cd_114) C T rc tl  (-12) sz_113 cd_114 (by first | assumption | omega)) (fun v179 h180 q181 => ?_)
              obtain ⟨sz_176, cd_177, rfl, rfl, f178⟩ := q181
              refine Rx.walk 0 (pc' := 74) (L' := [some (.ref 12), some (.ref 1), some (.int (iz r_17)), some (.int (iz 1))]) (st' := []) (h' := cxW (u2 (u2 (u2 z 1 1 n) 1 2 a_122) 12 1 sz_176) (uf (uf f 2 b) 13 cd_177) C T rc tl) rfl ?_
              have heb : 0 ≤ sz_176 ∧ sz_176 ≤ 161 := by rcases f178 with z | z <;> omega
              refine Rx.walk 1 (pc' := 75) (L' := [some (.ref 12), some (.ref 1), some (.int (iz r_17)), some (.int (iz 1))]) (st' := [.int (iz 1)]) (h' := cxW (u2 (u2 (u2 z 1 1 n) 1 2 a_122) 12 1 sz_176) (uf (uf f 2 b) 13 cd_177) C T rc tl) rfl ?_
              refine Rx.ret rfl ?_
              refine ⟨_, _, _, _, rfl, rfl, ?_, Or.inr rfl, by omega, by omega⟩
              obtain ⟨-, y1, y2⟩ : r_1 = 1 ∧ sg n b (sks n b a) = 121 ∧ a_2 = sks n b a + 1 := by rcases f3 with z | z; exact z; (exfalso; omega)
              obtain ⟨-, x1, x2⟩ : r_9 = 1 ∧ sg n b (sks n b a_2) = 58 ∧ a_10 = sks n b a_2 + 1 := by rcases f11 with z | z; exact z; (exfalso; omega)
              have eK : clauseG n b a = clU n b a_10 := by unfold clauseG; rw [if_pos y1, ← y2, if_pos x1, ← x2]
              have eu : sg n b (sks n b a_10) = r_17 := by rw [← f19]; exact f20.symm
              have eq0 : sumR n b 6 (sks n b a_10) = sumR n b 6 a_18 := by rw [← f19]
              rcases f115 with ⟨z1, -, z3, z4, z5⟩ | ⟨z1, z2, z3, z4⟩
              · have ec : cmpS (sg n b (sks n b (sumR n b 6 a_18).2.1)) = 0 := by rw [← z3, ← f123, ← f124, ← f131]; omega
                rw [show (clauseG n b a).1 = (true, sks n b (sumR n b 6 a_18).2.1, (sumR n b 6 a_18).2.2.1 ++ [-12], (sumR n b 6 a_18).2.2.2) from by rw [eK]; unfold clU; rw [if_neg (by omega), eq0, if_pos z1, if_pos ec]]
                have hlen := hqo.2.2 z1
                rcases f178 with ⟨m1, m2, m3⟩ | ⟨m1, m2⟩
                · refine Or.inl ⟨rfl, rfl, by rw [f123, z3], ?_, ?_⟩
                  · show _ = sz + (((sumR n b 6 a_18).2.2.1 ++ [-12]).length : Int); rw [List.length_append]; show _ = sz + (((sumR n b 6 a_18).2.2.1.length + 1 : Nat) : Int); omega
                  · show _ = _ ++ ((sumR n b 6 a_18).2.2.1 ++ [-12]); rw [m3, z5, List.append_assoc]
                · exfalso; omega
              · have hdg := z4.elim (fun z => absurd z (by omega)) (fun z => z.2)
                have hsk : sks n b a_112 = a_112 := sks_at (by have := (isD_t.mp hdg); omega)
                rw [show (clauseG n b a).1 = rsF (sumR n b 6 a_18).2.1 from by rw [eK]; unfold clU; rw [if_neg (by omega), eq0, if_neg (by rw [z1]; decide)]]
                exact Or.inr ⟨rfl, by rw [f123, hsk]; exact z2, by omega, Or.inr ⟨rfl, by rw [f123, hsk]; exact hdg⟩⟩
          · refine Rx.walk 1 (pc' := 57) (L' := [some (.ref 12), some (.ref 1), some (.int (iz r_17)), some (.int (iz 1))]) (st' := [.int (iz 0)]) (h' := cxW (u2 (u2 (u2 z 1 1 n) 1 2 a_112) 12 1 sz_113) (uf (uf f 2 b) 13 cd_114) C T rc tl) rfl ?_
            refine Rx.ret rfl ?_
            refine ⟨_, _, _, _, rfl, rfl, ?_, Or.inl rfl, by omega, by omega⟩
            obtain ⟨-, y1, y2⟩ : r_1 = 1 ∧ sg n b (sks n b a) = 121 ∧ a_2 = sks n b a + 1 := by rcases f3 with z | z; exact z; (exfalso; omega)
            obtain ⟨-, x1, x2⟩ : r_9 = 1 ∧ sg n b (sks n b a_2) = 58 ∧ a_10 = sks n b a_2 + 1 := by rcases f11 with z | z; exact z; (exfalso; omega)
            have eK : clauseG n b a = clU n b a_10 := by unfold clauseG; rw [if_pos y1, ← y2, if_pos x1, ← x2]
            have eu : sg n b (sks n b a_10) = r_17 := by rw [← f19]; exact f20.symm
            have eq0 : sumR n b 6 (sks n b a_10) = sumR n b 6 a_18 := by rw [← f19]
            rcases f115 with z | ⟨z1, z2, z3, z4⟩
            · exfalso; have := z.2.1; omega
            · rw [show (clauseG n b a).1 = rsF (sumR n b 6 a_18).2.1 from by rw [eK]; unfold clU; rw [if_neg (by omega), eq0, if_neg (by rw [z1]; decide)]]
              exact Or.inr ⟨rfl, z2, z3, Or.inl rfl⟩
    · refine Rx.walk 1 (pc' := 19) (L' := [some (.ref 12), some (.ref 1), none, none]) (st' := [.int (iz 0)]) (h' := cxW (u2 (u2 (u2 z 1 1 n) 1 2 a_10) 12 1 sz) (uf (uf f 2 b) 13 cd) C T rc tl) rfl ?_
      refine Rx.ret rfl ?_
      refine ⟨_, _, _, _, rfl, rfl, ?_, Or.inl rfl, by omega, by omega⟩
      obtain ⟨-, y1, y2⟩ : r_1 = 1 ∧ sg n b (sks n b a) = 121 ∧ a_2 = sks n b a + 1 := by rcases f3 with z | z; exact z; (exfalso; omega)
      obtain ⟨-, x1, x2⟩ : r_9 = 0 ∧ sg n b (sks n b a_2) ≠ 58 ∧ a_10 = sks n b a_2 := by rcases f11 with z | z; (exfalso; omega); exact z
      rw [show (clauseG n b a).1 = rsF (sks n b a_2) from by unfold clauseG; rw [if_pos y1, ← y2, if_neg x1]]
      exact Or.inr ⟨rfl, x2, by omega, Or.inl rfl⟩

/-! fault, of the class (printed by wip/whole/genflt.py) -/
theorem ruleL_sk {n : Int} {b : Int → Int} : ∀ (k : Nat) (a : Int), (ruleL n b k a).1 = true → sks n b (ruleL n b k a).2.1 = (ruleL n b k a).2.1
  | 0, a, h => by cases h
  | k + 1, a, h => by
    cases hc : (clauseG n b a).1.1 with
    | false => rw [ruleL_f hc] at h; cases h
    | true =>
      by_cases h2 : sg n b (sks n b (clauseG n b a).1.2.1) = 59
      · rw [ruleL_s hc h2] at h ⊢
        exact ruleL_sk k _ h
      · rw [ruleL_e hc h2]
        exact sks_sks _ _ _
theorem ruleL_len {n : Int} {b : Int → Int} : ∀ (k : Nat) (a : Int), 0 ≤ a → a ≤ n → (ruleL n b k a).1 = true → ((ruleL n b k a).2.2.1.length : Int) + a ≤ (ruleL n b k a).2.1 ∧ (ruleL n b k a).2.1 ≤ n
  | 0, a, _, _, h => by cases h
  | k + 1, a, h0, h1, h => by
    cases hc : (clauseG n b a).1.1 with
    | false => rw [ruleL_f hc] at h; cases h
    | true =>
      obtain ⟨c1, c2, c3⟩ := clauseG_ok (n := n) (b := b) h0 h1
      have c4 := c3 hc
      have s1 := sks_le n b (clauseG n b a).1.2.1
      have s2 := sks_n b c2
      by_cases h2 : sg n b (sks n b (clauseG n b a).1.2.1) = 59
      · have hlt : sks n b (clauseG n b a).1.2.1 < n := by
          rcases Int.lt_or_le (sks n b (clauseG n b a).1.2.1) n with q | q
          · exact q
          · rw [sg_ge q] at h2; omega
        rw [ruleL_s hc h2] at h ⊢
        have := ruleL_len k (sks n b (clauseG n b a).1.2.1 + 1) (by omega) (by omega) h
        refine ⟨?_, this.2⟩
        show (((clauseG n b a).1.2.2.1 ++ (ruleL n b k (sks n b (clauseG n b a).1.2.1 + 1)).2.2.1).length : Int) + a ≤ (ruleL n b k (sks n b (clauseG n b a).1.2.1 + 1)).2.1
        rw [List.length_append]
        have t := this.1
        omega
      · rw [ruleL_e hc h2]
        exact ⟨by show ((clauseG n b a).1.2.2.1.length : Int) + a ≤ sks n b (clauseG n b a).1.2.1; omega, s2⟩
section RlX
variable {n : Int} {b : Int → Int} {R : RuT} {r a' sz' : Int} {cd' : Int → Int}
theorem rlX_m (h : rlR n b R [] r a' sz' cd') (hs : R.1 = true → sks n b R.2.1 = R.2.1) (h1 : r = 1) (h2 : sg n b (sks n b a') = -1) : R.1 = true ∧ sg n b R.2.1 = -1 ∧ sz' = R.2.2.1.length ∧ lsI sz'.toNat cd' = R.2.2.1 := by
  rcases h with ⟨q1, q2, q3, q4, q5⟩ | ⟨q1, q2, q3⟩
  · rw [q3, hs q1] at h2
    exact ⟨q1, h2, q4, q5⟩
  · rcases q3 with q3 | ⟨-, q3⟩
    · omega
    · have hk : sks n b a' = a' := sks_at (by have := (isD_t.mp q3); omega)
      have := isD_sg.mp q3
      rw [hk] at h2
      omega
theorem rlX_n (h : rlR n b R [] r a' sz' cd') (hs : R.1 = true → sks n b R.2.1 = R.2.1) (h1 : r = 1) (h2 : sg n b (sks n b a') ≠ -1) : ¬ (R.1 = true ∧ sg n b R.2.1 = -1) ∧ sks n b a' = R.2.1 := by
  rcases h with ⟨q1, q2, q3, q4, q5⟩ | ⟨q1, q2, q3⟩
  · rw [q3, hs q1] at h2 ⊢
    exact ⟨fun q => h2 q.2, rfl⟩
  · rcases q3 with q3 | ⟨-, q3⟩
    · omega
    · have hk : sks n b a' = a' := sks_at (by have := (isD_t.mp q3); omega)
      exact ⟨fun q => absurd (q1.symm.trans q.1) (by decide), by rw [hk, q2]⟩
theorem rlX_f (h : rlR n b R [] r a' sz' cd') (h1 : r = 0) : ¬ (R.1 = true ∧ sg n b R.2.1 = -1) ∧ a' = R.2.1 := by
  rcases h with ⟨q1, q2, q3, q4, q5⟩ | ⟨q1, q2, q3⟩
  · omega
  · exact ⟨fun q => absurd (q1.symm.trans q.1) (by decide), q2⟩
end RlX
/-- where a rule's text is wrong -/
def ruF (n : Int) (b : Int → Int) (R : RuT) (r : Int) : Prop := (R.1 = true ∧ sg n b R.2.1 = -1 ∧ r = -1) ∨ (¬ (R.1 = true ∧ sg n b R.2.1 = -1) ∧ r = R.2.1 ∧ r ≠ -1)
theorem ruF_uq {n : Int} {b : Int → Int} {R : RuT} {r s : Int} (h1 : ruF n b R r) (h2 : ruF n b R s) : r = s := by
  rcases h1 with ⟨a1, a2, a3⟩ | ⟨a1, a2, a3⟩ <;> rcases h2 with ⟨b1, b2, b3⟩ | ⟨b1, b2, b3⟩
  · omega
  · exact absurd ⟨a1, a2⟩ b1
  · exact absurd ⟨b1, b2⟩ a1
  · omega
set_option maxRecDepth 100000 in
set_option maxHeartbeats 4000000 in
theorem x_fault0 (d : Nat) (z : Nat → Nat → Int) (f : Nat → Int → Int) (C : Nat → CuR) (T : Nat → TsR) (rc : Nat → Nat) (tl : AmH)  (n : Int) (b : Int → Int) (at_ : Int) (K1 : Int) (t0 : Int) (t1 : Int) (t2 : Int) (g1 : Int → Int) (hT : tOK n b) (hg : shI g1) (hK1 : 0 ≤ K1 ∧ K1 ≤ 4) : Rx (d + 6) m_X11_fault 0 (am_ent [.ref 0, .int (iz 0)] 3) [] (cxW (u2 (u2 (u2 (u2 (u2 (u2 z 1 1 n) 1 2 at_) 5 1 K1) 5 2 t0) 5 3 t1) 5 4 t2) (uf (uf f 2 b) 6 g1) C T rc tl) (fun rv h => ∃ r : Int, ∃ at' : Int, ∃ K1' : Int, ∃ t0' : Int, ∃ t1' : Int, ∃ t2' : Int, ∃ g1' : Int → Int, rv = some (.int (iz r)) ∧ h = cxW (u2 (u2 (u2 (u2 (u2 (u2 z 1 1 n) 1 2 at') 5 1 K1') 5 2 t0') 5 3 t1') 5 4 t2') (uf (uf f 2 b) 6 g1') C T rc tl ∧ r = (shP n b).1 ∧ (r = -1 → ∃ l : List Int, shP n b = (-1, some (l, t0', t1', t2')) ∧ K1' = l.length ∧ 0 < l.length ∧ lst g1' 1 l) ∧ (0 ≤ K1' ∧ K1' ≤ 4) ∧ shI g1' ∧ (-2 ≤ r ∧ r ≤ 160) ∧ (0 ≤ at' ∧ at' ≤ n)) := by
  obtain ⟨hT1, hT2, hT3⟩ := id hT
  refine Rx.walk 0 (pc' := 0) (L' := [some (.ref 0), some (.int (iz 0)), none]) (st' := []) (h' := cxW (u2 (u2 (u2 (u2 (u2 (u2 z 1 1 n) 1 2 at_) 5 1 K1) 5 2 t0) 5 3 t1) 5 4 t2) (uf (uf f 2 b) 6 g1) C T rc tl) rfl ?_
  refine Rx.walk 5 (pc' := 9) (L' := [some (.ref 0), some (.int (iz 0)), none]) (st' := [.int (iz 0)]) (h' := cxW (u2 (u2 (u2 (u2 (u2 (u2 z 1 1 n) 1 2 0) 5 1 K1) 5 2 t0) 5 3 t1) 5 4 t2) (uf (uf f 2 b) 6 g1) C T rc tl) rfl ?_
  refine Rx.walk 1 (pc' := 36) (L' := [some (.ref 0), some (.int (iz 0)), none]) (st' := []) (h' := cxW (u2 (u2 (u2 (u2 (u2 (u2 z 1 1 n) 1 2 0) 5 1 K1) 5 2 t0) 5 3 t1) 5 4 t2) (uf (uf f 2 b) 6 g1) C T rc tl) rfl ?_
  refine Rx.walk 4 (pc' := 44) (L' := [some (.ref 0), some (.int (iz 0)), none]) (st' := [.ref 1, .ref 5]) (h' := cxW (u2 (u2 (u2 (u2 (u2 (u2 z 1 1 n) 1 2 0) 5 1 K1) 5 2 t0) 5 3 t1) 5 4 t2) (uf (uf f 2 b) 6 g1) C T rc tl) rfl ?_
  refine Rx.callx (m' := m_X7_reads) (as := [.ref 5, .ref 1]) (rest := []) rfl (x_shReads _ (u2 (u2 (u2 z 5 2 t0) 5 3 t1) 5 4 t2) f C T rc tl  n b K1 g1 hT hg hK1) (fun v11 h12 q13 => ?_)
  obtain ⟨r_1, q_2, K_3, s0_4, s1_5, s2_6, g_7, rfl, rfl, f8, f9, f10⟩ := q13
  refine Rx.walk 0 (pc' := 47) (L' := [some (.ref 0), some (.int (iz 0)), none]) (st' := [.int (iz r_1)]) (h' := cxW (u2 (u2 (u2 (u2 (u2 (u2 z 1 1 n) 1 2 q_2) 5 1 K_3) 5 2 s0_4) 5 3 s1_5) 5 4 s2_6) (uf (uf f 2 b) 6 g_7) C T rc tl) rfl ?_
  refine Rx.walk 3 (pc' := 89) (L' := [some (.ref 0), some (.int (iz 0)), some (.int (iz r_1))]) (st' := [.int (iz r_1)]) (h' := cxW (u2 (u2 (u2 (u2 (u2 (u2 z 1 1 n) 1 2 q_2) 5 1 K_3) 5 2 s0_4) 5 3 s1_5) 5 4 s2_6) (uf (uf f 2 b) 6 g_7) C T rc tl) rfl ?_
  refine Rx.eq1 rfl rfl ⟨by omega, by omega⟩ (fun b14 => ?_) (fun b14 => ?_)
  · refine Rx.walk 3 (pc' := 114) (L' := [some (.ref 0), some (.int (iz 0)), some (.int (iz r_1))]) (st' := [.int (iz q_2)]) (h' := cxW (u2 (u2 (u2 (u2 (u2 (u2 z 1 1 n) 1 2 q_2) 5 1 K_3) 5 2 s0_4) 5 3 s1_5) 5 4 s2_6) (uf (uf f 2 b) 6 g_7) C T rc tl) rfl ?_
    refine Rx.ret rfl ?_
    have hE := shR_f f8 (by omega)
    exact ⟨_, _, _, _, _, _, _, rfl, rfl, (congrArg Prod.fst hE).symm, fun q => absurd q (by omega), by omega, f10, ⟨by omega, by omega⟩, by omega⟩
  · refine Rx.walk 2 (pc' := 96) (L' := [some (.ref 0), some (.int (iz 0)), some (.int (iz r_1))]) (st' := [.ref 1]) (h' := cxW (u2 (u2 (u2 (u2 (u2 (u2 z 1 1 n) 1 2 q_2) 5 1 K_3) 5 2 s0_4) 5 3 s1_5) 5 4 s2_6) (uf (uf f 2 b) 6 g_7) C T rc tl) rfl ?_
    refine Rx.callx (m' := m_X8_sign) (as := [.ref 1]) (rest := []) rfl (x_sgn _ (u2 (u2 (u2 (u2 z 5 1 K_3) 5 2 s0_4) 5 3 s1_5) 5 4 s2_6) (uf f 6 g_7) C T rc tl  n q_2 b hT ⟨by omega, by omega⟩) (fun v21 h22 q23 => ?_)
    obtain ⟨r_15, a_16, rfl, rfl, f17, f18, f19, f20⟩ := q23
    refine Rx.walk 0 (pc' := 99) (L' := [some (.ref 0), some (.int (iz 0)), some (.int (iz r_1))]) (st' := [.int (iz r_15)]) (h' := cxW (u2 (u2 (u2 (u2 (u2 (u2 z 1 1 n) 1 2 a_16) 5 1 K_3) 5 2 s0_4) 5 3 s1_5) 5 4 s2_6) (uf (uf f 2 b) 6 g_7) C T rc tl) rfl ?_
    refine Rx.walk 1 (pc' := 100) (L' := [some (.ref 0), some (.int (iz 0)), some (.int (iz r_1))]) (st' := [.int (iz (-1)), .int (iz r_15)]) (h' := cxW (u2 (u2 (u2 (u2 (u2 (u2 z 1 1 n) 1 2 a_16) 5 1 K_3) 5 2 s0_4) 5 3 s1_5) 5 4 s2_6) (uf (uf f 2 b) 6 g_7) C T rc tl) rfl ?_
    refine Rx.ne2 rfl rfl ⟨by omega, by omega⟩ ⟨by omega, by omega⟩ (fun b24 => ?_) (fun b24 => ?_)
    · refine Rx.walk 3 (pc' := 114) (L' := [some (.ref 0), some (.int (iz 0)), some (.int (iz r_1))]) (st' := [.int (iz a_16)]) (h' := cxW (u2 (u2 (u2 (u2 (u2 (u2 z 1 1 n) 1 2 a_16) 5 1 K_3) 5 2 s0_4) 5 3 s1_5) 5 4 s2_6) (uf (uf f 2 b) 6 g_7) C T rc tl) rfl ?_
      refine Rx.ret rfl ?_
      have hE := shR_n f8 (by omega) (by rw [← f17, ← f18]; omega)
      exact ⟨_, _, _, _, _, _, _, rfl, rfl, by rw [hE]; exact f17, fun q => absurd q (by omega), by omega, f10, ⟨by omega, by omega⟩, by omega⟩
    · refine Rx.walk 2 (pc' := 114) (L' := [some (.ref 0), some (.int (iz 0)), some (.int (iz r_1))]) (st' := [.int (iz (-1))]) (h' := cxW (u2 (u2 (u2 (u2 (u2 (u2 z 1 1 n) 1 2 a_16) 5 1 K_3) 5 2 s0_4) 5 3 s1_5) 5 4 s2_6) (uf (uf f 2 b) 6 g_7) C T rc tl) rfl ?_
      refine Rx.ret rfl ?_
      obtain ⟨l, hE, hE2⟩ := shR_m f8 hT1 (by omega) (by rw [← f17, ← f18]; omega)
      exact ⟨_, _, _, _, _, _, _, rfl, rfl, (congrArg Prod.fst hE).symm, fun _ => ⟨l, hE, hE2⟩, by omega, f10, ⟨by omega, by omega⟩, by omega⟩
set_option maxRecDepth 100000 in
set_option maxHeartbeats 4000000 in
theorem x_fault1 (d : Nat) (z : Nat → Nat → Int) (f : Nat → Int → Int) (C : Nat → CuR) (T : Nat → TsR) (rc : Nat → Nat) (tl : AmH)  (n : Int) (b : Int → Int) (at_ : Int) (K : Int) (pr : Int) (co : Int) (cg : Int → Int) (hT : tOK n b) (hK : 0 ≤ K ∧ K ≤ 4) (hco : 0 ≤ co ∧ co ≤ 4) : Rx (d + 4) m_X11_fault 0 (am_ent [.ref 0, .int (iz 1)] 3) [] (cxW (u2 (u2 (u2 (u2 (u2 z 1 1 n) 1 2 at_) 3 1 K) 7 0 pr) 7 2 co) (uf (uf f 2 b) 8 cg) C T rc tl) (fun rv h => ∃ r : Int, ∃ at' : Int, ∃ pr' : Int, ∃ co' : Int, ∃ cg' : Int → Int, rv = some (.int (iz r)) ∧ h = cxW (u2 (u2 (u2 (u2 (u2 z 1 1 n) 1 2 at') 3 1 K) 7 0 pr') 7 2 co') (uf (uf f 2 b) 8 cg') C T rc tl ∧ r = (cuP n b (k4 K)).1 ∧ (r = -1 → ∃ l : List Int, cuP n b (k4 K) = (-1, some (pr', l)) ∧ l ≠ [] ∧ co' = l.length ∧ lst cg' 0 (insL l [])) ∧ (0 ≤ co' ∧ co' ≤ 4) ∧ (-2 ≤ r ∧ r ≤ 160) ∧ (0 ≤ at' ∧ at' ≤ n)) := by
  obtain ⟨hT1, hT2, hT3⟩ := id hT
  refine Rx.walk 0 (pc' := 0) (L' := [some (.ref 0), some (.int (iz 1)), none]) (st' := []) (h' := cxW (u2 (u2 (u2 (u2 (u2 z 1 1 n) 1 2 at_) 3 1 K) 7 0 pr) 7 2 co) (uf (uf f 2 b) 8 cg) C T rc tl) rfl ?_
  refine Rx.walk 5 (pc' := 9) (L' := [some (.ref 0), some (.int (iz 1)), none]) (st' := [.int (iz 1)]) (h' := cxW (u2 (u2 (u2 (u2 (u2 z 1 1 n) 1 2 0) 3 1 K) 7 0 pr) 7 2 co) (uf (uf f 2 b) 8 cg) C T rc tl) rfl ?_
  refine Rx.walk 1 (pc' := 51) (L' := [some (.ref 0), some (.int (iz 1)), none]) (st' := []) (h' := cxW (u2 (u2 (u2 (u2 (u2 z 1 1 n) 1 2 0) 3 1 K) 7 0 pr) 7 2 co) (uf (uf f 2 b) 8 cg) C T rc tl) rfl ?_
  refine Rx.walk 6 (pc' := 63) (L' := [some (.ref 0), some (.int (iz 1)), none]) (st' := [.ref 3, .ref 1, .ref 7]) (h' := cxW (u2 (u2 (u2 (u2 (u2 z 1 1 n) 1 2 0) 3 1 K) 7 0 pr) 7 2 co) (uf (uf f 2 b) 8 cg) C T rc tl) rfl ?_
  refine Rx.callx (m' := m_X2_reads) (as := [.ref 7, .ref 1, .ref 3]) (rest := []) rfl (x_cReads _ z f C T rc tl  n b K pr co cg hT hK hco) (fun v8 h9 q10 => ?_)
  obtain ⟨r_1, a_2, pr_3, co_4, g_5, rfl, rfl, f6, f7⟩ := q10
  refine Rx.walk 0 (pc' := 66) (L' := [some (.ref 0), some (.int (iz 1)), none]) (st' := [.int (iz r_1)]) (h' := cxW (u2 (u2 (u2 (u2 (u2 z 1 1 n) 1 2 a_2) 3 1 K) 7 0 pr_3) 7 2 co_4) (uf (uf f 2 b) 8 g_5) C T rc tl) rfl ?_
  refine Rx.walk 3 (pc' := 89) (L' := [some (.ref 0), some (.int (iz 1)), some (.int (iz r_1))]) (st' := [.int (iz r_1)]) (h' := cxW (u2 (u2 (u2 (u2 (u2 z 1 1 n) 1 2 a_2) 3 1 K) 7 0 pr_3) 7 2 co_4) (uf (uf f 2 b) 8 g_5) C T rc tl) rfl ?_
  refine Rx.eq1 rfl rfl ⟨by omega, by omega⟩ (fun b11 => ?_) (fun b11 => ?_)
  · refine Rx.walk 3 (pc' := 114) (L' := [some (.ref 0), some (.int (iz 1)), some (.int (iz r_1))]) (st' := [.int (iz a_2)]) (h' := cxW (u2 (u2 (u2 (u2 (u2 z 1 1 n) 1 2 a_2) 3 1 K) 7 0 pr_3) 7 2 co_4) (uf (uf f 2 b) 8 g_5) C T rc tl) rfl ?_
    refine Rx.ret rfl ?_
    have hE := cuR_f f6 (by omega)
    exact ⟨_, _, _, _, _, rfl, rfl, (congrArg Prod.fst hE).symm, fun q => absurd q (by omega), by omega, ⟨by omega, by omega⟩, by omega⟩
  · refine Rx.walk 2 (pc' := 96) (L' := [some (.ref 0), some (.int (iz 1)), some (.int (iz r_1))]) (st' := [.ref 1]) (h' := cxW (u2 (u2 (u2 (u2 (u2 z 1 1 n) 1 2 a_2) 3 1 K) 7 0 pr_3) 7 2 co_4) (uf (uf f 2 b) 8 g_5) C T rc tl) rfl ?_
    refine Rx.callx (m' := m_X8_sign) (as := [.ref 1]) (rest := []) rfl (x_sgn _ (u2 (u2 (u2 z 3 1 K) 7 0 pr_3) 7 2 co_4) (uf f 8 g_5) C T rc tl  n a_2 b hT ⟨by omega, by omega⟩) (fun v18 h19 q20 => ?_)
    obtain ⟨r_12, a_13, rfl, rfl, f14, f15, f16, f17⟩ := q20
    refine Rx.walk 0 (pc' := 99) (L' := [some (.ref 0), some (.int (iz 1)), some (.int (iz r_1))]) (st' := [.int (iz r_12)]) (h' := cxW (u2 (u2 (u2 (u2 (u2 z 1 1 n) 1 2 a_13) 3 1 K) 7 0 pr_3) 7 2 co_4) (uf (uf f 2 b) 8 g_5) C T rc tl) rfl ?_
    refine Rx.walk 1 (pc' := 100) (L' := [some (.ref 0), some (.int (iz 1)), some (.int (iz r_1))]) (st' := [.int (iz (-1)), .int (iz r_12)]) (h' := cxW (u2 (u2 (u2 (u2 (u2 z 1 1 n) 1 2 a_13) 3 1 K) 7 0 pr_3) 7 2 co_4) (uf (uf f 2 b) 8 g_5) C T rc tl) rfl ?_
    refine Rx.ne2 rfl rfl ⟨by omega, by omega⟩ ⟨by omega, by omega⟩ (fun b21 => ?_) (fun b21 => ?_)
    · refine Rx.walk 3 (pc' := 114) (L' := [some (.ref 0), some (.int (iz 1)), some (.int (iz r_1))]) (st' := [.int (iz a_13)]) (h' := cxW (u2 (u2 (u2 (u2 (u2 z 1 1 n) 1 2 a_13) 3 1 K) 7 0 pr_3) 7 2 co_4) (uf (uf f 2 b) 8 g_5) C T rc tl) rfl ?_
      refine Rx.ret rfl ?_
      have hE := cuR_n f6 (by omega) (by rw [← f14, ← f15]; omega)
      exact ⟨_, _, _, _, _, rfl, rfl, by rw [hE]; exact f14, fun q => absurd q (by omega), by omega, ⟨by omega, by omega⟩, by omega⟩
    · refine Rx.walk 2 (pc' := 114) (L' := [some (.ref 0), some (.int (iz 1)), some (.int (iz r_1))]) (st' := [.int (iz (-1))]) (h' := cxW (u2 (u2 (u2 (u2 (u2 z 1 1 n) 1 2 a_13) 3 1 K) 7 0 pr_3) 7 2 co_4) (uf (uf f 2 b) 8 g_5) C T rc tl) rfl ?_
      refine Rx.ret rfl ?_
      obtain ⟨l, hE, hE2⟩ := cuR_m f6 (by omega) (by rw [← f14, ← f15]; omega)
      exact ⟨_, _, _, _, _, rfl, rfl, (congrArg Prod.fst hE).symm, fun _ => ⟨l, hE, hE2⟩, by omega, ⟨by omega, by omega⟩, by omega⟩
set_option maxRecDepth 100000 in
set_option maxHeartbeats 4000000 in
theorem x_fault2 (d : Nat) (z : Nat → Nat → Int) (f : Nat → Int → Int) (C : Nat → CuR) (T : Nat → TsR) (rc : Nat → Nat) (tl : AmH)  (n : Int) (b : Int → Int) (at_ : Int) (sz : Int) (cd : Int → Int) (Rt : RuT) (hT : tOK n b) (hRt : Rt = ruleL n b 161 0) : Rx (d + 35) m_X11_fault 0 (am_ent [.ref 0, .int (iz 2)] 3) [] (cxW (u2 (u2 (u2 z 1 1 n) 1 2 at_) 12 1 sz) (uf (uf f 2 b) 13 cd) C T rc tl) (fun rv h => ∃ r : Int, ∃ at' : Int, ∃ sz' : Int, ∃ cd' : Int → Int, rv = some (.int (iz r)) ∧ h = cxW (u2 (u2 (u2 z 1 1 n) 1 2 at') 12 1 sz') (uf (uf f 2 b) 13 cd') C T rc tl ∧ ruF n b Rt r ∧ (r = -1 → (sz' = Rt.2.2.1.length ∧ lsI sz'.toNat cd' = Rt.2.2.1)) ∧ (0 ≤ sz' ∧ sz' ≤ 161) ∧ (-2 ≤ r ∧ r ≤ 160) ∧ (0 ≤ at' ∧ at' ≤ n)) := by
  obtain ⟨hT1, hT2, hT3⟩ := id hT
  have hsk : Rt.1 = true → sks n b Rt.2.1 = Rt.2.1 := by rw [hRt]; exact ruleL_sk 161 0
  refine Rx.walk 0 (pc' := 0) (L' := [some (.ref 0), some (.int (iz 2)), none]) (st' := []) (h' := cxW (u2 (u2 (u2 z 1 1 n) 1 2 at_) 12 1 sz) (uf (uf f 2 b) 13 cd) C T rc tl) rfl ?_
  refine Rx.walk 5 (pc' := 9) (L' := [some (.ref 0), some (.int (iz 2)), none]) (st' := [.int (iz 2)]) (h' := cxW (u2 (u2 (u2 z 1 1 n) 1 2 0) 12 1 sz) (uf (uf f 2 b) 13 cd) C T rc tl) rfl ?_
  refine Rx.walk 1 (pc' := 70) (L' := [some (.ref 0), some (.int (iz 2)), none]) (st' := []) (h' := cxW (u2 (u2 (u2 z 1 1 n) 1 2 0) 12 1 sz) (uf (uf f 2 b) 13 cd) C T rc tl) rfl ?_
  refine Rx.walk 4 (pc' := 78) (L' := [some (.ref 0), some (.int (iz 2)), none]) (st' := [.ref 1, .ref 12]) (h' := cxW (u2 (u2 (u2 z 1 1 n) 1 2 0) 12 1 sz) (uf (uf f 2 b) 13 cd) C T rc tl) rfl ?_
  refine Rx.callx (m' := m_X6_reads) (as := [.ref 12, .ref 1]) (rest := []) rfl (x_rReads _ z f C T rc tl  n b sz cd hT) (fun v7 h8 q9 => ?_)
  obtain ⟨r_1, a_2, sz_3, cd_4, rfl, rfl, f5, f6⟩ := q9
  refine Rx.walk 0 (pc' := 81) (L' := [some (.ref 0), some (.int (iz 2)), none]) (st' := [.int (iz r_1)]) (h' := cxW (u2 (u2 (u2 z 1 1 n) 1 2 a_2) 12 1 sz_3) (uf (uf f 2 b) 13 cd_4) C T rc tl) rfl ?_
  refine Rx.walk 3 (pc' := 89) (L' := [some (.ref 0), some (.int (iz 2)), some (.int (iz r_1))]) (st' := [.int (iz r_1)]) (h' := cxW (u2 (u2 (u2 z 1 1 n) 1 2 a_2) 12 1 sz_3) (uf (uf f 2 b) 13 cd_4) C T rc tl) rfl ?_
  refine Rx.eq1 rfl rfl ⟨by omega, by omega⟩ (fun b10 => ?_) (fun b10 => ?_)
  · refine Rx.walk 3 (pc' := 114) (L' := [some (.ref 0), some (.int (iz 2)), some (.int (iz r_1))]) (st' := [.int (iz a_2)]) (h' := cxW (u2 (u2 (u2 z 1 1 n) 1 2 a_2) 12 1 sz_3) (uf (uf f 2 b) 13 cd_4) C T rc tl) rfl ?_
    refine Rx.ret rfl ?_
    have hR1 : rlR n b Rt [] r_1 a_2 sz_3 cd_4 := by rw [hRt]; exact f5
    obtain ⟨hE1, hE2⟩ := rlX_f hR1 (by omega)
    exact ⟨_, _, _, _, rfl, rfl, Or.inr ⟨hE1, hE2, by omega⟩, fun q => absurd q (by omega), by omega, ⟨by omega, by omega⟩, by omega⟩
  · refine Rx.walk 2 (pc' := 96) (L' := [some (.ref 0), some (.int (iz 2)), some (.int (iz r_1))]) (st' := [.ref 1]) (h' := cxW (u2 (u2 (u2 z 1 1 n) 1 2 a_2) 12 1 sz_3) (uf (uf f 2 b) 13 cd_4) C T rc tl) rfl ?_
    refine Rx.callx (m' := m_X8_sign) (as := [.ref 1]) (rest := []) rfl (x_sgn _ (u2 z 12 1 sz_3) (uf f 13 cd_4) C T rc tl  n a_2 b hT ⟨by omega, by omega⟩) (fun v17 h18 q19 => ?_)
    obtain ⟨r_11, a_12, rfl, rfl, f13, f14, f15, f16⟩ := q19
    refine Rx.walk 0 (pc' := 99) (L' := [some (.ref 0), some (.int (iz 2)), some (.int (iz r_1))]) (st' := [.int (iz r_11)]) (h' := cxW (u2 (u2 (u2 z 1 1 n) 1 2 a_12) 12 1 sz_3) (uf (uf f 2 b) 13 cd_4) C T rc tl) rfl ?_
    refine Rx.walk 1 (pc' := 100) (L' := [some (.ref 0), some (.int (iz 2)), some (.int (iz r_1))]) (st' := [.int (iz (-1)), .int (iz r_11)]) (h' := cxW (u2 (u2 (u2 z 1 1 n) 1 2 a_12) 12 1 sz_3) (uf (uf f 2 b) 13 cd_4) C T rc tl) rfl ?_
    refine Rx.ne2 rfl rfl ⟨by omega, by omega⟩ ⟨by omega, by omega⟩ (fun b20 => ?_) (fun b20 => ?_)
    · refine Rx.walk 3 (pc' := 114) (L' := [some (.ref 0), some (.int (iz 2)), some (.int (iz r_1))]) (st' := [.int (iz a_12)]) (h' := cxW (u2 (u2 (u2 z 1 1 n) 1 2 a_12) 12 1 sz_3) (uf (uf f 2 b) 13 cd_4) C T rc tl) rfl ?_
      refine Rx.ret rfl ?_
      have hR1 : rlR n b Rt [] r_1 a_2 sz_3 cd_4 := by rw [hRt]; exact f5
      obtain ⟨hE1, hE2⟩ := rlX_n hR1 hsk (by omega) (by rw [← f13, ← f14]; omega)
      exact ⟨_, _, _, _, rfl, rfl, Or.inr ⟨hE1, by rw [← hE2]; exact f13, by omega⟩, fun q => absurd q (by omega), by omega, ⟨by omega, by omega⟩, by omega⟩
    · refine Rx.walk 2 (pc' := 114) (L' := [some (.ref 0), some (.int (iz 2)), some (.int (iz r_1))]) (st' := [.int (iz (-1))]) (h' := cxW (u2 (u2 (u2 z 1 1 n) 1 2 a_12) 12 1 sz_3) (uf (uf f 2 b) 13 cd_4) C T rc tl) rfl ?_
      refine Rx.ret rfl ?_
      have hR1 : rlR n b Rt [] r_1 a_2 sz_3 cd_4 := by rw [hRt]; exact f5
      obtain ⟨hE1, hE2, hE3, hE4⟩ := rlX_m hR1 hsk (by omega) (by rw [← f13, ← f14]; omega)
      exact ⟨_, _, _, _, rfl, rfl, Or.inl ⟨hE1, hE2, rfl⟩, fun _ => ⟨hE3, hE4⟩, by omega, ⟨by omega, by omega⟩, by omega⟩
set_option maxRecDepth 100000 in
set_option maxHeartbeats 4000000 in
theorem x_faultD (d : Nat) (z : Nat → Nat → Int) (f : Nat → Int → Int) (C : Nat → CuR) (T : Nat → TsR) (rc : Nat → Nat) (tl : AmH)  (n : Int) (b : Int → Int) (at_ : Int) (so : Int) (hso : bI so) (hsD : ¬ (0 ≤ so ∧ so ≤ 2)) : Rx (d) m_X11_fault 0 (am_ent [.ref 0, .int (iz so)] 3) [] (cxW (u2 (u2 z 1 1 n) 1 2 at_) (uf f 2 b) C T rc tl) (fun rv h => rv = some (.int (iz (-2))) ∧ h = cxW (u2 (u2 z 1 1 n) 1 2 0) (uf f 2 b) C T rc tl) := by
  obtain ⟨hso1, hso2⟩ := id hso
  refine Rx.walk 0 (pc' := 0) (L' := [some (.ref 0), some (.int (iz so)), none]) (st' := []) (h' := cxW (u2 (u2 z 1 1 n) 1 2 at_) (uf f 2 b) C T rc tl) rfl ?_
  refine Rx.walk 5 (pc' := 9) (L' := [some (.ref 0), some (.int (iz so)), none]) (st' := [.int (iz so)]) (h' := cxW (u2 (u2 z 1 1 n) 1 2 0) (uf f 2 b) C T rc tl) rfl ?_
  refine Rx.tsd rfl rfl ⟨by omega, by omega⟩ (by omega) ?_
  refine Rx.walk 1 (pc' := 87) (L' := [some (.ref 0), some (.int (iz so)), none]) (st' := [.int (iz (-2))]) (h' := cxW (u2 (u2 z 1 1 n) 1 2 0) (uf f 2 b) C T rc tl) rfl ?_
  refine Rx.ret rfl ?_
  exact ⟨rfl, rfl⟩

/-! rules: conditions read by the class (printed by wip/whole/gencnd.py) -/
theorem cmpS_b (c : Int) : -7 ≤ cmpS c ∧ cmpS c ≤ 0 := by
  unfold cmpS
  split
  · omega
  · split
    · omega
    · split <;> omega
set_option maxRecDepth 100000 in
set_option maxHeartbeats 4000000 in
theorem x_unit_b (d : Nat) (z : Nat → Nat → Int) (f : Nat → Int → Int) (C : Nat → CuR) (T : Nat → TsR) (rc : Nat → Nat) (tl : AmH) (D rr : Nat) (hS : ∀ (d : Nat) (z : Nat → Nat → Int) (f : Nat → Int → Int) (C : Nat → CuR) (T : Nat → TsR) (rc : Nat → Nat) (tl : AmH)  (dp : Int) (n : Int) (a : Int) (b : Int → Int) (sz : Int) (cd : Int → Int) (hT : tOK n b) (ha : 0 ≤ a ∧ a ≤ n) (hs : 0 ≤ sz ∧ sz ≤ a) (hdp : 0 ≤ dp ∧ dp = 6 - (rr : Int)), Rx (d + (D + 2)) m_X6_readsSum 0 (am_ent [.ref 12, .ref 1, .int (iz dp)] 5) [] (cxW (u2 (u2 (u2 z 1 1 n) 1 2 a) 12 1 sz) (uf (uf f 2 b) 13 cd) C T rc tl) (fun rv h => ∃ r : Int, ∃ a' : Int, ∃ sz' : Int, ∃ cd' : Int → Int, rv = some (.int (iz r)) ∧ h = cxW (u2 (u2 (u2 z 1 1 n) 1 2 a') 12 1 sz') (uf (uf f 2 b) 13 cd') C T rc tl ∧ rdR n b (sumR n b rr a) sz cd r a' sz' cd' ∧ ((r = 0 ∨ r = 1) ∧ (a ≤ a' ∧ a' ≤ n) ∧ (0 ≤ sz' ∧ sz' ≤ 161)))) (dp : Int) (bg : Int) (n : Int) (a : Int) (b : Int → Int) (sz : Int) (cd : Int → Int) (sz0 : Int) (cd0 : Int → Int) (a0 : Int) (qq : RsT) (w4 : Option Value) (hT : tOK n b) (ha : 0 ≤ a ∧ a ≤ n) (ha0 : a0 ≤ a) (hdp : 0 ≤ dp ∧ dp = 6 - (rr : Int)) (hz0 : 0 ≤ sz0 ∧ sz0 ≤ a0) (hs : 0 ≤ sz ∧ sz ≤ 161) (hR : rdR n b qq sz0 cd0 1 a sz cd) (hsa : qq.1 = true → sz ≤ a) (P : Option Value → AmH → Prop) (hx0 : ∀ (r : Int) (a' : Int) (sz' : Int) (cd' : Int → Int), (rdR n b (cmpG n b (sumR n b rr) qq) sz0 cd0 r a' sz' cd') → ((r = 0 ∨ r = 1) ∧ (a0 ≤ a' ∧ a' ≤ n) ∧ (0 ≤ sz' ∧ sz' ≤ 161)) → P (some (.int (iz r))) (cxW (u2 (u2 (u2 z 1 1 n) 1 2 a') 12 1 sz') (uf (uf f 2 b) 13 cd') C T rc tl)) : ∀ (kF : Nat), 0 < (kF : Int) → Rx (d + (D + 3)) m_X6_readsUnit 44 [some (.ref 12), some (.ref 1), some (.int (iz dp)), some (.int (iz bg)), w4] [] (cxW (u2 (u2 (u2 z 1 1 n) 1 2 a) 12 1 sz) (uf (uf f 2 b) 13 cd) C T rc tl) P := by
  obtain ⟨hT1, hT2, hT3⟩ := id hT
  have hrr : 0 ≤ (rr : Int) := by omega
  intro kF
  induction kF with
  | zero =>
    intro   hk
    exfalso; omega
  | succ kF ih =>
    intro   hk
    refine Rx.walk 1 (pc' := 45) (L' := [some (.ref 12), some (.ref 1), some (.int (iz dp)), some (.int (iz bg)), w4]) (st' := [.ref 1]) (h' := cxW (u2 (u2 (u2 z 1 1 n) 1 2 a) 12 1 sz) (uf (uf f 2 b) 13 cd) C T rc tl) rfl ?_
    refine Rx.callx (m' := m_X8_sign) (as := [.ref 1]) (rest := []) rfl (x_sgn _ (u2 (u2 (u2 z 1 1 n) 1 2 a) 12 1 sz) (uf (uf f 2 b) 13 cd) C T rc tl  n a b hT ha) (fun v7 h8 q9 => ?_)
    obtain ⟨r_1, a_2, rfl, rfl, f3, f4, f5, f6⟩ := q9
    refine Rx.walk 0 (pc' := 48) (L' := [some (.ref 12), some (.ref 1), some (.int (iz dp)), some (.int (iz bg)), w4]) (st' := [.int (iz r_1)]) (h' := cxW (u2 (u2 (u2 z 1 1 n) 1 2 a_2) 12 1 sz) (uf (uf f 2 b) 13 cd) C T rc tl) rfl ?_
    refine Rx.callx (m' := m_X6_comparison) (as := [.int (iz r_1)]) (rest := []) rfl (n_cmp _ (cxW (u2 (u2 (u2 z 1 1 n) 1 2 a_2) 12 1 sz) (uf (uf f 2 b) 13 cd) C T rc tl)  r_1 (by first | assumption | omega)) (fun v12 h13 q14 => ?_)
    obtain ⟨r_10, rfl, rfl, f11⟩ := q14
    refine Rx.walk 0 (pc' := 51) (L' := [some (.ref 12), some (.ref 1), some (.int (iz dp)), some (.int (iz bg)), w4]) (st' := [.int (iz r_10)]) (h' := cxW (u2 (u2 (u2 z 1 1 n) 1 2 a_2) 12 1 sz) (uf (uf f 2 b) 13 cd) C T rc tl) rfl ?_
    have hcb := cmpS_b r_1
    rw [← f11] at hcb
    refine Rx.walk 2 (pc' := 55) (L' := [some (.ref 12), some (.ref 1), some (.int (iz dp)), some (.int (iz bg)), some (.int (iz r_10))]) (st' := [.int (iz r_10)]) (h' := cxW (u2 (u2 (u2 z 1 1 n) 1 2 a_2) 12 1 sz) (uf (uf f 2 b) 13 cd) C T rc tl) rfl ?_
    refine Rx.ne1 rfl rfl ⟨by omega, by omega⟩ (fun b15 => ?_) (fun b15 => ?_)
    · have hcs := cmpS_0 (show cmpS r_1 ≠ 0 by rw [← f11]; omega)
      have hok : qq.1 = true ∧ a = qq.2.1 ∧ sz = sz0 + qq.2.2.1.length ∧ lsI sz.toNat cd = lsI sz0.toNat cd0 ++ qq.2.2.1 := by
        rcases hR with ⟨z1, z2, z3, z4, z5⟩ | ⟨z1, z2, z3, z4⟩
        · exact ⟨z1, z3, z4, z5⟩
        · exfalso
          have hdg := z4.elim (fun z => absurd z (by decide)) (fun z => z.2)
          have hdx := isD_sg.mp hdg
          have hsk : sks n b a = a := sks_at (by have := (isD_t.mp hdg); omega)
          rw [hsk] at f3
          rw [f3] at f4
          omega
      obtain ⟨hok1, hok2, hok3, hok4⟩ := hok
      have hlt : a_2 < n := by rcases Int.lt_or_le a_2 n with q | q; exact q; (exfalso; rw [sg_ge q] at f4; omega)
      have hsz := hsa hok1
      have hqo := sumR_ok (n := n) (b := b) rr (a_2 + 1) (by omega) (by omega)
      have ec : sg n b (sks n b qq.2.1) = r_1 := by rw [← hok2, ← f3]; exact f4.symm
      have hE2 : cmpG n b (sumR n b rr) qq = opN qq (sumR n b rr (a_2 + 1)) r_10 := by unfold cmpG; rw [if_pos hok1, ec, ← f11, if_neg (by omega), ← hok2, ← f3]
      refine Rx.walk 4 (pc' := 66) (L' := [some (.ref 12), some (.ref 1), some (.int (iz dp)), some (.int (iz bg)), some (.int (iz r_10))]) (st' := [.int (iz 1), .int (iz a_2), .ref 1]) (h' := cxW (u2 (u2 (u2 z 1 1 n) 1 2 a_2) 12 1 sz) (uf (uf f 2 b) 13 cd) C T rc tl) rfl ?_
      refine Rx.iadd rfl ?_
      refine Rx.walk 4 (pc' := 73) (L' := [some (.ref 12), some (.ref 1), some (.int (iz dp)), some (.int (iz bg)), some (.int (iz r_10))]) (st' := [.int (iz dp), .ref 1, .ref 12]) (h' := cxW (u2 (u2 (u2 z 1 1 n) 1 2 (a_2 + 1)) 12 1 sz) (uf (uf f 2 b) 13 cd) C T rc tl) rfl ?_
      refine Rx.callx (m' := m_X6_readsSum) (as := [.ref 12, .ref 1, .int (iz dp)]) (rest := []) rfl (hS _ (u2 (u2 (u2 z 1 1 n) 1 2 (a_2 + 1)) 12 1 sz) (uf (uf f 2 b) 13 cd) C T rc tl  dp n (a_2 + 1) b sz cd hT ⟨by omega, by omega⟩ ⟨by omega, by omega⟩ hdp) (fun v22 h23 q24 => ?_)
      obtain ⟨r_16, a_17, sz_18, cd_19, rfl, rfl, f20, f21⟩ := q24
      refine Rx.walk 0 (pc' := 76) (L' := [some (.ref 12), some (.ref 1), some (.int (iz dp)), some (.int (iz bg)), some (.int (iz r_10))]) (st' := [.int (iz r_16)]) (h' := cxW (u2 (u2 (u2 z 1 1 n) 1 2 a_17) 12 1 sz_18) (uf (uf f 2 b) 13 cd_19) C T rc tl) rfl ?_
      obtain ⟨hq24, hr24, hu24⟩ := id f21
      refine Rx.ne1 rfl rfl ⟨by omega, by omega⟩ (fun b25 => ?_) (fun b25 => ?_)
      · refine Rx.walk 2 (pc' := 84) (L' := [some (.ref 12), some (.ref 1), some (.int (iz dp)), some (.int (iz bg)), some (.int (iz r_10))]) (st' := [.int (iz r_10), .ref 12]) (h' := cxW (u2 (u2 (u2 z 1 1 n) 1 2 a_17) 12 1 sz_18) (uf (uf f 2 b) 13 cd_19) C T rc tl) rfl ?_
        refine Rx.callx (m' := m_X6_emit) (as := [.ref 12, .int (iz r_10)]) (rest := []) rfl (x_emit _ (u2 (u2 (u2 z 1 1 n) 1 2 a_17) 12 1 sz_18) (uf (uf f 2 b) 13 cd_19) C T rc tl  r_10 sz_18 cd_19 (by first | assumption | omega)) (fun v29 h30 q31 => ?_)
        obtain ⟨sz_26, cd_27, rfl, rfl, f28⟩ := q31
        refine Rx.walk 0 (pc' := 87) (L' := [some (.ref 12), some (.ref 1), some (.int (iz dp)), some (.int (iz bg)), some (.int (iz r_10))]) (st' := []) (h' := cxW (u2 (u2 (u2 z 1 1 n) 1 2 a_17) 12 1 sz_26) (uf (uf f 2 b) 13 cd_27) C T rc tl) rfl ?_
        have heb : 0 ≤ sz_26 ∧ sz_26 ≤ 161 := by rcases f28 with z | z <;> omega
        refine Rx.walk 1 (pc' := 88) (L' := [some (.ref 12), some (.ref 1), some (.int (iz dp)), some (.int (iz bg)), some (.int (iz r_10))]) (st' := [.int (iz 1)]) (h' := cxW (u2 (u2 (u2 z 1 1 n) 1 2 a_17) 12 1 sz_26) (uf (uf f 2 b) 13 cd_27) C T rc tl) rfl ?_
        refine Rx.ret rfl ?_
        exact hx0 _ _ _ _ (by rw [hE2]; exact rdR_op hz0.1 hok3 hok4 (by have z := f20; rw [show r_16 = 1 by omega] at z; exact z) f28 (fun z => by rcases f20 with y | y; (have := hqo.2.2 z; have := y.2.2.2.1; omega); exact absurd (z.symm.trans y.1) (by decide))) ⟨Or.inr rfl, by omega, by omega⟩
      · refine Rx.walk 1 (pc' := 80) (L' := [some (.ref 12), some (.ref 1), some (.int (iz dp)), some (.int (iz bg)), some (.int (iz r_10))]) (st' := [.int (iz 0)]) (h' := cxW (u2 (u2 (u2 z 1 1 n) 1 2 a_17) 12 1 sz_18) (uf (uf f 2 b) 13 cd_19) C T rc tl) rfl ?_
        refine Rx.ret rfl ?_
        exact hx0 _ _ _ _ (by rcases f20 with z | ⟨z1, z2, z3, z4⟩; (exfalso; have := z.2.1; omega); (rw [hE2]; unfold opN; rw [if_neg (by rw [z1]; decide)]; exact Or.inr ⟨rfl, z2, z3, Or.inl rfl⟩)) ⟨Or.inl rfl, by omega, by omega⟩
    · refine Rx.walk 1 (pc' := 59) (L' := [some (.ref 12), some (.ref 1), some (.int (iz dp)), some (.int (iz bg)), some (.int (iz r_10))]) (st' := [.int (iz 0)]) (h' := cxW (u2 (u2 (u2 z 1 1 n) 1 2 a_2) 12 1 sz) (uf (uf f 2 b) 13 cd) C T rc tl) rfl ?_
      refine Rx.ret rfl ?_
      exact hx0 _ _ _ _ (by rcases hR with ⟨z1, z2, z3, z4, z5⟩ | ⟨z1, z2, z3, z4⟩; (have ec : sg n b (sks n b qq.2.1) = r_1 := (by rw [← z3, ← f3]; exact f4.symm); have e : cmpG n b (sumR n b rr) qq = rsF (sks n b qq.2.1) := (by unfold cmpG; rw [if_pos z1, ec, ← f11, if_pos (by omega)]); rw [e]; exact Or.inr ⟨rfl, by rw [f3, z3]; rfl, by omega, Or.inl rfl⟩); (have hdg := z4.elim (fun z => absurd z (by decide)) (fun z => z.2); have hsk : sks n b a = a := sks_at (by have := (isD_t.mp hdg); omega); have e : cmpG n b (sumR n b rr) qq = rsF qq.2.1 := (by unfold cmpG; rw [if_neg (by rw [z1]; decide)]); rw [e]; exact Or.inr ⟨rfl, by rw [f3, hsk]; exact z2, z3, Or.inl rfl⟩)) ⟨Or.inl rfl, by omega, by omega⟩
set_option maxRecDepth 100000 in
set_option maxHeartbeats 4000000 in
theorem x_rInner0 (d : Nat) (z : Nat → Nat → Int) (f : Nat → Int → Int) (C : Nat → CuR) (T : Nat → TsR) (rc : Nat → Nat) (tl : AmH) (D : Nat) (fi : Int) (dp : Int) (n : Int) (a : Int) (b : Int → Int) (sz : Int) (cd : Int → Int) (hT : tOK n b) (ha : 0 ≤ a ∧ a ≤ n) (hs : 0 ≤ sz ∧ sz ≤ a) (hdp : dp = 6) (hfi : (fi = 33 ∨ fi = 40) ∧ a < n) : Rx (d + (D + 2)) m_X6_readsInner 0 (am_ent [.ref 12, .ref 1, .int (iz dp), .int (iz fi)] 4) [] (cxW (u2 (u2 (u2 z 1 1 n) 1 2 a) 12 1 sz) (uf (uf f 2 b) 13 cd) C T rc tl) (fun rv h => ∃ r : Int, ∃ a' : Int, ∃ sz' : Int, ∃ cd' : Int → Int, rv = some (.int (iz r)) ∧ h = cxW (u2 (u2 (u2 z 1 1 n) 1 2 a') 12 1 sz') (uf (uf f 2 b) 13 cd') C T rc tl ∧ ((fi = 33 → rdR n b (rsF a) sz cd r a' sz' cd') ∧ (fi = 40 → rdR n b (rsF a) sz cd r a' sz' cd')) ∧ ((r = 0 ∨ r = 1) ∧ (a ≤ a' ∧ a' ≤ n) ∧ (0 ≤ sz' ∧ sz' ≤ 161))) := by
  obtain ⟨hT1, hT2, hT3⟩ := id hT
  refine Rx.walk 0 (pc' := 0) (L' := [some (.ref 12), some (.ref 1), some (.int (iz dp)), some (.int (iz fi))]) (st' := []) (h' := cxW (u2 (u2 (u2 z 1 1 n) 1 2 a) 12 1 sz) (uf (uf f 2 b) 13 cd) C T rc tl) rfl ?_
  refine Rx.walk 2 (pc' := 3) (L' := [some (.ref 12), some (.ref 1), some (.int (iz dp)), some (.int (iz fi))]) (st' := [.int (iz 6), .int (iz dp)]) (h' := cxW (u2 (u2 (u2 z 1 1 n) 1 2 a) 12 1 sz) (uf (uf f 2 b) 13 cd) C T rc tl) rfl ?_
  refine Rx.lt2 rfl rfl ⟨by omega, by omega⟩ ⟨by omega, by omega⟩ (fun b1 => by omega) (fun b1 => ?_)
  refine Rx.walk 1 (pc' := 7) (L' := [some (.ref 12), some (.ref 1), some (.int (iz dp)), some (.int (iz fi))]) (st' := [.int (iz 0)]) (h' := cxW (u2 (u2 (u2 z 1 1 n) 1 2 a) 12 1 sz) (uf (uf f 2 b) 13 cd) C T rc tl) rfl ?_
  refine Rx.ret rfl ?_
  exact ⟨_, _, _, _, rfl, rfl, ⟨fun _ => Or.inr ⟨rfl, rfl, by omega, Or.inl rfl⟩, fun _ => Or.inr ⟨rfl, rfl, by omega, Or.inl rfl⟩⟩, Or.inl rfl, by omega, by omega⟩
set_option maxRecDepth 100000 in
set_option maxHeartbeats 4000000 in
theorem x_rInner1 (d : Nat) (z : Nat → Nat → Int) (f : Nat → Int → Int) (C : Nat → CuR) (T : Nat → TsR) (rc : Nat → Nat) (tl : AmH) (D rr : Nat) (hU : ∀ (d : Nat) (z : Nat → Nat → Int) (f : Nat → Int → Int) (C : Nat → CuR) (T : Nat → TsR) (rc : Nat → Nat) (tl : AmH)  (dp : Int) (n : Int) (a : Int) (b : Int → Int) (sz : Int) (cd : Int → Int) (hT : tOK n b) (ha : 0 ≤ a ∧ a ≤ n) (hs : 0 ≤ sz ∧ sz ≤ a) (hdp : 0 ≤ dp ∧ dp = 6 - (rr : Int)), Rx (d + (D + 2)) m_X6_readsUnit 0 (am_ent [.ref 12, .ref 1, .int (iz dp), .int (iz 0)] 5) [] (cxW (u2 (u2 (u2 z 1 1 n) 1 2 a) 12 1 sz) (uf (uf f 2 b) 13 cd) C T rc tl) (fun rv h => ∃ r : Int, ∃ a' : Int, ∃ sz' : Int, ∃ cd' : Int → Int, rv = some (.int (iz r)) ∧ h = cxW (u2 (u2 (u2 z 1 1 n) 1 2 a') 12 1 sz') (uf (uf f 2 b) 13 cd') C T rc tl ∧ rdR n b (unitR n b rr a) sz cd r a' sz' cd' ∧ ((r = 0 ∨ r = 1) ∧ (a ≤ a' ∧ a' ≤ n) ∧ (0 ≤ sz' ∧ sz' ≤ 161)))) (hC : ∀ (d : Nat) (z : Nat → Nat → Int) (f : Nat → Int → Int) (C : Nat → CuR) (T : Nat → TsR) (rc : Nat → Nat) (tl : AmH)  (dp : Int) (n : Int) (a : Int) (b : Int → Int) (sz : Int) (cd : Int → Int) (hT : tOK n b) (ha : 0 ≤ a ∧ a ≤ n) (hs : 0 ≤ sz ∧ sz ≤ a) (hdp : 0 ≤ dp ∧ dp = 6 - (rr : Int)), Rx (d + (D + 2)) m_X6_readsCondition 0 (am_ent [.ref 12, .ref 1, .int (iz dp), .int (iz 0)] 5) [] (cxW (u2 (u2 (u2 z 1 1 n) 1 2 a) 12 1 sz) (uf (uf f 2 b) 13 cd) C T rc tl) (fun rv h => ∃ r : Int, ∃ a' : Int, ∃ sz' : Int, ∃ cd' : Int → Int, rv = some (.int (iz r)) ∧ h = cxW (u2 (u2 (u2 z 1 1 n) 1 2 a') 12 1 sz') (uf (uf f 2 b) 13 cd') C T rc tl ∧ rdR n b (condG n b (unitR n b rr) a) sz cd r a' sz' cd' ∧ ((r = 0 ∨ r = 1) ∧ (a ≤ a' ∧ a' ≤ n) ∧ (0 ≤ sz' ∧ sz' ≤ 161)))) (fi : Int) (dp : Int) (n : Int) (a : Int) (b : Int → Int) (sz : Int) (cd : Int → Int) (hT : tOK n b) (ha : 0 ≤ a ∧ a ≤ n) (hs : 0 ≤ sz ∧ sz ≤ a) (hdp : 0 ≤ dp ∧ dp = 5 - (rr : Int)) (hfi : (fi = 33 ∨ fi = 40) ∧ a < n) : Rx (d + (D + 3)) m_X6_readsInner 0 (am_ent [.ref 12, .ref 1, .int (iz dp), .int (iz fi)] 4) [] (cxW (u2 (u2 (u2 z 1 1 n) 1 2 a) 12 1 sz) (uf (uf f 2 b) 13 cd) C T rc tl) (fun rv h => ∃ r : Int, ∃ a' : Int, ∃ sz' : Int, ∃ cd' : Int → Int, rv = some (.int (iz r)) ∧ h = cxW (u2 (u2 (u2 z 1 1 n) 1 2 a') 12 1 sz') (uf (uf f 2 b) 13 cd') C T rc tl ∧ ((fi = 33 → rdR n b (notN (unitR n b rr (a + 1))) sz cd r a' sz' cd') ∧ (fi = 40 → rdR n b (clsN n b (condG n b (unitR n b rr) (a + 1)) 41) sz cd r a' sz' cd')) ∧ ((r = 0 ∨ r = 1) ∧ (a ≤ a' ∧ a' ≤ n) ∧ (0 ≤ sz' ∧ sz' ≤ 161))) := by
  obtain ⟨hT1, hT2, hT3⟩ := id hT
  have hrr : 0 ≤ (rr : Int) := by omega
  refine Rx.walk 0 (pc' := 0) (L' := [some (.ref 12), some (.ref 1), some (.int (iz dp)), some (.int (iz fi))]) (st' := []) (h' := cxW (u2 (u2 (u2 z 1 1 n) 1 2 a) 12 1 sz) (uf (uf f 2 b) 13 cd) C T rc tl) rfl ?_
  refine Rx.walk 2 (pc' := 3) (L' := [some (.ref 12), some (.ref 1), some (.int (iz dp)), some (.int (iz fi))]) (st' := [.int (iz 6), .int (iz dp)]) (h' := cxW (u2 (u2 (u2 z 1 1 n) 1 2 a) 12 1 sz) (uf (uf f 2 b) 13 cd) C T rc tl) rfl ?_
  refine Rx.lt2 rfl rfl ⟨by omega, by omega⟩ ⟨by omega, by omega⟩ (fun b1 => ?_) (fun b1 => by omega)
  refine Rx.walk 4 (pc' := 14) (L' := [some (.ref 12), some (.ref 1), some (.int (iz dp)), some (.int (iz fi))]) (st' := [.int (iz 1), .int (iz a), .ref 1]) (h' := cxW (u2 (u2 (u2 z 1 1 n) 1 2 a) 12 1 sz) (uf (uf f 2 b) 13 cd) C T rc tl) rfl ?_
  refine Rx.iadd rfl ?_
  refine Rx.walk 3 (pc' := 21) (L' := [some (.ref 12), some (.ref 1), some (.int (iz dp)), some (.int (iz fi))]) (st' := [.int (iz 40), .int (iz fi)]) (h' := cxW (u2 (u2 (u2 z 1 1 n) 1 2 (a + 1)) 12 1 sz) (uf (uf f 2 b) 13 cd) C T rc tl) rfl ?_
  refine Rx.ne2 rfl rfl ⟨by omega, by omega⟩ ⟨by omega, by omega⟩ (fun b2 => ?_) (fun b2 => ?_)
  · refine Rx.walk 4 (pc' := 55) (L' := [some (.ref 12), some (.ref 1), some (.int (iz dp)), some (.int (iz fi))]) (st' := [.int (iz 1), .int (iz dp), .ref 1, .ref 12]) (h' := cxW (u2 (u2 (u2 z 1 1 n) 1 2 (a + 1)) 12 1 sz) (uf (uf f 2 b) 13 cd) C T rc tl) rfl ?_
    refine Rx.iadd rfl ?_
    refine Rx.walk 1 (pc' := 57) (L' := [some (.ref 12), some (.ref 1), some (.int (iz dp)), some (.int (iz fi))]) (st' := [.int (iz 0), .int (iz (dp + 1)), .ref 1, .ref 12]) (h' := cxW (u2 (u2 (u2 z 1 1 n) 1 2 (a + 1)) 12 1 sz) (uf (uf f 2 b) 13 cd) C T rc tl) rfl ?_
    refine Rx.callx (m' := m_X6_readsUnit) (as := [.ref 12, .ref 1, .int (iz (dp + 1)), .int (iz 0)]) (rest := []) rfl (hU _ (u2 (u2 (u2 z 1 1 n) 1 2 (a + 1)) 12 1 sz) (uf (uf f 2 b) 13 cd) C T rc tl  (dp + 1) n (a + 1) b sz cd hT ⟨by omega, by omega⟩ ⟨by omega, by omega⟩ (by first | assumption | omega)) (fun v9 h10 q11 => ?_)
    obtain ⟨r_3, a_4, sz_5, cd_6, rfl, rfl, f7, f8⟩ := q11
    refine Rx.walk 0 (pc' := 60) (L' := [some (.ref 12), some (.ref 1), some (.int (iz dp)), some (.int (iz fi))]) (st' := [.int (iz r_3)]) (h' := cxW (u2 (u2 (u2 z 1 1 n) 1 2 a_4) 12 1 sz_5) (uf (uf f 2 b) 13 cd_6) C T rc tl) rfl ?_
    obtain ⟨hq11, hr11, hu11⟩ := id f8
    refine Rx.ne1 rfl rfl ⟨by omega, by omega⟩ (fun b12 => ?_) (fun b12 => ?_)
    · refine Rx.walk 2 (pc' := 68) (L' := [some (.ref 12), some (.ref 1), some (.int (iz dp)), some (.int (iz fi))]) (st' := [.int (iz (-10)), .ref 12]) (h' := cxW (u2 (u2 (u2 z 1 1 n) 1 2 a_4) 12 1 sz_5) (uf (uf f 2 b) 13 cd_6) C T rc tl) rfl ?_
      refine Rx.callx (m' := m_X6_emit) (as := [.ref 12, .int (iz (-10))]) (rest := []) rfl (x_emit _ (u2 (u2 (u2 z 1 1 n) 1 2 a_4) 12 1 sz_5) (uf (uf f 2 b) 13 cd_6) C T rc tl  (-10) sz_5 cd_6 (by first | assumption | omega)) (fun v16 h17 q18 => ?_)
      obtain ⟨sz_13, cd_14, rfl, rfl, f15⟩ := q18
      refine Rx.walk 0 (pc' := 71) (L' := [some (.ref 12), some (.ref 1), some (.int (iz dp)), some (.int (iz fi))]) (st' := []) (h' := cxW (u2 (u2 (u2 z 1 1 n) 1 2 a_4) 12 1 sz_13) (uf (uf f 2 b) 13 cd_14) C T rc tl) rfl ?_
      have heb : 0 ≤ sz_13 ∧ sz_13 ≤ 161 := by rcases f15 with z | z <;> omega
      refine Rx.walk 1 (pc' := 72) (L' := [some (.ref 12), some (.ref 1), some (.int (iz dp)), some (.int (iz fi))]) (st' := [.int (iz 1)]) (h' := cxW (u2 (u2 (u2 z 1 1 n) 1 2 a_4) 12 1 sz_13) (uf (uf f 2 b) 13 cd_14) C T rc tl) rfl ?_
      refine Rx.ret rfl ?_
      refine ⟨_, _, _, _, rfl, rfl, ⟨fun _ => ?_, fun z => absurd z (by omega)⟩, Or.inr rfl, by omega, by omega⟩
      rcases f7 with ⟨q1, q2, q3, q4, q5⟩ | ⟨q1, q2, q3, q4⟩
      · unfold notN; rw [if_pos q1]
        have hqo := (unitR_ok (n := n) (b := b) rr (a + 1) (by omega) (by omega)).2.2 q1
        rcases f15 with ⟨m1, m2, m3⟩ | ⟨m1, m2⟩
        · refine Or.inl ⟨rfl, rfl, q3, ?_, ?_⟩
          · show _ = sz + (((unitR n b rr (a + 1)).2.2.1 ++ [-10]).length : Int); rw [List.length_append]; show _ = sz + (((unitR n b rr (a + 1)).2.2.1.length + 1 : Nat) : Int); omega
          · show _ = _ ++ ((unitR n b rr (a + 1)).2.2.1 ++ [-10]); rw [m3, q5, List.append_assoc]
        · exfalso; omega
      · unfold notN; rw [if_neg (by rw [q1]; decide)]
        exact Or.inr ⟨rfl, q2, by omega, q4.elim (fun z => absurd z (by omega)) (fun z => Or.inr ⟨rfl, z.2⟩)⟩
    · refine Rx.walk 1 (pc' := 64) (L' := [some (.ref 12), some (.ref 1), some (.int (iz dp)), some (.int (iz fi))]) (st' := [.int (iz 0)]) (h' := cxW (u2 (u2 (u2 z 1 1 n) 1 2 a_4) 12 1 sz_5) (uf (uf f 2 b) 13 cd_6) C T rc tl) rfl ?_
      refine Rx.ret rfl ?_
      refine ⟨_, _, _, _, rfl, rfl, ⟨fun _ => ?_, fun z => absurd z (by omega)⟩, Or.inl rfl, by omega, by omega⟩
      rcases f7 with ⟨q1, q2, -⟩ | ⟨q1, q2, q3, q4⟩
      · exfalso; omega
      · unfold notN; rw [if_neg (by rw [q1]; decide)]
        exact Or.inr ⟨rfl, q2, q3, Or.inl rfl⟩
  · refine Rx.walk 4 (pc' := 28) (L' := [some (.ref 12), some (.ref 1), some (.int (iz dp)), some (.int (iz fi))]) (st' := [.int (iz 1), .int (iz dp), .ref 1, .ref 12]) (h' := cxW (u2 (u2 (u2 z 1 1 n) 1 2 (a + 1)) 12 1 sz) (uf (uf f 2 b) 13 cd) C T rc tl) rfl ?_
    refine Rx.iadd rfl ?_
    refine Rx.walk 1 (pc' := 30) (L' := [some (.ref 12), some (.ref 1), some (.int (iz dp)), some (.int (iz fi))]) (st' := [.int (iz 0), .int (iz (dp + 1)), .ref 1, .ref 12]) (h' := cxW (u2 (u2 (u2 z 1 1 n) 1 2 (a + 1)) 12 1 sz) (uf (uf f 2 b) 13 cd) C T rc tl) rfl ?_
    refine Rx.callx (m' := m_X6_readsCondition) (as := [.ref 12, .ref 1, .int (iz (dp + 1)), .int (iz 0)]) (rest := []) rfl (hC _ (u2 (u2 (u2 z 1 1 n) 1 2 (a + 1)) 12 1 sz) (uf (uf f 2 b) 13 cd) C T rc tl  (dp + 1) n (a + 1) b sz cd hT ⟨by omega, by omega⟩ ⟨by omega, by omega⟩ (by first | assumption | omega)) (fun v25 h26 q27 => ?_)
    obtain ⟨r_19, a_20, sz_21, cd_22, rfl, rfl, f23, f24⟩ := q27
    refine Rx.walk 0 (pc' := 33) (L' := [some (.ref 12), some (.ref 1), some (.int (iz dp)), some (.int (iz fi))]) (st' := [.int (iz r_19)]) (h' := cxW (u2 (u2 (u2 z 1 1 n) 1 2 a_20) 12 1 sz_21) (uf (uf f 2 b) 13 cd_22) C T rc tl) rfl ?_
    obtain ⟨hq27, hr27, hu27⟩ := id f24
    refine Rx.eq1 rfl rfl ⟨by omega, by omega⟩ (fun b28 => ?_) (fun b28 => ?_)
    · refine Rx.walk 1 (pc' := 50) (L' := [some (.ref 12), some (.ref 1), some (.int (iz dp)), some (.int (iz fi))]) (st' := [.int (iz 0)]) (h' := cxW (u2 (u2 (u2 z 1 1 n) 1 2 a_20) 12 1 sz_21) (uf (uf f 2 b) 13 cd_22) C T rc tl) rfl ?_
      refine Rx.ret rfl ?_
      refine ⟨_, _, _, _, rfl, rfl, ⟨fun z => absurd z (by omega), fun _ => ?_⟩, Or.inl rfl, by omega, by omega⟩
      rcases f23 with ⟨q1, q2, -⟩ | ⟨q1, q2, q3, q4⟩
      · exfalso; omega
      · unfold clsN; rw [if_neg (by rw [q1]; decide)]
        exact Or.inr ⟨rfl, q2, q3, Or.inl rfl⟩
    · refine Rx.walk 2 (pc' := 39) (L' := [some (.ref 12), some (.ref 1), some (.int (iz dp)), some (.int (iz fi))]) (st' := [.int (iz 41), .ref 1]) (h' := cxW (u2 (u2 (u2 z 1 1 n) 1 2 a_20) 12 1 sz_21) (uf (uf f 2 b) 13 cd_22) C T rc tl) rfl ?_
      refine Rx.callx (m' := m_X8_accepts) (as := [.ref 1, .int (iz 41)]) (rest := []) rfl (x_acc _ (u2 (u2 (u2 z 1 1 n) 1 2 a_20) 12 1 sz_21) (uf (uf f 2 b) 13 cd_22) C T rc tl  41 n a_20 b hT ⟨by omega, by omega⟩ (by first | assumption | omega)) (fun v33 h34 q35 => ?_)
      obtain ⟨r_29, a_30, rfl, rfl, f31, f32⟩ := q35
      refine Rx.walk 0 (pc' := 42) (L' := [some (.ref 12), some (.ref 1), some (.int (iz dp)), some (.int (iz fi))]) (st' := [.int (iz r_29)]) (h' := cxW (u2 (u2 (u2 z 1 1 n) 1 2 a_30) 12 1 sz_21) (uf (uf f 2 b) 13 cd_22) C T rc tl) rfl ?_
      refine Rx.eq1 rfl rfl ⟨by omega, by omega⟩ (fun b36 => ?_) (fun b36 => ?_)
      · refine Rx.walk 1 (pc' := 50) (L' := [some (.ref 12), some (.ref 1), some (.int (iz dp)), some (.int (iz fi))]) (st' := [.int (iz 0)]) (h' := cxW (u2 (u2 (u2 z 1 1 n) 1 2 a_30) 12 1 sz_21) (uf (uf f 2 b) 13 cd_22) C T rc tl) rfl ?_
        refine Rx.ret rfl ?_
        refine ⟨_, _, _, _, rfl, rfl, ⟨fun z => absurd z (by omega), fun _ => ?_⟩, Or.inl rfl, by omega, by omega⟩
        rcases f23 with ⟨q1, q2, q3, q4, q5⟩ | ⟨q1, q2, q3, q4⟩
        · unfold clsN; rw [if_pos q1, ← q3, if_neg (by rcases f31 with z | z; (exfalso; omega); exact z.2.1)]
          exact Or.inr ⟨rfl, by rcases f31 with z | z; (exfalso; omega); exact z.2.2, by omega, Or.inl rfl⟩
        · unfold clsN; rw [if_neg (by rw [q1]; decide)]
          have hdg := q4.elim (fun z => absurd z (by omega)) (fun z => z.2)
          have hdx := isD_sg.mp hdg
          have hsk : sks n b a_20 = a_20 := sks_at (by have := (isD_t.mp hdg); omega)
          exact Or.inr ⟨rfl, by rcases f31 with z | z; (exfalso; omega); (rw [z.2.2, hsk]; exact q2), by omega, Or.inl rfl⟩
      · refine Rx.walk 2 (pc' := 50) (L' := [some (.ref 12), some (.ref 1), some (.int (iz dp)), some (.int (iz fi))]) (st' := [.int (iz 1)]) (h' := cxW (u2 (u2 (u2 z 1 1 n) 1 2 a_30) 12 1 sz_21) (uf (uf f 2 b) 13 cd_22) C T rc tl) rfl ?_
        refine Rx.ret rfl ?_
        refine ⟨_, _, _, _, rfl, rfl, ⟨fun z => absurd z (by omega), fun _ => ?_⟩, Or.inr rfl, by omega, by omega⟩
        rcases f23 with ⟨q1, q2, q3, q4, q5⟩ | ⟨q1, q2, q3, q4⟩
        · unfold clsN; rw [if_pos q1, ← q3, if_pos (by rcases f31 with z | z; exact z.2.1; (exfalso; omega))]
          exact Or.inl ⟨rfl, rfl, by rcases f31 with z | z; exact z.2.2; (exfalso; omega), q4, q5⟩
        · exfalso
          have hdg := q4.elim (fun z => absurd z (by omega)) (fun z => z.2)
          have hdx := isD_sg.mp hdg
          have hsk : sks n b a_20 = a_20 := sks_at (by have := (isD_t.mp hdg); omega)
          rcases f31 with z | z
          · rw [hsk] at z; omega
          · omega
set_option maxRecDepth 100000 in
set_option maxHeartbeats 4000000 in
theorem x_rUnit0 (d : Nat) (z : Nat → Nat → Int) (f : Nat → Int → Int) (C : Nat → CuR) (T : Nat → TsR) (rc : Nat → Nat) (tl : AmH) (D rr : Nat) (hrr1 : rr = 0) (hS : ∀ (d : Nat) (z : Nat → Nat → Int) (f : Nat → Int → Int) (C : Nat → CuR) (T : Nat → TsR) (rc : Nat → Nat) (tl : AmH)  (dp : Int) (n : Int) (a : Int) (b : Int → Int) (sz : Int) (cd : Int → Int) (hT : tOK n b) (ha : 0 ≤ a ∧ a ≤ n) (hs : 0 ≤ sz ∧ sz ≤ a) (hdp : 0 ≤ dp ∧ dp = 6 - (rr : Int)), Rx (d + (D + 2)) m_X6_readsSum 0 (am_ent [.ref 12, .ref 1, .int (iz dp)] 5) [] (cxW (u2 (u2 (u2 z 1 1 n) 1 2 a) 12 1 sz) (uf (uf f 2 b) 13 cd) C T rc tl) (fun rv h => ∃ r : Int, ∃ a' : Int, ∃ sz' : Int, ∃ cd' : Int → Int, rv = some (.int (iz r)) ∧ h = cxW (u2 (u2 (u2 z 1 1 n) 1 2 a') 12 1 sz') (uf (uf f 2 b) 13 cd') C T rc tl ∧ rdR n b (sumR n b rr a) sz cd r a' sz' cd' ∧ ((r = 0 ∨ r = 1) ∧ (a ≤ a' ∧ a' ≤ n) ∧ (0 ≤ sz' ∧ sz' ≤ 161)))) (hI : ∀ (d : Nat) (z : Nat → Nat → Int) (f : Nat → Int → Int) (C : Nat → CuR) (T : Nat → TsR) (rc : Nat → Nat) (tl : AmH)  (fi : Int) (dp : Int) (n : Int) (a : Int) (b : Int → Int) (sz : Int) (cd : Int → Int) (hT : tOK n b) (ha : 0 ≤ a ∧ a ≤ n) (hs : 0 ≤ sz ∧ sz ≤ a) (hdp : dp = 6) (hfi : (fi = 33 ∨ fi = 40) ∧ a < n), Rx (d + (D + 2)) m_X6_readsInner 0 (am_ent [.ref 12, .ref 1, .int (iz dp), .int (iz fi)] 4) [] (cxW (u2 (u2 (u2 z 1 1 n) 1 2 a) 12 1 sz) (uf (uf f 2 b) 13 cd) C T rc tl) (fun rv h => ∃ r : Int, ∃ a' : Int, ∃ sz' : Int, ∃ cd' : Int → Int, rv = some (.int (iz r)) ∧ h = cxW (u2 (u2 (u2 z 1 1 n) 1 2 a') 12 1 sz') (uf (uf f 2 b) 13 cd') C T rc tl ∧ ((fi = 33 → rdR n b (rsF a) sz cd r a' sz' cd') ∧ (fi = 40 → rdR n b (rsF a) sz cd r a' sz' cd')) ∧ ((r = 0 ∨ r = 1) ∧ (a ≤ a' ∧ a' ≤ n) ∧ (0 ≤ sz' ∧ sz' ≤ 161)))) (dp : Int) (n : Int) (a : Int) (b : Int → Int) (sz : Int) (cd : Int → Int) (hT : tOK n b) (ha : 0 ≤ a ∧ a ≤ n) (hs : 0 ≤ sz ∧ sz ≤ a) (hdp : 0 ≤ dp ∧ dp = 6 - (rr : Int)) : Rx (d + (D + 3)) m_X6_readsUnit 0 (am_ent [.ref 12, .ref 1, .int (iz dp), .int (iz 0)] 5) [] (cxW (u2 (u2 (u2 z 1 1 n) 1 2 a) 12 1 sz) (uf (uf f 2 b) 13 cd) C T rc tl) (fun rv h => ∃ r : Int, ∃ a' : Int, ∃ sz' : Int, ∃ cd' : Int → Int, rv = some (.int (iz r)) ∧ h = cxW (u2 (u2 (u2 z 1 1 n) 1 2 a') 12 1 sz') (uf (uf f 2 b) 13 cd') C T rc tl ∧ rdR n b (unitR n b 0 a) sz cd r a' sz' cd' ∧ ((r = 0 ∨ r = 1) ∧ (a ≤ a' ∧ a' ≤ n) ∧ (0 ≤ sz' ∧ sz' ≤ 161))) := by
  obtain ⟨hT1, hT2, hT3⟩ := id hT
  have hrr : 0 ≤ (rr : Int) := by omega
  have eU : unitR n b 0 = unitG n b none (fun a => rsF a) (sumR n b rr) := by rw [hrr1]; rfl
  have hU33 : sg n b (sks n b a) = 33 → unitR n b 0 a = rsF (sks n b a) := fun q => by rw [eU]; unfold unitG; rw [if_pos q]
  have hU40 : sg n b (sks n b a) = 40 → unitR n b 0 a = rsF (sks n b a) := fun q => by rw [eU]; unfold unitG; rw [if_neg (by omega), if_pos q]
  have hUx : sg n b (sks n b a) ≠ 33 → sg n b (sks n b a) ≠ 40 → unitR n b 0 a = cmpG n b (sumR n b rr) (sumR n b rr (sks n b a)) := fun q z => by rw [eU]; unfold unitG; rw [if_neg q, if_neg z]
  refine Rx.walk 0 (pc' := 0) (L' := [some (.ref 12), some (.ref 1), some (.int (iz dp)), some (.int (iz 0)), none]) (st' := []) (h' := cxW (u2 (u2 (u2 z 1 1 n) 1 2 a) 12 1 sz) (uf (uf f 2 b) 13 cd) C T rc tl) rfl ?_
  refine Rx.walk 1 (pc' := 1) (L' := [some (.ref 12), some (.ref 1), some (.int (iz dp)), some (.int (iz 0)), none]) (st' := [.int (iz 0)]) (h' := cxW (u2 (u2 (u2 z 1 1 n) 1 2 a) 12 1 sz) (uf (uf f 2 b) 13 cd) C T rc tl) rfl ?_
  refine Rx.ne1 rfl rfl ⟨by omega, by omega⟩ (fun b1 => by omega) (fun b1 => ?_)
  refine Rx.walk 1 (pc' := 5) (L' := [some (.ref 12), some (.ref 1), some (.int (iz dp)), some (.int (iz 0)), none]) (st' := [.ref 1]) (h' := cxW (u2 (u2 (u2 z 1 1 n) 1 2 a) 12 1 sz) (uf (uf f 2 b) 13 cd) C T rc tl) rfl ?_
  refine Rx.callx (m' := m_X8_sign) (as := [.ref 1]) (rest := []) rfl (x_sgn _ (u2 (u2 (u2 z 1 1 n) 1 2 a) 12 1 sz) (uf (uf f 2 b) 13 cd) C T rc tl  n a b hT ha) (fun v8 h9 q10 => ?_)
  obtain ⟨r_2, a_3, rfl, rfl, f4, f5, f6, f7⟩ := q10
  refine Rx.walk 0 (pc' := 8) (L' := [some (.ref 12), some (.ref 1), some (.int (iz dp)), some (.int (iz 0)), none]) (st' := [.int (iz r_2)]) (h' := cxW (u2 (u2 (u2 z 1 1 n) 1 2 a_3) 12 1 sz) (uf (uf f 2 b) 13 cd) C T rc tl) rfl ?_
  refine Rx.walk 3 (pc' := 14) (L' := [some (.ref 12), some (.ref 1), some (.int (iz dp)), some (.int (iz 0)), some (.int (iz r_2))]) (st' := [.int (iz 33), .int (iz r_2)]) (h' := cxW (u2 (u2 (u2 z 1 1 n) 1 2 a_3) 12 1 sz) (uf (uf f 2 b) 13 cd) C T rc tl) rfl ?_
  refine Rx.eq2 rfl rfl ⟨by omega, by omega⟩ ⟨by omega, by omega⟩ (fun b11 => ?_) (fun b11 => ?_)
  · refine Rx.walk 4 (pc' := 29) (L' := [some (.ref 12), some (.ref 1), some (.int (iz dp)), some (.int (iz 0)), some (.int (iz r_2))]) (st' := [.int (iz r_2), .int (iz dp), .ref 1, .ref 12]) (h' := cxW (u2 (u2 (u2 z 1 1 n) 1 2 a_3) 12 1 sz) (uf (uf f 2 b) 13 cd) C T rc tl) rfl ?_
    have hlt : a_3 < n := by rcases Int.lt_or_le a_3 n with q | q; exact q; (exfalso; rw [sg_ge q] at f5; omega)
    refine Rx.callx (m' := m_X6_readsInner) (as := [.ref 12, .ref 1, .int (iz dp), .int (iz r_2)]) (rest := []) rfl (hI _ (u2 (u2 (u2 z 1 1 n) 1 2 a_3) 12 1 sz) (uf (uf f 2 b) 13 cd) C T rc tl  r_2 dp n a_3 b sz cd hT ⟨by omega, by omega⟩ ⟨by omega, by omega⟩ (by omega) ⟨by omega, hlt⟩) (fun v18 h19 q20 => ?_)
    obtain ⟨r_12, a_13, sz_14, cd_15, rfl, rfl, f16, f17⟩ := q20
    refine Rx.walk 0 (pc' := 32) (L' := [some (.ref 12), some (.ref 1), some (.int (iz dp)), some (.int (iz 0)), some (.int (iz r_2))]) (st' := [.int (iz r_12)]) (h' := cxW (u2 (u2 (u2 z 1 1 n) 1 2 a_13) 12 1 sz_14) (uf (uf f 2 b) 13 cd_15) C T rc tl) rfl ?_
    obtain ⟨hq20, hr20, hu20⟩ := id f17
    refine Rx.retB rfl rfl (by omega) ?_
    have ec : sg n b (sks n b a) = r_2 := by rw [← f4]; exact f5.symm
    refine ⟨_, _, _, _, rfl, rfl, ?_, by omega, by omega, by omega⟩
    rcases (show r_2 = 33 ∨ r_2 = 40 by omega) with y | y
    · have hz := f16.1 y
      rw [f4] at hz
      rw [show unitR n b 0 a = rsF (sks n b a) from hU33 (by omega)]
      exact hz
    · have hz := f16.2 y
      rw [f4] at hz
      rw [show unitR n b 0 a = rsF (sks n b a) from hU40 (by omega)]
      exact hz
  · refine Rx.walk 2 (pc' := 21) (L' := [some (.ref 12), some (.ref 1), some (.int (iz dp)), some (.int (iz 0)), some (.int (iz r_2))]) (st' := [.int (iz 40), .int (iz r_2)]) (h' := cxW (u2 (u2 (u2 z 1 1 n) 1 2 a_3) 12 1 sz) (uf (uf f 2 b) 13 cd) C T rc tl) rfl ?_
    refine Rx.ne2 rfl rfl ⟨by omega, by omega⟩ ⟨by omega, by omega⟩ (fun b21 => ?_) (fun b21 => ?_)
    · refine Rx.walk 3 (pc' := 36) (L' := [some (.ref 12), some (.ref 1), some (.int (iz dp)), some (.int (iz 0)), some (.int (iz r_2))]) (st' := [.int (iz dp), .ref 1, .ref 12]) (h' := cxW (u2 (u2 (u2 z 1 1 n) 1 2 a_3) 12 1 sz) (uf (uf f 2 b) 13 cd) C T rc tl) rfl ?_
      refine Rx.callx (m' := m_X6_readsSum) (as := [.ref 12, .ref 1, .int (iz dp)]) (rest := []) rfl (hS _ (u2 (u2 (u2 z 1 1 n) 1 2 a_3) 12 1 sz) (uf (uf f 2 b) 13 cd) C T rc tl  dp n a_3 b sz cd hT ⟨by omega, by omega⟩ ⟨by omega, by omega⟩ (by omega)) (fun v28 h29 q30 => ?_)
      obtain ⟨r_22, a_23, sz_24, cd_25, rfl, rfl, f26, f27⟩ := q30
      refine Rx.walk 0 (pc' := 39) (L' := [some (.ref 12), some (.ref 1), some (.int (iz dp)), some (.int (iz 0)), some (.int (iz r_2))]) (st' := [.int (iz r_22)]) (h' := cxW (u2 (u2 (u2 z 1 1 n) 1 2 a_23) 12 1 sz_24) (uf (uf f 2 b) 13 cd_25) C T rc tl) rfl ?_
      obtain ⟨hq30, hr30, hu30⟩ := id f27
      refine Rx.ne1 rfl rfl ⟨by omega, by omega⟩ (fun b31 => ?_) (fun b31 => ?_)
      · have hqo := sumR_ok (n := n) (b := b) rr a_3 (by omega) (by omega)
        refine x_unit_b _ (u2 (u2 (u2 z 1 1 n) 1 2 a_23) 12 1 sz_24) (uf (uf f 2 b) 13 cd_25) C T rc tl D rr hS dp 0 n a_23 b sz_24 cd_25 sz cd a (sumR n b rr a_3) (some (.int (iz r_2))) hT ⟨by omega, by omega⟩ (by omega) (by omega) hs ⟨by omega, by omega⟩ (by have z := f26; rw [show r_22 = 1 by omega] at z; exact z) (fun z => by rcases f26 with y | y; (have := hqo.2.2 z; have := y.2.2.2.1; have := y.2.2.1; omega); exact absurd (z.symm.trans y.1) (by decide)) _ ?_ (0 + 1 : Int).toNat   (by omega) 
        intro r_32 a_33 sz_34 cd_35 f36 f37
        show (fun (rv : Option Value) (h : AmH) => ∃ r : Int, ∃ a' : Int, ∃ sz' : Int, ∃ cd' : Int → Int, rv = some (.int (iz r)) ∧ h = cxW (u2 (u2 (u2 z 1 1 n) 1 2 a') 12 1 sz') (uf (uf f 2 b) 13 cd') C T rc tl ∧ rdR n b (unitR n b 0 a) sz cd r a' sz' cd' ∧ ((r = 0 ∨ r = 1) ∧ (a ≤ a' ∧ a' ≤ n) ∧ (0 ≤ sz' ∧ sz' ≤ 161))) (some (Value.int (iz r_32))) (cxW (u2 (u2 (u2 z 1 1 n) 1 2 a_33) 12 1 sz_34) (uf (uf f 2 b) 13 cd_35) C T rc tl)
        have ec : sg n b (sks n b a) = r_2 := by rw [← f4]; exact f5.symm
        refine ⟨_, _, _, _, rfl, rfl, ?_, f37⟩
        rw [show unitR n b 0 a = cmpG n b (sumR n b rr) (sumR n b rr (sks n b a)) from hUx (by omega) (by omega)]
        have hz := f36
        rw [f4] at hz
        exact hz
      · refine Rx.walk 1 (pc' := 43) (L' := [some (.ref 12), some (.ref 1), some (.int (iz dp)), some (.int (iz 0)), some (.int (iz r_2))]) (st' := [.int (iz 0)]) (h' := cxW (u2 (u2 (u2 z 1 1 n) 1 2 a_23) 12 1 sz_24) (uf (uf f 2 b) 13 cd_25) C T rc tl) rfl ?_
        refine Rx.ret rfl ?_
        have ec : sg n b (sks n b a) = r_2 := by rw [← f4]; exact f5.symm
        refine ⟨_, _, _, _, rfl, rfl, ?_, Or.inl rfl, by omega, by omega⟩
        rw [show unitR n b 0 a = cmpG n b (sumR n b rr) (sumR n b rr (sks n b a)) from hUx (by omega) (by omega)]
        have hz := f26
        rw [f4] at hz
        rcases hz with z | ⟨z1, z2, z3, z4⟩
        · exfalso; have := z.2.1; omega
        · unfold cmpG; rw [if_neg (by rw [z1]; decide)]
          exact Or.inr ⟨rfl, z2, z3, Or.inl rfl⟩
    · refine Rx.walk 4 (pc' := 29) (L' := [some (.ref 12), some (.ref 1), some (.int (iz dp)), some (.int (iz 0)), some (.int (iz r_2))]) (st' := [.int (iz r_2), .int (iz dp), .ref 1, .ref 12]) (h' := cxW (u2 (u2 (u2 z 1 1 n) 1 2 a_3) 12 1 sz) (uf (uf f 2 b) 13 cd) C T rc tl) rfl ?_
      have hlt : a_3 < n := by rcases Int.lt_or_le a_3 n with q | q; exact q; (exfalso; rw [sg_ge q] at f5; omega)
      refine Rx.callx (m' := m_X6_readsInner) (as := [.ref 12, .ref 1, .int (iz dp), .int (iz r_2)]) (rest := []) rfl (hI _ (u2 (u2 (u2 z 1 1 n) 1 2 a_3) 12 1 sz) (uf (uf f 2 b) 13 cd) C T rc tl  r_2 dp n a_3 b sz cd hT ⟨by omega, by omega⟩ ⟨by omega, by omega⟩ (by omega) ⟨by omega, hlt⟩) (fun v44 h45 q46 => ?_)
      obtain ⟨r_38, a_39, sz_40, cd_41, rfl, rfl, f42, f43⟩ := q46
      refine Rx.walk 0 (pc' := 32) (L' := [some (.ref 12), some (.ref 1), some (.int (iz dp)), some (.int (iz 0)), some (.int (iz r_2))]) (st' := [.int (iz r_38)]) (h' := cxW (u2 (u2 (u2 z 1 1 n) 1 2 a_39) 12 1 sz_40) (uf (uf f 2 b) 13 cd_41) C T rc tl) rfl ?_
      obtain ⟨hq46, hr46, hu46⟩ := id f43
      refine Rx.retB rfl rfl (by omega) ?_
      have ec : sg n b (sks n b a) = r_2 := by rw [← f4]; exact f5.symm
      refine ⟨_, _, _, _, rfl, rfl, ?_, by omega, by omega, by omega⟩
      rcases (show r_2 = 33 ∨ r_2 = 40 by omega) with y | y
      · have hz := f42.1 y
        rw [f4] at hz
        rw [show unitR n b 0 a = rsF (sks n b a) from hU33 (by omega)]
        exact hz
      · have hz := f42.2 y
        rw [f4] at hz
        rw [show unitR n b 0 a = rsF (sks n b a) from hU40 (by omega)]
        exact hz
set_option maxRecDepth 100000 in
set_option maxHeartbeats 4000000 in
theorem x_rUnit1 (d : Nat) (z : Nat → Nat → Int) (f : Nat → Int → Int) (C : Nat → CuR) (T : Nat → TsR) (rc : Nat → Nat) (tl : AmH) (D rr : Nat) (r1 : Nat) (hrr1 : rr = r1 + 1) (hS : ∀ (d : Nat) (z : Nat → Nat → Int) (f : Nat → Int → Int) (C : Nat → CuR) (T : Nat → TsR) (rc : Nat → Nat) (tl : AmH)  (dp : Int) (n : Int) (a : Int) (b : Int → Int) (sz : Int) (cd : Int → Int) (hT : tOK n b) (ha : 0 ≤ a ∧ a ≤ n) (hs : 0 ≤ sz ∧ sz ≤ a) (hdp : 0 ≤ dp ∧ dp = 6 - (rr : Int)), Rx (d + (D + 2)) m_X6_readsSum 0 (am_ent [.ref 12, .ref 1, .int (iz dp)] 5) [] (cxW (u2 (u2 (u2 z 1 1 n) 1 2 a) 12 1 sz) (uf (uf f 2 b) 13 cd) C T rc tl) (fun rv h => ∃ r : Int, ∃ a' : Int, ∃ sz' : Int, ∃ cd' : Int → Int, rv = some (.int (iz r)) ∧ h = cxW (u2 (u2 (u2 z 1 1 n) 1 2 a') 12 1 sz') (uf (uf f 2 b) 13 cd') C T rc tl ∧ rdR n b (sumR n b rr a) sz cd r a' sz' cd' ∧ ((r = 0 ∨ r = 1) ∧ (a ≤ a' ∧ a' ≤ n) ∧ (0 ≤ sz' ∧ sz' ≤ 161)))) (hI : ∀ (d : Nat) (z : Nat → Nat → Int) (f : Nat → Int → Int) (C : Nat → CuR) (T : Nat → TsR) (rc : Nat → Nat) (tl : AmH)  (fi : Int) (dp : Int) (n : Int) (a : Int) (b : Int → Int) (sz : Int) (cd : Int → Int) (hT : tOK n b) (ha : 0 ≤ a ∧ a ≤ n) (hs : 0 ≤ sz ∧ sz ≤ a) (hdp : 0 ≤ dp ∧ dp = 5 - (r1 : Int)) (hfi : (fi = 33 ∨ fi = 40) ∧ a < n), Rx (d + (D + 2)) m_X6_readsInner 0 (am_ent [.ref 12, .ref 1, .int (iz dp), .int (iz fi)] 4) [] (cxW (u2 (u2 (u2 z 1 1 n) 1 2 a) 12 1 sz) (uf (uf f 2 b) 13 cd) C T rc tl) (fun rv h => ∃ r : Int, ∃ a' : Int, ∃ sz' : Int, ∃ cd' : Int → Int, rv = some (.int (iz r)) ∧ h = cxW (u2 (u2 (u2 z 1 1 n) 1 2 a') 12 1 sz') (uf (uf f 2 b) 13 cd') C T rc tl ∧ ((fi = 33 → rdR n b (notN (unitR n b r1 (a + 1))) sz cd r a' sz' cd') ∧ (fi = 40 → rdR n b (clsN n b (condG n b (unitR n b r1) (a + 1)) 41) sz cd r a' sz' cd')) ∧ ((r = 0 ∨ r = 1) ∧ (a ≤ a' ∧ a' ≤ n) ∧ (0 ≤ sz' ∧ sz' ≤ 161)))) (dp : Int) (n : Int) (a : Int) (b : Int → Int) (sz : Int) (cd : Int → Int) (hT : tOK n b) (ha : 0 ≤ a ∧ a ≤ n) (hs : 0 ≤ sz ∧ sz ≤ a) (hdp : 0 ≤ dp ∧ dp = 6 - (rr : Int)) : Rx (d + (D + 3)) m_X6_readsUnit 0 (am_ent [.ref 12, .ref 1, .int (iz dp), .int (iz 0)] 5) [] (cxW (u2 (u2 (u2 z 1 1 n) 1 2 a) 12 1 sz) (uf (uf f 2 b) 13 cd) C T rc tl) (fun rv h => ∃ r : Int, ∃ a' : Int, ∃ sz' : Int, ∃ cd' : Int → Int, rv = some (.int (iz r)) ∧ h = cxW (u2 (u2 (u2 z 1 1 n) 1 2 a') 12 1 sz') (uf (uf f 2 b) 13 cd') C T rc tl ∧ rdR n b (unitR n b (r1 + 1) a) sz cd r a' sz' cd' ∧ ((r = 0 ∨ r = 1) ∧ (a ≤ a' ∧ a' ≤ n) ∧ (0 ≤ sz' ∧ sz' ≤ 161))) := by
  obtain ⟨hT1, hT2, hT3⟩ := id hT
  have hrr : 0 ≤ (rr : Int) := by omega
  have eU : unitR n b (r1 + 1) = unitG n b (some (unitR n b r1)) (condG n b (unitR n b r1)) (sumR n b rr) := by rw [hrr1]; rfl
  have hU33 : sg n b (sks n b a) = 33 → unitR n b (r1 + 1) a = notN (unitR n b r1 ((sks n b a) + 1)) := fun q => by rw [eU]; unfold unitG; rw [if_pos q]
  have hU40 : sg n b (sks n b a) = 40 → unitR n b (r1 + 1) a = clsN n b (condG n b (unitR n b r1) ((sks n b a) + 1)) 41 := fun q => by rw [eU]; unfold unitG; rw [if_neg (by omega), if_pos q]
  have hUx : sg n b (sks n b a) ≠ 33 → sg n b (sks n b a) ≠ 40 → unitR n b (r1 + 1) a = cmpG n b (sumR n b rr) (sumR n b rr (sks n b a)) := fun q z => by rw [eU]; unfold unitG; rw [if_neg q, if_neg z]
  refine Rx.walk 0 (pc' := 0) (L' := [some (.ref 12), some (.ref 1), some (.int (iz dp)), some (.int (iz 0)), none]) (st' := []) (h' := cxW (u2 (u2 (u2 z 1 1 n) 1 2 a) 12 1 sz) (uf (uf f 2 b) 13 cd) C T rc tl) rfl ?_
  refine Rx.walk 1 (pc' := 1) (L' := [some (.ref 12), some (.ref 1), some (.int (iz dp)), some (.int (iz 0)), none]) (st' := [.int (iz 0)]) (h' := cxW (u2 (u2 (u2 z 1 1 n) 1 2 a) 12 1 sz) (uf (uf f 2 b) 13 cd) C T rc tl) rfl ?_
  refine Rx.ne1 rfl rfl ⟨by omega, by omega⟩ (fun b1 => by omega) (fun b1 => ?_)
  refine Rx.walk 1 (pc' := 5) (L' := [some (.ref 12), some (.ref 1), some (.int (iz dp)), some (.int (iz 0)), none]) (st' := [.ref 1]) (h' := cxW (u2 (u2 (u2 z 1 1 n) 1 2 a) 12 1 sz) (uf (uf f 2 b) 13 cd) C T rc tl) rfl ?_
  refine Rx.callx (m' := m_X8_sign) (as := [.ref 1]) (rest := []) rfl (x_sgn _ (u2 (u2 (u2 z 1 1 n) 1 2 a) 12 1 sz) (uf (uf f 2 b) 13 cd) C T rc tl  n a b hT ha) (fun v8 h9 q10 => ?_)
  obtain ⟨r_2, a_3, rfl, rfl, f4, f5, f6, f7⟩ := q10
  refine Rx.walk 0 (pc' := 8) (L' := [some (.ref 12), some (.ref 1), some (.int (iz dp)), some (.int (iz 0)), none]) (st' := [.int (iz r_2)]) (h' := cxW (u2 (u2 (u2 z 1 1 n) 1 2 a_3) 12 1 sz) (uf (uf f 2 b) 13 cd) C T rc tl) rfl ?_
  refine Rx.walk 3 (pc' := 14) (L' := [some (.ref 12), some (.ref 1), some (.int (iz dp)), some (.int (iz 0)), some (.int (iz r_2))]) (st' := [.int (iz 33), .int (iz r_2)]) (h' := cxW (u2 (u2 (u2 z 1 1 n) 1 2 a_3) 12 1 sz) (uf (uf f 2 b) 13 cd) C T rc tl) rfl ?_
  refine Rx.eq2 rfl rfl ⟨by omega, by omega⟩ ⟨by omega, by omega⟩ (fun b11 => ?_) (fun b11 => ?_)
  · refine Rx.walk 4 (pc' := 29) (L' := [some (.ref 12), some (.ref 1), some (.int (iz dp)), some (.int (iz 0)), some (.int (iz r_2))]) (st' := [.int (iz r_2), .int (iz dp), .ref 1, .ref 12]) (h' := cxW (u2 (u2 (u2 z 1 1 n) 1 2 a_3) 12 1 sz) (uf (uf f 2 b) 13 cd) C T rc tl) rfl ?_
    have hlt : a_3 < n := by rcases Int.lt_or_le a_3 n with q | q; exact q; (exfalso; rw [sg_ge q] at f5; omega)
    refine Rx.callx (m' := m_X6_readsInner) (as := [.ref 12, .ref 1, .int (iz dp), .int (iz r_2)]) (rest := []) rfl (hI _ (u2 (u2 (u2 z 1 1 n) 1 2 a_3) 12 1 sz) (uf (uf f 2 b) 13 cd) C T rc tl  r_2 dp n a_3 b sz cd hT ⟨by omega, by omega⟩ ⟨by omega, by omega⟩ (by omega) ⟨by omega, hlt⟩) (fun v18 h19 q20 => ?_)
    obtain ⟨r_12, a_13, sz_14, cd_15, rfl, rfl, f16, f17⟩ := q20
    refine Rx.walk 0 (pc' := 32) (L' := [some (.ref 12), some (.ref 1), some (.int (iz dp)), some (.int (iz 0)), some (.int (iz r_2))]) (st' := [.int (iz r_12)]) (h' := cxW (u2 (u2 (u2 z 1 1 n) 1 2 a_13) 12 1 sz_14) (uf (uf f 2 b) 13 cd_15) C T rc tl) rfl ?_
    obtain ⟨hq20, hr20, hu20⟩ := id f17
    refine Rx.retB rfl rfl (by omega) ?_
    have ec : sg n b (sks n b a) = r_2 := by rw [← f4]; exact f5.symm
    refine ⟨_, _, _, _, rfl, rfl, ?_, by omega, by omega, by omega⟩
    rcases (show r_2 = 33 ∨ r_2 = 40 by omega) with y | y
    · have hz := f16.1 y
      rw [f4] at hz
      rw [show unitR n b (r1 + 1) a = notN (unitR n b r1 ((sks n b a) + 1)) from hU33 (by omega)]
      exact hz
    · have hz := f16.2 y
      rw [f4] at hz
      rw [show unitR n b (r1 + 1) a = clsN n b (condG n b (unitR n b r1) ((sks n b a) + 1)) 41 from hU40 (by omega)]
      exact hz
  · refine Rx.walk 2 (pc' := 21) (L' := [some (.ref 12), some (.ref 1), some (.int (iz dp)), some (.int (iz 0)), some (.int (iz r_2))]) (st' := [.int (iz 40), .int (iz r_2)]) (h' := cxW (u2 (u2 (u2 z 1 1 n) 1 2 a_3) 12 1 sz) (uf (uf f 2 b) 13 cd) C T rc tl) rfl ?_
    refine Rx.ne2 rfl rfl ⟨by omega, by omega⟩ ⟨by omega, by omega⟩ (fun b21 => ?_) (fun b21 => ?_)
    · refine Rx.walk 3 (pc' := 36) (L' := [some (.ref 12), some (.ref 1), some (.int (iz dp)), some (.int (iz 0)), some (.int (iz r_2))]) (st' := [.int (iz dp), .ref 1, .ref 12]) (h' := cxW (u2 (u2 (u2 z 1 1 n) 1 2 a_3) 12 1 sz) (uf (uf f 2 b) 13 cd) C T rc tl) rfl ?_
      refine Rx.callx (m' := m_X6_readsSum) (as := [.ref 12, .ref 1, .int (iz dp)]) (rest := []) rfl (hS _ (u2 (u2 (u2 z 1 1 n) 1 2 a_3) 12 1 sz) (uf (uf f 2 b) 13 cd) C T rc tl  dp n a_3 b sz cd hT ⟨by omega, by omega⟩ ⟨by omega, by omega⟩ (by omega)) (fun v28 h29 q30 => ?_)
      obtain ⟨r_22, a_23, sz_24, cd_25, rfl, rfl, f26, f27⟩ := q30
      refine Rx.walk 0 (pc' := 39) (L' := [some (.ref 12), some (.ref 1), some (.int (iz dp)), some (.int (iz 0)), some (.int (iz r_2))]) (st' := [.int (iz r_22)]) (h' := cxW (u2 (u2 (u2 z 1 1 n) 1 2 a_23) 12 1 sz_24) (uf (uf f 2 b) 13 cd_25) C T rc tl) rfl ?_
      obtain ⟨hq30, hr30, hu30⟩ := id f27
      refine Rx.ne1 rfl rfl ⟨by omega, by omega⟩ (fun b31 => ?_) (fun b31 => ?_)
      · have hqo := sumR_ok (n := n) (b := b) rr a_3 (by omega) (by omega)
        refine x_unit_b _ (u2 (u2 (u2 z 1 1 n) 1 2 a_23) 12 1 sz_24) (uf (uf f 2 b) 13 cd_25) C T rc tl D rr hS dp 0 n a_23 b sz_24 cd_25 sz cd a (sumR n b rr a_3) (some (.int (iz r_2))) hT ⟨by omega, by omega⟩ (by omega) (by omega) hs ⟨by omega, by omega⟩ (by have z := f26; rw [show r_22 = 1 by omega] at z; exact z) (fun z => by rcases f26 with y | y; (have := hqo.2.2 z; have := y.2.2.2.1; have := y.2.2.1; omega); exact absurd (z.symm.trans y.1) (by decide)) _ ?_ (0 + 1 : Int).toNat   (by omega) 
        intro r_32 a_33 sz_34 cd_35 f36 f37
        show (fun (rv : Option Value) (h : AmH) => ∃ r : Int, ∃ a' : Int, ∃ sz' : Int, ∃ cd' : Int → Int, rv = some (.int (iz r)) ∧ h = cxW (u2 (u2 (u2 z 1 1 n) 1 2 a') 12 1 sz') (uf (uf f 2 b) 13 cd') C T rc tl ∧ rdR n b (unitR n b (r1 + 1) a) sz cd r a' sz' cd' ∧ ((r = 0 ∨ r = 1) ∧ (a ≤ a' ∧ a' ≤ n) ∧ (0 ≤ sz' ∧ sz' ≤ 161))) (some (Value.int (iz r_32))) (cxW (u2 (u2 (u2 z 1 1 n) 1 2 a_33) 12 1 sz_34) (uf (uf f 2 b) 13 cd_35) C T rc tl)
        have ec : sg n b (sks n b a) = r_2 := by rw [← f4]; exact f5.symm
        refine ⟨_, _, _, _, rfl, rfl, ?_, f37⟩
        rw [show unitR n b (r1 + 1) a = cmpG n b (sumR n b rr) (sumR n b rr (sks n b a)) from hUx (by omega) (by omega)]
        have hz := f36
        rw [f4] at hz
        exact hz
      · refine Rx.walk 1 (pc' := 43) (L' := [some (.ref 12), some (.ref 1), some (.int (iz dp)), some (.int (iz 0)), some (.int (iz r_2))]) (st' := [.int (iz 0)]) (h' := cxW (u2 (u2 (u2 z 1 1 n) 1 2 a_23) 12 1 sz_24) (uf (uf f 2 b) 13 cd_25) C T rc tl) rfl ?_
        refine Rx.ret rfl ?_
        have ec : sg n b (sks n b a) = r_2 := by rw [← f4]; exact f5.symm
        refine ⟨_, _, _, _, rfl, rfl, ?_, Or.inl rfl, by omega, by omega⟩
        rw [show unitR n b (r1 + 1) a = cmpG n b (sumR n b rr) (sumR n b rr (sks n b a)) from hUx (by omega) (by omega)]
        have hz := f26
        rw [f4] at hz
        rcases hz with z | ⟨z1, z2, z3, z4⟩
        · exfalso; have := z.2.1; omega
        · unfold cmpG; rw [if_neg (by rw [z1]; decide)]
          exact Or.inr ⟨rfl, z2, z3, Or.inl rfl⟩
    · refine Rx.walk 4 (pc' := 29) (L' := [some (.ref 12), some (.ref 1), some (.int (iz dp)), some (.int (iz 0)), some (.int (iz r_2))]) (st' := [.int (iz r_2), .int (iz dp), .ref 1, .ref 12]) (h' := cxW (u2 (u2 (u2 z 1 1 n) 1 2 a_3) 12 1 sz) (uf (uf f 2 b) 13 cd) C T rc tl) rfl ?_
      have hlt : a_3 < n := by rcases Int.lt_or_le a_3 n with q | q; exact q; (exfalso; rw [sg_ge q] at f5; omega)
      refine Rx.callx (m' := m_X6_readsInner) (as := [.ref 12, .ref 1, .int (iz dp), .int (iz r_2)]) (rest := []) rfl (hI _ (u2 (u2 (u2 z 1 1 n) 1 2 a_3) 12 1 sz) (uf (uf f 2 b) 13 cd) C T rc tl  r_2 dp n a_3 b sz cd hT ⟨by omega, by omega⟩ ⟨by omega, by omega⟩ (by omega) ⟨by omega, hlt⟩) (fun v44 h45 q46 => ?_)
      obtain ⟨r_38, a_39, sz_40, cd_41, rfl, rfl, f42, f43⟩ := q46
      refine Rx.walk 0 (pc' := 32) (L' := [some (.ref 12), some (.ref 1), some (.int (iz dp)), some (.int (iz 0)), some (.int (iz r_2))]) (st' := [.int (iz r_38)]) (h' := cxW (u2 (u2 (u2 z 1 1 n) 1 2 a_39) 12 1 sz_40) (uf (uf f 2 b) 13 cd_41) C T rc tl) rfl ?_
      obtain ⟨hq46, hr46, hu46⟩ := id f43
      refine Rx.retB rfl rfl (by omega) ?_
      have ec : sg n b (sks n b a) = r_2 := by rw [← f4]; exact f5.symm
      refine ⟨_, _, _, _, rfl, rfl, ?_, by omega, by omega, by omega⟩
      rcases (show r_2 = 33 ∨ r_2 = 40 by omega) with y | y
      · have hz := f42.1 y
        rw [f4] at hz
        rw [show unitR n b (r1 + 1) a = notN (unitR n b r1 ((sks n b a) + 1)) from hU33 (by omega)]
        exact hz
      · have hz := f42.2 y
        rw [f4] at hz
        rw [show unitR n b (r1 + 1) a = clsN n b (condG n b (unitR n b r1) ((sks n b a) + 1)) 41 from hU40 (by omega)]
        exact hz

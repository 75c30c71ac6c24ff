/-! rules read by the model: terms and sums (printed by wip/whole/genmru2.py) -/
theorem mul_b {x y : Int} (hx : -1000000 ≤ x ∧ x ≤ 1000000) (hy : -1000000 ≤ y ∧ y ≤ 1000000) : -1000000000000 ≤ x * y ∧ x * y ≤ 1000000000000 := by
  have h : (x * y).natAbs ≤ 1000000 * 1000000 := by
    rw [Int.natAbs_mul]
    exact Nat.mul_le_mul (by omega) (by omega)
  omega
theorem tdiv_b {x y : Int} (hx : -1000000 ≤ x ∧ x ≤ 1000000) : -1000000 ≤ x.tdiv y ∧ x.tdiv y ≤ 1000000 := by
  have h : (x.tdiv y).natAbs ≤ x.natAbs := by
    rw [Int.natAbs_tdiv]
    exact Nat.div_le_self _ _
  omega
theorem wtn_id {x : Int} (h : -1000000 ≤ x ∧ x ≤ 1000000) : wtn x = x := by
  unfold wtn
  omega
theorem mdR_op {acc q : RsT} {Lf : Int → Int} {op dp v w a' fa' dp' r : Int} (hv : v = acc.2.2.2 Lf) (hq : mdR q Lf dp w a' fa' dp') (hr : q.1 = true → r = rk op v w) : mdR (opN acc q op) Lf dp r a' fa' dp' := by
  rcases hq with ⟨h1, h2, h3, h4, h5⟩ | ⟨h1, h2⟩
  · refine Or.inl ?_
    unfold opN
    rw [if_pos h1]
    refine ⟨rfl, h2, h3, h4, ?_⟩
    show r = rk op (acc.2.2.2 Lf) (q.2.2.2 Lf)
    rw [hr h1, hv, h5]
  · refine Or.inr ?_
    unfold opN
    rw [if_neg (by rw [h1]; decide)]
    exact ⟨rfl, h2⟩
set_option maxRecDepth 100000 in
set_option maxHeartbeats 4000000 in
theorem m_rTerm1_l (d : Nat) (z : Nat → Int) (zl : Nat → Int) (f : Nat → Int → Int) (fl : Nat → Int → Int) (tx : Nat) (D rr : Nat) (hA : ∀ (d : Nat) (z : Nat → Int) (zl : Nat → Int) (f : Nat → Int → Int) (fl : Nat → Int → Int) (tx : Nat)  (dp : Int) (n : Int) (a : Int) (bg : Int) (tb : Int → Int) (b : Int → Int) (lt : Int → Int) (hT : tOK n b) (hM : mOK n bg 160 tb b) (ha : 0 ≤ a ∧ a ≤ n) (hL : ∀ k : Int, 0 ≤ k → k < 128 → -1000000 ≤ lt k ∧ lt k ≤ 1000000) (hdp : 0 ≤ dp ∧ dp = 6 - (rr : Int)), Rx (d + (D + 2)) m_X12_atom 0 (am_ent [.ref 0] 4) [] (cmH (u1 (u1 (u1 (u1 (u1 z 8 bg) 9 n) 10 a) 11 (-1)) 12 dp) zl (uf (uf f 1 tb) 4 lt) fl 1) (fun rv h => ∃ r : Int, ∃ a' : Int, ∃ fa' : Int, ∃ dp' : Int, rv = some (.int (iz r)) ∧ h = cmH (u1 (u1 (u1 (u1 (u1 z 8 bg) 9 n) 10 a') 11 fa') 12 dp') zl (uf (uf f 1 tb) 4 lt) fl 1 ∧ mdR (atomR n b rr a) (ltL lt) dp r a' fa' dp' ∧ ((a ≤ a' ∧ a' ≤ n) ∧ (fa' = -1 ∨ (0 ≤ fa' ∧ fa' ≤ 160)) ∧ (-1000000 ≤ r ∧ r ≤ 1000000)))) (dp : Int) (n : Int) (bg : Int) (tb : Int → Int) (b : Int → Int) (lt : Int → Int) (Rt : RsT) (a0 : Int) (hT : tOK n b) (hM : mOK n bg 160 tb b) (hL : ∀ k : Int, 0 ≤ k → k < 128 → -1000000 ≤ lt k ∧ lt k ≤ 1000000) (hdp : 0 ≤ dp ∧ dp = 6 - (rr : Int)) (hA0 : rdOK n (atomR n b rr)) (P : Option Value → AmH → Prop) (hx0 : ∀ (r : Int) (a' : Int) (fa' : Int) (dp' : Int), (mdR Rt (ltL lt) dp r a' fa' dp') → ((a0 ≤ a' ∧ a' ≤ n) ∧ (fa' = -1 ∨ (0 ≤ fa' ∧ fa' ≤ 160)) ∧ (-1000000 ≤ r ∧ r ≤ 1000000)) → P (some (.int (iz r))) (cmH (u1 (u1 (u1 (u1 (u1 z 8 bg) 9 n) 10 a') 11 fa') 12 dp') zl (uf (uf f 1 tb) 4 lt) fl 1)) : ∀ (kF : Nat) (v : Int) (a : Int) (fa : Int) (dpv : Int) (acc : RsT) (k : Nat) (w2 : Option Value) (w3 : Option Value) (w4 : Option Value), (0 ≤ a ∧ a ≤ n ∧ a0 ≤ a) → (fa = -1 ∨ (0 ≤ fa ∧ fa ≤ 160)) → (-1000000 ≤ v ∧ v ≤ 1000000) → (mdR acc (ltL lt) dp v a fa dpv) → (n - a < (k : Int)) → (Rt = opL n b 42 47 (-3) (-4) (atomR n b rr) k acc) → (acc.1 = false → fa ≠ -1) → (n - a) < (kF : Int) → Rx (d + (D + 3)) m_X12_term 5 [some (.ref 0), some (.int (iz v)), w2, w3, w4] [] (cmH (u1 (u1 (u1 (u1 (u1 z 8 bg) 9 n) 10 a) 11 fa) 12 dpv) zl (uf (uf f 1 tb) 4 lt) fl 1) P := by
  obtain ⟨hT1, hT2, hT3⟩ := id hT
  have hbg := hM.1
  have hbz := hM.2.1
  have hrr : 0 ≤ (rr : Int) := by omega
  intro kF
  induction kF with
  | zero =>
    intro v a fa dpv acc k w2 w3 w4 ha hfa hvb hR hk hE hfp hk
    exfalso; omega
  | succ kF ih =>
    intro v a fa dpv acc k w2 w3 w4 ha hfa hvb hR hk hE hfp hk
    refine Rx.walk 3 (pc' := 10) (L' := [some (.ref 0), some (.int (iz v)), w2, w3, w4]) (st' := [.int (iz (-1)), .int (iz fa)]) (h' := cmH (u1 (u1 (u1 (u1 (u1 z 8 bg) 9 n) 10 a) 11 fa) 12 dpv) zl (uf (uf f 1 tb) 4 lt) fl 1) rfl ?_
    refine Rx.ne2 rfl rfl ⟨by omega, by omega⟩ ⟨by omega, by omega⟩ (fun b1 => ?_) (fun b1 => ?_)
    · refine Rx.walk 1 (pc' := 95) (L' := [some (.ref 0), some (.int (iz v)), w2, w3, w4]) (st' := [.int (iz v)]) (h' := cmH (u1 (u1 (u1 (u1 (u1 z 8 bg) 9 n) 10 a) 11 fa) 12 dpv) zl (uf (uf f 1 tb) 4 lt) fl 1) rfl ?_
      refine Rx.ret rfl ?_
      exact hx0 _ _ _ _ (by rw [hE, opL_f (show acc.1 = false from by rcases hR with z | z; (exact absurd z.2.1 (by omega)); exact z.1)]; exact hR) ⟨⟨by omega, by omega⟩, hfa, hvb⟩
    · obtain rfl : fa = -1 := by omega
      obtain ⟨hok1, hok2, hok3, hok4⟩ : acc.1 = true ∧ a = acc.2.1 ∧ dpv = dp ∧ v = acc.2.2.2 (ltL lt) := by rcases hR with z | z; (exact ⟨z.1, z.2.2.1, z.2.2.2.1, z.2.2.2.2⟩); (exact absurd rfl (hfp z.1))
      refine Rx.walk 1 (pc' := 14) (L' := [some (.ref 0), some (.int (iz v)), w2, w3, w4]) (st' := [.ref 0]) (h' := cmH (u1 (u1 (u1 (u1 (u1 z 8 bg) 9 n) 10 a) 11 (-1)) 12 dpv) zl (uf (uf f 1 tb) 4 lt) fl 1) rfl ?_
      refine Rx.callx (m' := m_X12_look) (as := [.ref 0]) (rest := []) rfl (m_look1 _ (u1 (u1 (u1 (u1 (u1 z 8 bg) 9 n) 10 a) 11 (-1)) 12 dpv) zl (uf (uf f 1 tb) 4 lt) fl 1  n a bg (-1) tb b hT hM ⟨by omega, by omega⟩) (fun v8 h9 q10 => ?_)
      obtain ⟨r_2, a_3, rfl, rfl, f4, f5, f6, f7⟩ := q10
      refine Rx.walk 0 (pc' := 17) (L' := [some (.ref 0), some (.int (iz v)), w2, w3, w4]) (st' := [.int (iz r_2)]) (h' := cmH (u1 (u1 (u1 (u1 (u1 z 8 bg) 9 n) 10 a_3) 11 (-1)) 12 dpv) zl (uf (uf f 1 tb) 4 lt) fl 1) rfl ?_
      have es1 : sks n b a = a_3 := f4.symm
      refine Rx.walk 1 (pc' := 19) (L' := [some (.ref 0), some (.int (iz v)), w2, w3, w4]) (st' := [.int (iz 42), .int (iz r_2)]) (h' := cmH (u1 (u1 (u1 (u1 (u1 z 8 bg) 9 n) 10 a_3) 11 (-1)) 12 dpv) zl (uf (uf f 1 tb) 4 lt) fl 1) rfl ?_
      refine Rx.eq2 rfl rfl ⟨by omega, by omega⟩ ⟨by omega, by omega⟩ (fun b11 => ?_) (fun b11 => ?_)
      · refine Rx.walk 1 (pc' := 32) (L' := [some (.ref 0), some (.int (iz v)), w2, w3, w4]) (st' := [.ref 0]) (h' := cmH (u1 (u1 (u1 (u1 (u1 z 8 bg) 9 n) 10 a_3) 11 (-1)) 12 dpv) zl (uf (uf f 1 tb) 4 lt) fl 1) rfl ?_
        refine Rx.callx (m' := m_X12_look) (as := [.ref 0]) (rest := []) rfl (m_look1 _ (u1 (u1 (u1 (u1 (u1 z 8 bg) 9 n) 10 a_3) 11 (-1)) 12 dpv) zl (uf (uf f 1 tb) 4 lt) fl 1  n a_3 bg (-1) tb b hT hM ⟨by omega, by omega⟩) (fun v18 h19 q20 => ?_)
        obtain ⟨r_12, a_13, rfl, rfl, f14, f15, f16, f17⟩ := q20
        refine Rx.walk 0 (pc' := 35) (L' := [some (.ref 0), some (.int (iz v)), w2, w3, w4]) (st' := [.int (iz r_12)]) (h' := cmH (u1 (u1 (u1 (u1 (u1 z 8 bg) 9 n) 10 a_13) 11 (-1)) 12 dpv) zl (uf (uf f 1 tb) 4 lt) fl 1) rfl ?_
        have es2 : sks n b a = a_13 := by rw [f14, es1.symm, sks_sks]
        refine Rx.walk 1 (pc' := 37) (L' := [some (.ref 0), some (.int (iz v)), w2, w3, w4]) (st' := [.int (iz 42), .int (iz r_12)]) (h' := cmH (u1 (u1 (u1 (u1 (u1 z 8 bg) 9 n) 10 a_13) 11 (-1)) 12 dpv) zl (uf (uf f 1 tb) 4 lt) fl 1) rfl ?_
        refine Rx.ne2 rfl rfl ⟨by omega, by omega⟩ ⟨by omega, by omega⟩ (fun b21 => ?_) (fun b21 => ?_)
        · refine Rx.walk 2 (pc' := 46) (L' := [some (.ref 0), some (.int (iz v)), some (.int (iz 0)), w3, w4]) (st' := []) (h' := cmH (u1 (u1 (u1 (u1 (u1 z 8 bg) 9 n) 10 a_13) 11 (-1)) 12 dpv) zl (uf (uf f 1 tb) 4 lt) fl 1) rfl ?_
          have ec : sg n b (sks n b acc.2.1) = r_12 := by rw [← hok2, es2]; exact f15.symm
          have ec0 : r_2 = r_12 := by rw [f5, f15, ← es2, ← es1]
          have hlt : a_13 < n := by rcases Int.lt_or_le a_13 n with q | q; exact q; (exfalso; have e9 := f15; rw [sg_ge q] at e9; omega)
          obtain ⟨k1, rfl⟩ : ∃ k1, k = k1 + 1 := ⟨k - 1, by omega⟩
          have hle := sks_le n b a
          have hqo := hA0 (a_13 + 1) (by omega) (by omega)
          have hE2 : Rt = opL n b 42 47 (-3) (-4) (atomR n b rr) k1 (opN acc ((atomR n b rr) (a_13 + 1)) (if sg n b (sks n b acc.2.1) = 42 then (-3) else (-4))) := by rw [hE, opL_n hok1 (by omega), ← hok2, es2]
          refine Rx.walk 4 (pc' := 52) (L' := [some (.ref 0), some (.int (iz v)), some (.int (iz 0)), w3, w4]) (st' := [.int (iz 1), .int (iz a_13), .ref 0]) (h' := cmH (u1 (u1 (u1 (u1 (u1 z 8 bg) 9 n) 10 a_13) 11 (-1)) 12 dpv) zl (uf (uf f 1 tb) 4 lt) fl 1) rfl ?_
          refine Rx.iadd rfl ?_
          refine Rx.walk 2 (pc' := 57) (L' := [some (.ref 0), some (.int (iz v)), some (.int (iz 0)), w3, w4]) (st' := [.ref 0]) (h' := cmH (u1 (u1 (u1 (u1 (u1 z 8 bg) 9 n) 10 (a_13 + 1)) 11 (-1)) 12 dpv) zl (uf (uf f 1 tb) 4 lt) fl 1) rfl ?_
          refine Rx.callx (m' := m_X12_atom) (as := [.ref 0]) (rest := []) rfl (hA _ (u1 (u1 (u1 (u1 (u1 z 8 bg) 9 n) 10 (a_13 + 1)) 11 (-1)) 12 dpv) zl (uf (uf f 1 tb) 4 lt) fl 1  dpv n (a_13 + 1) bg tb b lt hT hM ⟨by omega, by omega⟩ hL ⟨by omega, by omega⟩) (fun v28 h29 q30 => ?_)
          obtain ⟨r_22, a_23, fa_24, dp_25, rfl, rfl, f26, f27⟩ := q30
          refine Rx.walk 0 (pc' := 60) (L' := [some (.ref 0), some (.int (iz v)), some (.int (iz 0)), w3, w4]) (st' := [.int (iz r_22)]) (h' := cmH (u1 (u1 (u1 (u1 (u1 z 8 bg) 9 n) 10 a_23) 11 fa_24) 12 dp_25) zl (uf (uf f 1 tb) 4 lt) fl 1) rfl ?_
          obtain ⟨hqa, hqf, hqb⟩ := id f27
          have hmb := mul_b hvb hqb
          have htb := tdiv_b (y := r_22) hvb
          refine Rx.i2l rfl ⟨by omega, by omega⟩ ?_
          refine Rx.walk 2 (pc' := 63) (L' := [some (.ref 0), some (.int (iz v)), some (.int (iz 0)), some (.long (jz r_22)), none]) (st' := [.int (iz 0)]) (h' := cmH (u1 (u1 (u1 (u1 (u1 z 8 bg) 9 n) 10 a_23) 11 fa_24) 12 dp_25) zl (uf (uf f 1 tb) 4 lt) fl 1) rfl ?_
          refine Rx.eq1 rfl rfl ⟨by omega, by omega⟩ (fun b31 => ?_) (fun b31 => by omega)
          refine Rx.walk 2 (pc' := 75) (L' := [some (.ref 0), some (.int (iz v)), some (.int (iz 0)), some (.long (jz r_22)), none]) (st' := [.long (jz 0), .long (jz r_22)]) (h' := cmH (u1 (u1 (u1 (u1 (u1 z 8 bg) 9 n) 10 a_23) 11 fa_24) 12 dp_25) zl (uf (uf f 1 tb) 4 lt) fl 1) rfl ?_
          refine Rx.lcmp rfl ⟨by omega, by omega⟩ ⟨by omega, by omega⟩ ?_
          refine Rx.nec rfl rfl (fun b32 => ?_) (fun b32 => ?_)
          · refine Rx.walk 1 (pc' := 84) (L' := [some (.ref 0), some (.int (iz v)), some (.int (iz 0)), some (.long (jz r_22)), none]) (st' := [.int (iz v)]) (h' := cmH (u1 (u1 (u1 (u1 (u1 z 8 bg) 9 n) 10 a_23) 11 fa_24) 12 dp_25) zl (uf (uf f 1 tb) 4 lt) fl 1) rfl ?_
            refine Rx.i2l rfl ⟨by omega, by omega⟩ ?_
            refine Rx.walk 1 (pc' := 86) (L' := [some (.ref 0), some (.int (iz v)), some (.int (iz 0)), some (.long (jz r_22)), none]) (st' := [.long (jz r_22), .long (jz v)]) (h' := cmH (u1 (u1 (u1 (u1 (u1 z 8 bg) 9 n) 10 a_23) 11 fa_24) 12 dp_25) zl (uf (uf f 1 tb) 4 lt) fl 1) rfl ?_
            refine Rx.ldivT rfl ⟨by omega, by omega⟩ ⟨by omega, by omega⟩ (by omega) ?_
            refine Rx.callx (m' := m_X12_within) (as := [.long (jz (v.tdiv r_22))]) (rest := []) rfl (n_within _ (cmH (u1 (u1 (u1 (u1 (u1 z 8 bg) 9 n) 10 a_23) 11 fa_24) 12 dp_25) zl (uf (uf f 1 tb) 4 lt) fl 1)  (v.tdiv r_22) ⟨by omega, by omega⟩) (fun v36 h37 q38 => ?_)
            obtain ⟨r_33, rfl, rfl, f34, f35⟩ := q38
            refine Rx.walk 0 (pc' := 90) (L' := [some (.ref 0), some (.int (iz v)), some (.int (iz 0)), some (.long (jz r_22)), none]) (st' := [.int (iz r_33)]) (h' := cmH (u1 (u1 (u1 (u1 (u1 z 8 bg) 9 n) 10 a_23) 11 fa_24) 12 dp_25) zl (uf (uf f 1 tb) 4 lt) fl 1) rfl ?_
            refine Rx.walk 2 (pc' := 5) (L' := [some (.ref 0), some (.int (iz r_33)), some (.int (iz 0)), some (.long (jz r_22)), none]) (st' := []) (h' := cmH (u1 (u1 (u1 (u1 (u1 z 8 bg) 9 n) 10 a_23) 11 fa_24) 12 dp_25) zl (uf (uf f 1 tb) 4 lt) fl 1) rfl ?_
            exact ih r_33 a_23 fa_24 dp_25 (opN acc ((atomR n b rr) (a_13 + 1)) (-4)) k1 (some (.int (iz 0))) (some (.long (jz r_22))) none ⟨by omega, by omega, by omega⟩ hqf f35 (mdR_op (op := -4) hok4 (by have z := f26; rw [hok3] at z; exact z) (fun _ => by rw [f34, wtn_id htb]; show _ = (if r_22 = 0 then 0 else v.tdiv r_22); rw [if_neg (by omega)])) (by omega) (by rw [hE2, if_neg (by omega)]) (fun z => by rcases f26 with y | y; (exfalso; unfold opN at z; rw [if_pos y.1] at z; exact absurd (show true = false from z) (by decide)); (have := y.2; have := hqo.1; omega)) (by first | assumption | omega) 
          · refine Rx.walk 2 (pc' := 87) (L' := [some (.ref 0), some (.int (iz v)), some (.int (iz 0)), some (.long (jz r_22)), none]) (st' := [.long (jz 0)]) (h' := cmH (u1 (u1 (u1 (u1 (u1 z 8 bg) 9 n) 10 a_23) 11 fa_24) 12 dp_25) zl (uf (uf f 1 tb) 4 lt) fl 1) rfl ?_
            refine Rx.callx (m' := m_X12_within) (as := [.long (jz 0)]) (rest := []) rfl (n_within _ (cmH (u1 (u1 (u1 (u1 (u1 z 8 bg) 9 n) 10 a_23) 11 fa_24) 12 dp_25) zl (uf (uf f 1 tb) 4 lt) fl 1)  0 ⟨by omega, by omega⟩) (fun v42 h43 q44 => ?_)
            obtain ⟨r_39, rfl, rfl, f40, f41⟩ := q44
            refine Rx.walk 0 (pc' := 90) (L' := [some (.ref 0), some (.int (iz v)), some (.int (iz 0)), some (.long (jz r_22)), none]) (st' := [.int (iz r_39)]) (h' := cmH (u1 (u1 (u1 (u1 (u1 z 8 bg) 9 n) 10 a_23) 11 fa_24) 12 dp_25) zl (uf (uf f 1 tb) 4 lt) fl 1) rfl ?_
            refine Rx.walk 2 (pc' := 5) (L' := [some (.ref 0), some (.int (iz r_39)), some (.int (iz 0)), some (.long (jz r_22)), none]) (st' := []) (h' := cmH (u1 (u1 (u1 (u1 (u1 z 8 bg) 9 n) 10 a_23) 11 fa_24) 12 dp_25) zl (uf (uf f 1 tb) 4 lt) fl 1) rfl ?_
            exact ih r_39 a_23 fa_24 dp_25 (opN acc ((atomR n b rr) (a_13 + 1)) (-4)) k1 (some (.int (iz 0))) (some (.long (jz r_22))) none ⟨by omega, by omega, by omega⟩ hqf f41 (mdR_op (op := -4) hok4 (by have z := f26; rw [hok3] at z; exact z) (fun _ => by rw [f40]; show wtn 0 = (if r_22 = 0 then 0 else v.tdiv r_22); rw [if_pos (by omega)]; rfl)) (by omega) (by rw [hE2, if_neg (by omega)]) (fun z => by rcases f26 with y | y; (exfalso; unfold opN at z; rw [if_pos y.1] at z; exact absurd (show true = false from z) (by decide)); (have := y.2; have := hqo.1; omega)) (by first | assumption | omega) 
        · refine Rx.walk 3 (pc' := 46) (L' := [some (.ref 0), some (.int (iz v)), some (.int (iz 1)), w3, w4]) (st' := []) (h' := cmH (u1 (u1 (u1 (u1 (u1 z 8 bg) 9 n) 10 a_13) 11 (-1)) 12 dpv) zl (uf (uf f 1 tb) 4 lt) fl 1) rfl ?_
          have ec : sg n b (sks n b acc.2.1) = r_12 := by rw [← hok2, es2]; exact f15.symm
          have ec0 : r_2 = r_12 := by rw [f5, f15, ← es2, ← es1]
          have hlt : a_13 < n := by rcases Int.lt_or_le a_13 n with q | q; exact q; (exfalso; have e9 := f15; rw [sg_ge q] at e9; omega)
          obtain ⟨k1, rfl⟩ : ∃ k1, k = k1 + 1 := ⟨k - 1, by omega⟩
          have hle := sks_le n b a
          have hqo := hA0 (a_13 + 1) (by omega) (by omega)
          have hE2 : Rt = opL n b 42 47 (-3) (-4) (atomR n b rr) k1 (opN acc ((atomR n b rr) (a_13 + 1)) (if sg n b (sks n b acc.2.1) = 42 then (-3) else (-4))) := by rw [hE, opL_n hok1 (by omega), ← hok2, es2]
          refine Rx.walk 4 (pc' := 52) (L' := [some (.ref 0), some (.int (iz v)), some (.int (iz 1)), w3, w4]) (st' := [.int (iz 1), .int (iz a_13), .ref 0]) (h' := cmH (u1 (u1 (u1 (u1 (u1 z 8 bg) 9 n) 10 a_13) 11 (-1)) 12 dpv) zl (uf (uf f 1 tb) 4 lt) fl 1) rfl ?_
          refine Rx.iadd rfl ?_
          refine Rx.walk 2 (pc' := 57) (L' := [some (.ref 0), some (.int (iz v)), some (.int (iz 1)), w3, w4]) (st' := [.ref 0]) (h' := cmH (u1 (u1 (u1 (u1 (u1 z 8 bg) 9 n) 10 (a_13 + 1)) 11 (-1)) 12 dpv) zl (uf (uf f 1 tb) 4 lt) fl 1) rfl ?_
          refine Rx.callx (m' := m_X12_atom) (as := [.ref 0]) (rest := []) rfl (hA _ (u1 (u1 (u1 (u1 (u1 z 8 bg) 9 n) 10 (a_13 + 1)) 11 (-1)) 12 dpv) zl (uf (uf f 1 tb) 4 lt) fl 1  dpv n (a_13 + 1) bg tb b lt hT hM ⟨by omega, by omega⟩ hL ⟨by omega, by omega⟩) (fun v51 h52 q53 => ?_)
          obtain ⟨r_45, a_46, fa_47, dp_48, rfl, rfl, f49, f50⟩ := q53
          refine Rx.walk 0 (pc' := 60) (L' := [some (.ref 0), some (.int (iz v)), some (.int (iz 1)), w3, w4]) (st' := [.int (iz r_45)]) (h' := cmH (u1 (u1 (u1 (u1 (u1 z 8 bg) 9 n) 10 a_46) 11 fa_47) 12 dp_48) zl (uf (uf f 1 tb) 4 lt) fl 1) rfl ?_
          obtain ⟨hqa, hqf, hqb⟩ := id f50
          have hmb := mul_b hvb hqb
          have htb := tdiv_b (y := r_45) hvb
          refine Rx.i2l rfl ⟨by omega, by omega⟩ ?_
          refine Rx.walk 2 (pc' := 63) (L' := [some (.ref 0), some (.int (iz v)), some (.int (iz 1)), some (.long (jz r_45)), none]) (st' := [.int (iz 1)]) (h' := cmH (u1 (u1 (u1 (u1 (u1 z 8 bg) 9 n) 10 a_46) 11 fa_47) 12 dp_48) zl (uf (uf f 1 tb) 4 lt) fl 1) rfl ?_
          refine Rx.eq1 rfl rfl ⟨by omega, by omega⟩ (fun b54 => by omega) (fun b54 => ?_)
          refine Rx.walk 1 (pc' := 67) (L' := [some (.ref 0), some (.int (iz v)), some (.int (iz 1)), some (.long (jz r_45)), none]) (st' := [.int (iz v)]) (h' := cmH (u1 (u1 (u1 (u1 (u1 z 8 bg) 9 n) 10 a_46) 11 fa_47) 12 dp_48) zl (uf (uf f 1 tb) 4 lt) fl 1) rfl ?_
          refine Rx.i2l rfl ⟨by omega, by omega⟩ ?_
          refine Rx.walk 1 (pc' := 69) (L' := [some (.ref 0), some (.int (iz v)), some (.int (iz 1)), some (.long (jz r_45)), none]) (st' := [.long (jz r_45), .long (jz v)]) (h' := cmH (u1 (u1 (u1 (u1 (u1 z 8 bg) 9 n) 10 a_46) 11 fa_47) 12 dp_48) zl (uf (uf f 1 tb) 4 lt) fl 1) rfl ?_
          refine Rx.lmul rfl ?_
          refine Rx.walk 1 (pc' := 87) (L' := [some (.ref 0), some (.int (iz v)), some (.int (iz 1)), some (.long (jz r_45)), none]) (st' := [.long (jz (v * r_45))]) (h' := cmH (u1 (u1 (u1 (u1 (u1 z 8 bg) 9 n) 10 a_46) 11 fa_47) 12 dp_48) zl (uf (uf f 1 tb) 4 lt) fl 1) rfl ?_
          refine Rx.callx (m' := m_X12_within) (as := [.long (jz (v * r_45))]) (rest := []) rfl (n_within _ (cmH (u1 (u1 (u1 (u1 (u1 z 8 bg) 9 n) 10 a_46) 11 fa_47) 12 dp_48) zl (uf (uf f 1 tb) 4 lt) fl 1)  (v * r_45) ⟨by omega, by omega⟩) (fun v58 h59 q60 => ?_)
          obtain ⟨r_55, rfl, rfl, f56, f57⟩ := q60
          refine Rx.walk 0 (pc' := 90) (L' := [some (.ref 0), some (.int (iz v)), some (.int (iz 1)), some (.long (jz r_45)), none]) (st' := [.int (iz r_55)]) (h' := cmH (u1 (u1 (u1 (u1 (u1 z 8 bg) 9 n) 10 a_46) 11 fa_47) 12 dp_48) zl (uf (uf f 1 tb) 4 lt) fl 1) rfl ?_
          refine Rx.walk 2 (pc' := 5) (L' := [some (.ref 0), some (.int (iz r_55)), some (.int (iz 1)), some (.long (jz r_45)), none]) (st' := []) (h' := cmH (u1 (u1 (u1 (u1 (u1 z 8 bg) 9 n) 10 a_46) 11 fa_47) 12 dp_48) zl (uf (uf f 1 tb) 4 lt) fl 1) rfl ?_
          exact ih r_55 a_46 fa_47 dp_48 (opN acc ((atomR n b rr) (a_13 + 1)) (-3)) k1 (some (.int (iz 1))) (some (.long (jz r_45))) none ⟨by omega, by omega, by omega⟩ hqf f57 (mdR_op (op := -3) hok4 (by have z := f49; rw [hok3] at z; exact z) (fun _ => f56)) (by omega) (by rw [hE2, if_pos (by omega)]) (fun z => by rcases f49 with y | y; (exfalso; unfold opN at z; rw [if_pos y.1] at z; exact absurd (show true = false from z) (by decide)); (have := y.2; have := hqo.1; omega)) (by first | assumption | omega) 
      · refine Rx.walk 1 (pc' := 23) (L' := [some (.ref 0), some (.int (iz v)), w2, w3, w4]) (st' := [.ref 0]) (h' := cmH (u1 (u1 (u1 (u1 (u1 z 8 bg) 9 n) 10 a_3) 11 (-1)) 12 dpv) zl (uf (uf f 1 tb) 4 lt) fl 1) rfl ?_
        refine Rx.callx (m' := m_X12_look) (as := [.ref 0]) (rest := []) rfl (m_look1 _ (u1 (u1 (u1 (u1 (u1 z 8 bg) 9 n) 10 a_3) 11 (-1)) 12 dpv) zl (uf (uf f 1 tb) 4 lt) fl 1  n a_3 bg (-1) tb b hT hM ⟨by omega, by omega⟩) (fun v67 h68 q69 => ?_)
        obtain ⟨r_61, a_62, rfl, rfl, f63, f64, f65, f66⟩ := q69
        refine Rx.walk 0 (pc' := 26) (L' := [some (.ref 0), some (.int (iz v)), w2, w3, w4]) (st' := [.int (iz r_61)]) (h' := cmH (u1 (u1 (u1 (u1 (u1 z 8 bg) 9 n) 10 a_62) 11 (-1)) 12 dpv) zl (uf (uf f 1 tb) 4 lt) fl 1) rfl ?_
        have es2 : sks n b a = a_62 := by rw [f63, es1.symm, sks_sks]
        refine Rx.walk 1 (pc' := 28) (L' := [some (.ref 0), some (.int (iz v)), w2, w3, w4]) (st' := [.int (iz 47), .int (iz r_61)]) (h' := cmH (u1 (u1 (u1 (u1 (u1 z 8 bg) 9 n) 10 a_62) 11 (-1)) 12 dpv) zl (uf (uf f 1 tb) 4 lt) fl 1) rfl ?_
        refine Rx.ne2 rfl rfl ⟨by omega, by omega⟩ ⟨by omega, by omega⟩ (fun b70 => ?_) (fun b70 => ?_)
        · refine Rx.walk 1 (pc' := 95) (L' := [some (.ref 0), some (.int (iz v)), w2, w3, w4]) (st' := [.int (iz v)]) (h' := cmH (u1 (u1 (u1 (u1 (u1 z 8 bg) 9 n) 10 a_62) 11 (-1)) 12 dpv) zl (uf (uf f 1 tb) 4 lt) fl 1) rfl ?_
          refine Rx.ret rfl ?_
          exact hx0 _ _ _ _ (by obtain ⟨k1, rfl⟩ : ∃ k1, k = k1 + 1 := ⟨k - 1, by omega⟩; have ec : sg n b (sks n b acc.2.1) = r_61 := (by rw [← hok2, es2]; exact f64.symm); have ec0 : r_2 = r_61 := (by rw [f5, f64, ← es2, ← es1]); rw [hE, opL_e hok1 (by omega) (by omega)]; exact Or.inl ⟨rfl, rfl, by rw [← hok2, es2], hok3, hok4⟩) ⟨⟨by omega, by omega⟩, Or.inl rfl, hvb⟩
        · refine Rx.walk 1 (pc' := 32) (L' := [some (.ref 0), some (.int (iz v)), w2, w3, w4]) (st' := [.ref 0]) (h' := cmH (u1 (u1 (u1 (u1 (u1 z 8 bg) 9 n) 10 a_62) 11 (-1)) 12 dpv) zl (uf (uf f 1 tb) 4 lt) fl 1) rfl ?_
          refine Rx.callx (m' := m_X12_look) (as := [.ref 0]) (rest := []) rfl (m_look1 _ (u1 (u1 (u1 (u1 (u1 z 8 bg) 9 n) 10 a_62) 11 (-1)) 12 dpv) zl (uf (uf f 1 tb) 4 lt) fl 1  n a_62 bg (-1) tb b hT hM ⟨by omega, by omega⟩) (fun v77 h78 q79 => ?_)
          obtain ⟨r_71, a_72, rfl, rfl, f73, f74, f75, f76⟩ := q79
          refine Rx.walk 0 (pc' := 35) (L' := [some (.ref 0), some (.int (iz v)), w2, w3, w4]) (st' := [.int (iz r_71)]) (h' := cmH (u1 (u1 (u1 (u1 (u1 z 8 bg) 9 n) 10 a_72) 11 (-1)) 12 dpv) zl (uf (uf f 1 tb) 4 lt) fl 1) rfl ?_
          have es3 : sks n b a = a_72 := by rw [f73, es2.symm, sks_sks]
          refine Rx.walk 1 (pc' := 37) (L' := [some (.ref 0), some (.int (iz v)), w2, w3, w4]) (st' := [.int (iz 42), .int (iz r_71)]) (h' := cmH (u1 (u1 (u1 (u1 (u1 z 8 bg) 9 n) 10 a_72) 11 (-1)) 12 dpv) zl (uf (uf f 1 tb) 4 lt) fl 1) rfl ?_
          refine Rx.ne2 rfl rfl ⟨by omega, by omega⟩ ⟨by omega, by omega⟩ (fun b80 => ?_) (fun b80 => ?_)
          · refine Rx.walk 2 (pc' := 46) (L' := [some (.ref 0), some (.int (iz v)), some (.int (iz 0)), w3, w4]) (st' := []) (h' := cmH (u1 (u1 (u1 (u1 (u1 z 8 bg) 9 n) 10 a_72) 11 (-1)) 12 dpv) zl (uf (uf f 1 tb) 4 lt) fl 1) rfl ?_
            have ec : sg n b (sks n b acc.2.1) = r_71 := by rw [← hok2, es3]; exact f74.symm
            have ec0 : r_2 = r_71 := by rw [f5, f74, ← es3, ← es1]
            have ec2 : r_61 = r_71 := by rw [f64, f74, ← es3, ← es2]
            have hlt : a_72 < n := by rcases Int.lt_or_le a_72 n with q | q; exact q; (exfalso; have e9 := f74; rw [sg_ge q] at e9; omega)
            obtain ⟨k1, rfl⟩ : ∃ k1, k = k1 + 1 := ⟨k - 1, by omega⟩
            have hle := sks_le n b a
            have hqo := hA0 (a_72 + 1) (by omega) (by omega)
            have hE2 : Rt = opL n b 42 47 (-3) (-4) (atomR n b rr) k1 (opN acc ((atomR n b rr) (a_72 + 1)) (if sg n b (sks n b acc.2.1) = 42 then (-3) else (-4))) := by rw [hE, opL_n hok1 (by omega), ← hok2, es3]
            refine Rx.walk 4 (pc' := 52) (L' := [some (.ref 0), some (.int (iz v)), some (.int (iz 0)), w3, w4]) (st' := [.int (iz 1), .int (iz a_72), .ref 0]) (h' := cmH (u1 (u1 (u1 (u1 (u1 z 8 bg) 9 n) 10 a_72) 11 (-1)) 12 dpv) zl (uf (uf f 1 tb) 4 lt) fl 1) rfl ?_
            refine Rx.iadd rfl ?_
            refine Rx.walk 2 (pc' := 57) (L' := [some (.ref 0), some (.int (iz v)), some (.int (iz 0)), w3, w4]) (st' := [.ref 0]) (h' := cmH (u1 (u1 (u1 (u1 (u1 z 8 bg) 9 n) 10 (a_72 + 1)) 11 (-1)) 12 dpv) zl (uf (uf f 1 tb) 4 lt) fl 1) rfl ?_
            refine Rx.callx (m' := m_X12_atom) (as := [.ref 0]) (rest := []) rfl (hA _ (u1 (u1 (u1 (u1 (u1 z 8 bg) 9 n) 10 (a_72 + 1)) 11 (-1)) 12 dpv) zl (uf (uf f 1 tb) 4 lt) fl 1  dpv n (a_72 + 1) bg tb b lt hT hM ⟨by omega, by omega⟩ hL ⟨by omega, by omega⟩) (fun v87 h88 q89 => ?_)
            obtain ⟨r_81, a_82, fa_83, dp_84, rfl, rfl, f85, f86⟩ := q89
            refine Rx.walk 0 (pc' := 60) (L' := [some (.ref 0), some (.int (iz v)), some (.int (iz 0)), w3, w4]) (st' := [.int (iz r_81)]) (h' := cmH (u1 (u1 (u1 (u1 (u1 z 8 bg) 9 n) 10 a_82) 11 fa_83) 12 dp_84) zl (uf (uf f 1 tb) 4 lt) fl 1) rfl ?_
            obtain ⟨hqa, hqf, hqb⟩ := id f86
            have hmb := mul_b hvb hqb
            have htb := tdiv_b (y := r_81) hvb
            refine Rx.i2l rfl ⟨by omega, by omega⟩ ?_
            refine Rx.walk 2 (pc' := 63) (L' := [some (.ref 0), some (.int (iz v)), some (.int (iz 0)), some (.long (jz r_81)), none]) (st' := [.int (iz 0)]) (h' := cmH (u1 (u1 (u1 (u1 (u1 z 8 bg) 9 n) 10 a_82) 11 fa_83) 12 dp_84) zl (uf (uf f 1 tb) 4 lt) fl 1) rfl ?_
            refine Rx.eq1 rfl rfl ⟨by omega, by omega⟩ (fun b90 => ?_) (fun b90 => by omega)
            refine Rx.walk 2 (pc' := 75) (L' := [some (.ref 0), some (.int (iz v)), some (.int (iz 0)), some (.long (jz r_81)), none]) (st' := [.long (jz 0), .long (jz r_81)]) (h' := cmH (u1 (u1 (u1 (u1 (u1 z 8 bg) 9 n) 10 a_82) 11 fa_83) 12 dp_84) zl (uf (uf f 1 tb) 4 lt) fl 1) rfl ?_
            refine Rx.lcmp rfl ⟨by omega, by omega⟩ ⟨by omega, by omega⟩ ?_
            refine Rx.nec rfl rfl (fun b91 => ?_) (fun b91 => ?_)
            · refine Rx.walk 1 (pc' := 84) (L' := [some (.ref 0), some (.int (iz v)), some (.int (iz 0)), some (.long (jz r_81)), none]) (st' := [.int (iz v)]) (h' := cmH (u1 (u1 (u1 (u1 (u1 z 8 bg) 9 n) 10 a_82) 11 fa_83) 12 dp_84) zl (uf (uf f 1 tb) 4 lt) fl 1) rfl ?_
              refine Rx.i2l rfl ⟨by omega, by omega⟩ ?_
              refine Rx.walk 1 (pc' := 86) (L' := [some (.ref 0), some (.int (iz v)), some (.int (iz 0)), some (.long (jz r_81)), none]) (st' := [.long (jz r_81), .long (jz v)]) (h' := cmH (u1 (u1 (u1 (u1 (u1 z 8 bg) 9 n) 10 a_82) 11 fa_83) 12 dp_84) zl (uf (uf f 1 tb) 4 lt) fl 1) rfl ?_
              refine Rx.ldivT rfl ⟨by omega, by omega⟩ ⟨by omega, by omega⟩ (by omega) ?_
              refine Rx.callx (m' := m_X12_within) (as := [.long (jz (v.tdiv r_81))]) (rest := []) rfl (n_within _ (cmH (u1 (u1 (u1 (u1 (u1 z 8 bg) 9 n) 10 a_82) 11 fa_83) 12 dp_84) zl (uf (uf f 1 tb) 4 lt) fl 1)  (v.tdiv r_81) ⟨by omega, by omega⟩) (fun v95 h96 q97 => ?_)
              obtain ⟨r_92, rfl, rfl, f93, f94⟩ := q97
              refine Rx.walk 0 (pc' := 90) (L' := [some (.ref 0), some (.int (iz v)), some (.int (iz 0)), some (.long (jz r_81)), none]) (st' := [.int (iz r_92)]) (h' := cmH (u1 (u1 (u1 (u1 (u1 z 8 bg) 9 n) 10 a_82) 11 fa_83) 12 dp_84) zl (uf (uf f 1 tb) 4 lt) fl 1) rfl ?_
              refine Rx.walk 2 (pc' := 5) (L' := [some (.ref 0), some (.int (iz r_92)), some (.int (iz 0)), some (.long (jz r_81)), none]) (st' := []) (h' := cmH (u1 (u1 (u1 (u1 (u1 z 8 bg) 9 n) 10 a_82) 11 fa_83) 12 dp_84) zl (uf (uf f 1 tb) 4 lt) fl 1) rfl ?_
              exact ih r_92 a_82 fa_83 dp_84 (opN acc ((atomR n b rr) (a_72 + 1)) (-4)) k1 (some (.int (iz 0))) (some (.long (jz r_81))) none ⟨by omega, by omega, by omega⟩ hqf f94 (mdR_op (op := -4) hok4 (by have z := f85; rw [hok3] at z; exact z) (fun _ => by rw [f93, wtn_id htb]; show _ = (if r_81 = 0 then 0 else v.tdiv r_81); rw [if_neg (by omega)])) (by omega) (by rw [hE2, if_neg (by omega)]) (fun z => by rcases f85 with y | y; (exfalso; unfold opN at z; rw [if_pos y.1] at z; exact absurd (show true = false from z) (by decide)); (have := y.2; have := hqo.1; omega)) (by first | assumption | omega) 
            · refine Rx.walk 2 (pc' := 87) (L' := [some (.ref 0), some (.int (iz v)), some (.int (iz 0)), some (.long (jz r_81)), none]) (st' := [.long (jz 0)]) (h' := cmH (u1 (u1 (u1 (u1 (u1 z 8 bg) 9 n) 10 a_82) 11 fa_83) 12 dp_84) zl (uf (uf f 1 tb) 4 lt) fl 1) rfl ?_
              refine Rx.callx (m' := m_X12_within) (as := [.long (jz 0)]) (rest := []) rfl (n_within _ (cmH (u1 (u1 (u1 (u1 (u1 z 8 bg) 9 n) 10 a_82) 11 fa_83) 12 dp_84) zl (uf (uf f 1 tb) 4 lt) fl 1)  0 ⟨by omega, by omega⟩) (fun v101 h102 q103 => ?_)
              obtain ⟨r_98, rfl, rfl, f99, f100⟩ := q103
              refine Rx.walk 0 (pc' := 90) (L' := [some (.ref 0), some (.int (iz v)), some (.int (iz 0)), some (.long (jz r_81)), none]) (st' := [.int (iz r_98)]) (h' := cmH (u1 (u1 (u1 (u1 (u1 z 8 bg) 9 n) 10 a_82) 11 fa_83) 12 dp_84) zl (uf (uf f 1 tb) 4 lt) fl 1) rfl ?_
              refine Rx.walk 2 (pc' := 5) (L' := [some (.ref 0), some (.int (iz r_98)), some (.int (iz 0)), some (.long (jz r_81)), none]) (st' := []) (h' := cmH (u1 (u1 (u1 (u1 (u1 z 8 bg) 9 n) 10 a_82) 11 fa_83) 12 dp_84) zl (uf (uf f 1 tb) 4 lt) fl 1) rfl ?_
              exact ih r_98 a_82 fa_83 dp_84 (opN acc ((atomR n b rr) (a_72 + 1)) (-4)) k1 (some (.int (iz 0))) (some (.long (jz r_81))) none ⟨by omega, by omega, by omega⟩ hqf f100 (mdR_op (op := -4) hok4 (by have z := f85; rw [hok3] at z; exact z) (fun _ => by rw [f99]; show wtn 0 = (if r_81 = 0 then 0 else v.tdiv r_81); rw [if_pos (by omega)]; rfl)) (by omega) (by rw [hE2, if_neg (by omega)]) (fun z => by rcases f85 with y | y; (exfalso; unfold opN at z; rw [if_pos y.1] at z; exact absurd (show true = false from z) (by decide)); (have := y.2; have := hqo.1; omega)) (by first | assumption | omega) 
          · refine Rx.walk 3 (pc' := 46) (L' := [some (.ref 0), some (.int (iz v)), some (.int (iz 1)), w3, w4]) (st' := []) (h' := cmH (u1 (u1 (u1 (u1 (u1 z 8 bg) 9 n) 10 a_72) 11 (-1)) 12 dpv) zl (uf (uf f 1 tb) 4 lt) fl 1) rfl ?_
            have ec : sg n b (sks n b acc.2.1) = r_71 := by rw [← hok2, es3]; exact f74.symm
            have ec0 : r_2 = r_71 := by rw [f5, f74, ← es3, ← es1]
            have ec2 : r_61 = r_71 := by rw [f64, f74, ← es3, ← es2]
            have hlt : a_72 < n := by rcases Int.lt_or_le a_72 n with q | q; exact q; (exfalso; have e9 := f74; rw [sg_ge q] at e9; omega)
            obtain ⟨k1, rfl⟩ : ∃ k1, k = k1 + 1 := ⟨k - 1, by omega⟩
            have hle := sks_le n b a
            have hqo := hA0 (a_72 + 1) (by omega) (by omega)
            have hE2 : Rt = opL n b 42 47 (-3) (-4) (atomR n b rr) k1 (opN acc ((atomR n b rr) (a_72 + 1)) (if sg n b (sks n b acc.2.1) = 42 then (-3) else (-4))) := by rw [hE, opL_n hok1 (by omega), ← hok2, es3]
            refine Rx.walk 4 (pc' := 52) (L' := [some (.ref 0), some (.int (iz v)), some (.int (iz 1)), w3, w4]) (st' := [.int (iz 1), .int (iz a_72), .ref 0]) (h' := cmH (u1 (u1 (u1 (u1 (u1 z 8 bg) 9 n) 10 a_72) 11 (-1)) 12 dpv) zl (uf (uf f 1 tb) 4 lt) fl 1) rfl ?_
            refine Rx.iadd rfl ?_
            refine Rx.walk 2 (pc' := 57) (L' := [some (.ref 0), some (.int (iz v)), some (.int (iz 1)), w3, w4]) (st' := [.ref 0]) (h' := cmH (u1 (u1 (u1 (u1 (u1 z 8 bg) 9 n) 10 (a_72 + 1)) 11 (-1)) 12 dpv) zl (uf (uf f 1 tb) 4 lt) fl 1) rfl ?_
            refine Rx.callx (m' := m_X12_atom) (as := [.ref 0]) (rest := []) rfl (hA _ (u1 (u1 (u1 (u1 (u1 z 8 bg) 9 n) 10 (a_72 + 1)) 11 (-1)) 12 dpv) zl (uf (uf f 1 tb) 4 lt) fl 1  dpv n (a_72 + 1) bg tb b lt hT hM ⟨by omega, by omega⟩ hL ⟨by omega, by omega⟩) (fun v110 h111 q112 => ?_)
            obtain ⟨r_104, a_105, fa_106, dp_107, rfl, rfl, f108, f109⟩ := q112
            refine Rx.walk 0 (pc' := 60) (L' := [some (.ref 0), some (.int (iz v)), some (.int (iz 1)), w3, w4]) (st' := [.int (iz r_104)]) (h' := cmH (u1 (u1 (u1 (u1 (u1 z 8 bg) 9 n) 10 a_105) 11 fa_106) 12 dp_107) zl (uf (uf f 1 tb) 4 lt) fl 1) rfl ?_
            obtain ⟨hqa, hqf, hqb⟩ := id f109
            have hmb := mul_b hvb hqb
            have htb := tdiv_b (y := r_104) hvb
            refine Rx.i2l rfl ⟨by omega, by omega⟩ ?_
            refine Rx.walk 2 (pc' := 63) (L' := [some (.ref 0), some (.int (iz v)), some (.int (iz 1)), some (.long (jz r_104)), none]) (st' := [.int (iz 1)]) (h' := cmH (u1 (u1 (u1 (u1 (u1 z 8 bg) 9 n) 10 a_105) 11 fa_106) 12 dp_107) zl (uf (uf f 1 tb) 4 lt) fl 1) rfl ?_
            refine Rx.eq1 rfl rfl ⟨by omega, by omega⟩ (fun b113 => by omega) (fun b113 => ?_)
            refine Rx.walk 1 (pc' := 67) (L' := [some (.ref 0), some (.int (iz v)), some (.int (iz 1)), some (.long (jz r_104)), none]) (st' := [.int (iz v)]) (h' := cmH (u1 (u1 (u1 (u1 (u1 z 8 bg) 9 n) 10 a_105) 11 fa_106) 12 dp_107) zl (uf (uf f 1 tb) 4 lt) fl 1) rfl ?_
            refine Rx.i2l rfl ⟨by omega, by omega⟩ ?_
            refine Rx.walk 1 (pc' := 69) (L' := [some (.ref 0), some (.int (iz v)), some (.int (iz 1)), some (.long (jz r_104)), none]) (st' := [.long (jz r_104), .long (jz v)]) (h' := cmH (u1 (u1 (u1 (u1 (u1 z 8 bg) 9 n) 10 a_105) 11 fa_106) 12 dp_107) zl (uf (uf f 1 tb) 4 lt) fl 1) rfl ?_
            refine Rx.lmul rfl ?_
            refine Rx.walk 1 (pc' := 87) (L' := [some (.ref 0), some (.int (iz v)), some (.int (iz 1)), some (.long (jz r_104)), none]) (st' := [.long (jz (v * r_104))]) (h' := cmH (u1 (u1 (u1 (u1 (u1 z 8 bg) 9 n) 10 a_105) 11 fa_106) 12 dp_107) zl (uf (uf f 1 tb) 4 lt) fl 1) rfl ?_
            refine Rx.callx (m' := m_X12_within) (as := [.long (jz (v * r_104))]) (rest := []) rfl (n_within _ (cmH (u1 (u1 (u1 (u1 (u1 z 8 bg) 9 n) 10 a_105) 11 fa_106) 12 dp_107) zl (uf (uf f 1 tb) 4 lt) fl 1)  (v * r_104) ⟨by omega, by omega⟩) (fun v117 h118 q119 => ?_)
            obtain ⟨r_114, rfl, rfl, f115, f116⟩ := q119
            refine Rx.walk 0 (pc' := 90) (L' := [some (.ref 0), some (.int (iz v)), some (.int (iz 1)), some (.long (jz r_104)), none]) (st' := [.int (iz r_114)]) (h' := cmH (u1 (u1 (u1 (u1 (u1 z 8 bg) 9 n) 10 a_105) 11 fa_106) 12 dp_107) zl (uf (uf f 1 tb) 4 lt) fl 1) rfl ?_
            refine Rx.walk 2 (pc' := 5) (L' := [some (.ref 0), some (.int (iz r_114)), some (.int (iz 1)), some (.long (jz r_104)), none]) (st' := []) (h' := cmH (u1 (u1 (u1 (u1 (u1 z 8 bg) 9 n) 10 a_105) 11 fa_106) 12 dp_107) zl (uf (uf f 1 tb) 4 lt) fl 1) rfl ?_
            exact ih r_114 a_105 fa_106 dp_107 (opN acc ((atomR n b rr) (a_72 + 1)) (-3)) k1 (some (.int (iz 1))) (some (.long (jz r_104))) none ⟨by omega, by omega, by omega⟩ hqf f116 (mdR_op (op := -3) hok4 (by have z := f108; rw [hok3] at z; exact z) (fun _ => f115)) (by omega) (by rw [hE2, if_pos (by omega)]) (fun z => by rcases f108 with y | y; (exfalso; unfold opN at z; rw [if_pos y.1] at z; exact absurd (show true = false from z) (by decide)); (have := y.2; have := hqo.1; omega)) (by first | assumption | omega) 
set_option maxRecDepth 100000 in
set_option maxHeartbeats 4000000 in
theorem m_rTerm1 (d : Nat) (z : Nat → Int) (zl : Nat → Int) (f : Nat → Int → Int) (fl : Nat → Int → Int) (tx : Nat) (D rr : Nat) (hA : ∀ (d : Nat) (z : Nat → Int) (zl : Nat → Int) (f : Nat → Int → Int) (fl : Nat → Int → Int) (tx : Nat)  (dp : Int) (n : Int) (a : Int) (bg : Int) (tb : Int → Int) (b : Int → Int) (lt : Int → Int) (hT : tOK n b) (hM : mOK n bg 160 tb b) (ha : 0 ≤ a ∧ a ≤ n) (hL : ∀ k : Int, 0 ≤ k → k < 128 → -1000000 ≤ lt k ∧ lt k ≤ 1000000) (hdp : 0 ≤ dp ∧ dp = 6 - (rr : Int)), Rx (d + (D + 2)) m_X12_atom 0 (am_ent [.ref 0] 4) [] (cmH (u1 (u1 (u1 (u1 (u1 z 8 bg) 9 n) 10 a) 11 (-1)) 12 dp) zl (uf (uf f 1 tb) 4 lt) fl 1) (fun rv h => ∃ r : Int, ∃ a' : Int, ∃ fa' : Int, ∃ dp' : Int, rv = some (.int (iz r)) ∧ h = cmH (u1 (u1 (u1 (u1 (u1 z 8 bg) 9 n) 10 a') 11 fa') 12 dp') zl (uf (uf f 1 tb) 4 lt) fl 1 ∧ mdR (atomR n b rr a) (ltL lt) dp r a' fa' dp' ∧ ((a ≤ a' ∧ a' ≤ n) ∧ (fa' = -1 ∨ (0 ≤ fa' ∧ fa' ≤ 160)) ∧ (-1000000 ≤ r ∧ r ≤ 1000000)))) (dp : Int) (n : Int) (a : Int) (bg : Int) (tb : Int → Int) (b : Int → Int) (lt : Int → Int) (hT : tOK n b) (hM : mOK n bg 160 tb b) (ha : 0 ≤ a ∧ a ≤ n) (hL : ∀ k : Int, 0 ≤ k → k < 128 → -1000000 ≤ lt k ∧ lt k ≤ 1000000) (hdp : 0 ≤ dp ∧ dp = 6 - (rr : Int)) : Rx (d + (D + 3)) m_X12_term 0 (am_ent [.ref 0] 5) [] (cmH (u1 (u1 (u1 (u1 (u1 z 8 bg) 9 n) 10 a) 11 (-1)) 12 dp) zl (uf (uf f 1 tb) 4 lt) fl 1) (fun rv h => ∃ r : Int, ∃ a' : Int, ∃ fa' : Int, ∃ dp' : Int, rv = some (.int (iz r)) ∧ h = cmH (u1 (u1 (u1 (u1 (u1 z 8 bg) 9 n) 10 a') 11 fa') 12 dp') zl (uf (uf f 1 tb) 4 lt) fl 1 ∧ mdR (termG n b (atomR n b rr) a) (ltL lt) dp r a' fa' dp' ∧ ((a ≤ a' ∧ a' ≤ n) ∧ (fa' = -1 ∨ (0 ≤ fa' ∧ fa' ≤ 160)) ∧ (-1000000 ≤ r ∧ r ≤ 1000000))) := by
  obtain ⟨hT1, hT2, hT3⟩ := id hT
  have hbg := hM.1
  have hbz := hM.2.1
  have hrr : 0 ≤ (rr : Int) := by omega
  refine Rx.walk 0 (pc' := 0) (L' := [some (.ref 0), none, none, none, none]) (st' := []) (h' := cmH (u1 (u1 (u1 (u1 (u1 z 8 bg) 9 n) 10 a) 11 (-1)) 12 dp) zl (uf (uf f 1 tb) 4 lt) fl 1) rfl ?_
  refine Rx.walk 1 (pc' := 1) (L' := [some (.ref 0), none, none, none, none]) (st' := [.ref 0]) (h' := cmH (u1 (u1 (u1 (u1 (u1 z 8 bg) 9 n) 10 a) 11 (-1)) 12 dp) zl (uf (uf f 1 tb) 4 lt) fl 1) rfl ?_
  refine Rx.callx (m' := m_X12_atom) (as := [.ref 0]) (rest := []) rfl (hA _ (u1 (u1 (u1 (u1 (u1 z 8 bg) 9 n) 10 a) 11 (-1)) 12 dp) zl (uf (uf f 1 tb) 4 lt) fl 1  dp n a bg tb b lt hT hM ha hL hdp) (fun v7 h8 q9 => ?_)
  obtain ⟨r_1, a_2, fa_3, dp_4, rfl, rfl, f5, f6⟩ := q9
  refine Rx.walk 0 (pc' := 4) (L' := [some (.ref 0), none, none, none, none]) (st' := [.int (iz r_1)]) (h' := cmH (u1 (u1 (u1 (u1 (u1 z 8 bg) 9 n) 10 a_2) 11 fa_3) 12 dp_4) zl (uf (uf f 1 tb) 4 lt) fl 1) rfl ?_
  obtain ⟨hqa, hqf, hqb⟩ := id f6
  have hok : rdOK n (atomR n b rr) := atomR_ok (n := n) (b := b) rr
  have hqo := hok a ha.1 ha.2
  refine Rx.walk 1 (pc' := 5) (L' := [some (.ref 0), some (.int (iz r_1)), none, none, none]) (st' := []) (h' := cmH (u1 (u1 (u1 (u1 (u1 z 8 bg) 9 n) 10 a_2) 11 fa_3) 12 dp_4) zl (uf (uf f 1 tb) 4 lt) fl 1) rfl ?_
  refine m_rTerm1_l _ (u1 (u1 (u1 (u1 (u1 z 8 bg) 9 n) 10 a_2) 11 fa_3) 12 dp_4) zl (uf (uf f 1 tb) 4 lt) fl 1 D rr hA dp n bg tb b lt (termG n b (atomR n b rr) a) a hT hM hL hdp hok _ ?_ ((n - a_2) + 1 : Int).toNat r_1 a_2 fa_3 dp_4 ((atomR n b rr) a) 161 none none none ⟨by omega, by omega, by omega⟩ hqf hqb f5 (by omega) rfl (fun z => by rcases f5 with y | y; exact absurd (z.symm.trans y.1) (by decide); (have := y.2; have := hqo.1; omega)) (by omega) 
  intro r_10 a_11 fa_12 dp_13 f14 f15
  show (fun (rv : Option Value) (h : AmH) => ∃ r : Int, ∃ a' : Int, ∃ fa' : Int, ∃ dp' : Int, rv = some (.int (iz r)) ∧ h = cmH (u1 (u1 (u1 (u1 (u1 z 8 bg) 9 n) 10 a') 11 fa') 12 dp') zl (uf (uf f 1 tb) 4 lt) fl 1 ∧ mdR (termG n b (atomR n b rr) a) (ltL lt) dp r a' fa' dp' ∧ ((a ≤ a' ∧ a' ≤ n) ∧ (fa' = -1 ∨ (0 ≤ fa' ∧ fa' ≤ 160)) ∧ (-1000000 ≤ r ∧ r ≤ 1000000))) (some (Value.int (iz r_10))) (cmH (u1 (u1 (u1 (u1 (u1 z 8 bg) 9 n) 10 a_11) 11 fa_12) 12 dp_13) zl (uf (uf f 1 tb) 4 lt) fl 1)
  exact ⟨_, _, _, _, rfl, rfl, f14, f15⟩
set_option maxRecDepth 100000 in
set_option maxHeartbeats 4000000 in
theorem m_rSum1_l (d : Nat) (z : Nat → Int) (zl : Nat → Int) (f : Nat → Int → Int) (fl : Nat → Int → Int) (tx : Nat) (D rr : Nat) (hT_ : ∀ (d : Nat) (z : Nat → Int) (zl : Nat → Int) (f : Nat → Int → Int) (fl : Nat → Int → Int) (tx : Nat)  (dp : Int) (n : Int) (a : Int) (bg : Int) (tb : Int → Int) (b : Int → Int) (lt : Int → Int) (hT : tOK n b) (hM : mOK n bg 160 tb b) (ha : 0 ≤ a ∧ a ≤ n) (hL : ∀ k : Int, 0 ≤ k → k < 128 → -1000000 ≤ lt k ∧ lt k ≤ 1000000) (hdp : 0 ≤ dp ∧ dp = 6 - (rr : Int)), Rx (d + (D + 2)) m_X12_term 0 (am_ent [.ref 0] 5) [] (cmH (u1 (u1 (u1 (u1 (u1 z 8 bg) 9 n) 10 a) 11 (-1)) 12 dp) zl (uf (uf f 1 tb) 4 lt) fl 1) (fun rv h => ∃ r : Int, ∃ a' : Int, ∃ fa' : Int, ∃ dp' : Int, rv = some (.int (iz r)) ∧ h = cmH (u1 (u1 (u1 (u1 (u1 z 8 bg) 9 n) 10 a') 11 fa') 12 dp') zl (uf (uf f 1 tb) 4 lt) fl 1 ∧ mdR (termG n b (atomR n b rr) a) (ltL lt) dp r a' fa' dp' ∧ ((a ≤ a' ∧ a' ≤ n) ∧ (fa' = -1 ∨ (0 ≤ fa' ∧ fa' ≤ 160)) ∧ (-1000000 ≤ r ∧ r ≤ 1000000)))) (dp : Int) (n : Int) (bg : Int) (tb : Int → Int) (b : Int → Int) (lt : Int → Int) (Rt : RsT) (a0 : Int) (hT : tOK n b) (hM : mOK n bg 160 tb b) (hL : ∀ k : Int, 0 ≤ k → k < 128 → -1000000 ≤ lt k ∧ lt k ≤ 1000000) (hdp : 0 ≤ dp ∧ dp = 6 - (rr : Int)) (hA0 : rdOK n (termG n b (atomR n b rr))) (P : Option Value → AmH → Prop) (hx0 : ∀ (r : Int) (a' : Int) (fa' : Int) (dp' : Int), (mdR Rt (ltL lt) dp r a' fa' dp') → ((a0 ≤ a' ∧ a' ≤ n) ∧ (fa' = -1 ∨ (0 ≤ fa' ∧ fa' ≤ 160)) ∧ (-1000000 ≤ r ∧ r ≤ 1000000)) → P (some (.int (iz r))) (cmH (u1 (u1 (u1 (u1 (u1 z 8 bg) 9 n) 10 a') 11 fa') 12 dp') zl (uf (uf f 1 tb) 4 lt) fl 1)) : ∀ (kF : Nat) (v : Int) (a : Int) (fa : Int) (dpv : Int) (acc : RsT) (k : Nat) (w2 : Option Value) (w3 : Option Value) (w4 : Option Value), (0 ≤ a ∧ a ≤ n ∧ a0 ≤ a) → (fa = -1 ∨ (0 ≤ fa ∧ fa ≤ 160)) → (-1000000 ≤ v ∧ v ≤ 1000000) → (mdR acc (ltL lt) dp v a fa dpv) → (n - a < (k : Int)) → (Rt = opL n b 43 45 (-1) (-2) (termG n b (atomR n b rr)) k acc) → (acc.1 = false → fa ≠ -1) → (n - a) < (kF : Int) → Rx (d + (D + 3)) m_X12_sum 5 [some (.ref 0), some (.int (iz v)), w2, w3, w4] [] (cmH (u1 (u1 (u1 (u1 (u1 z 8 bg) 9 n) 10 a) 11 fa) 12 dpv) zl (uf (uf f 1 tb) 4 lt) fl 1) P := by
  obtain ⟨hT1, hT2, hT3⟩ := id hT
  have hbg := hM.1
  have hbz := hM.2.1
  have hrr : 0 ≤ (rr : Int) := by omega
  intro kF
  induction kF with
  | zero =>
    intro v a fa dpv acc k w2 w3 w4 ha hfa hvb hR hk hE hfp hk
    exfalso; omega
  | succ kF ih =>
    intro v a fa dpv acc k w2 w3 w4 ha hfa hvb hR hk hE hfp hk
    refine Rx.walk 3 (pc' := 10) (L' := [some (.ref 0), some (.int (iz v)), w2, w3, w4]) (st' := [.int (iz (-1)), .int (iz fa)]) (h' := cmH (u1 (u1 (u1 (u1 (u1 z 8 bg) 9 n) 10 a) 11 fa) 12 dpv) zl (uf (uf f 1 tb) 4 lt) fl 1) rfl ?_
    refine Rx.ne2 rfl rfl ⟨by omega, by omega⟩ ⟨by omega, by omega⟩ (fun b1 => ?_) (fun b1 => ?_)
    · refine Rx.walk 1 (pc' := 85) (L' := [some (.ref 0), some (.int (iz v)), w2, w3, w4]) (st' := [.int (iz v)]) (h' := cmH (u1 (u1 (u1 (u1 (u1 z 8 bg) 9 n) 10 a) 11 fa) 12 dpv) zl (uf (uf f 1 tb) 4 lt) fl 1) rfl ?_
      refine Rx.ret rfl ?_
      exact hx0 _ _ _ _ (by rw [hE, opL_f (show acc.1 = false from by rcases hR with z | z; (exact absurd z.2.1 (by omega)); exact z.1)]; exact hR) ⟨⟨by omega, by omega⟩, hfa, hvb⟩
    · obtain rfl : fa = -1 := by omega
      obtain ⟨hok1, hok2, hok3, hok4⟩ : acc.1 = true ∧ a = acc.2.1 ∧ dpv = dp ∧ v = acc.2.2.2 (ltL lt) := by rcases hR with z | z; (exact ⟨z.1, z.2.2.1, z.2.2.2.1, z.2.2.2.2⟩); (exact absurd rfl (hfp z.1))
      refine Rx.walk 1 (pc' := 14) (L' := [some (.ref 0), some (.int (iz v)), w2, w3, w4]) (st' := [.ref 0]) (h' := cmH (u1 (u1 (u1 (u1 (u1 z 8 bg) 9 n) 10 a) 11 (-1)) 12 dpv) zl (uf (uf f 1 tb) 4 lt) fl 1) rfl ?_
      refine Rx.callx (m' := m_X12_look) (as := [.ref 0]) (rest := []) rfl (m_look1 _ (u1 (u1 (u1 (u1 (u1 z 8 bg) 9 n) 10 a) 11 (-1)) 12 dpv) zl (uf (uf f 1 tb) 4 lt) fl 1  n a bg (-1) tb b hT hM ⟨by omega, by omega⟩) (fun v8 h9 q10 => ?_)
      obtain ⟨r_2, a_3, rfl, rfl, f4, f5, f6, f7⟩ := q10
      refine Rx.walk 0 (pc' := 17) (L' := [some (.ref 0), some (.int (iz v)), w2, w3, w4]) (st' := [.int (iz r_2)]) (h' := cmH (u1 (u1 (u1 (u1 (u1 z 8 bg) 9 n) 10 a_3) 11 (-1)) 12 dpv) zl (uf (uf f 1 tb) 4 lt) fl 1) rfl ?_
      have es1 : sks n b a = a_3 := f4.symm
      refine Rx.walk 1 (pc' := 19) (L' := [some (.ref 0), some (.int (iz v)), w2, w3, w4]) (st' := [.int (iz 43), .int (iz r_2)]) (h' := cmH (u1 (u1 (u1 (u1 (u1 z 8 bg) 9 n) 10 a_3) 11 (-1)) 12 dpv) zl (uf (uf f 1 tb) 4 lt) fl 1) rfl ?_
      refine Rx.eq2 rfl rfl ⟨by omega, by omega⟩ ⟨by omega, by omega⟩ (fun b11 => ?_) (fun b11 => ?_)
      · refine Rx.walk 1 (pc' := 32) (L' := [some (.ref 0), some (.int (iz v)), w2, w3, w4]) (st' := [.ref 0]) (h' := cmH (u1 (u1 (u1 (u1 (u1 z 8 bg) 9 n) 10 a_3) 11 (-1)) 12 dpv) zl (uf (uf f 1 tb) 4 lt) fl 1) rfl ?_
        refine Rx.callx (m' := m_X12_look) (as := [.ref 0]) (rest := []) rfl (m_look1 _ (u1 (u1 (u1 (u1 (u1 z 8 bg) 9 n) 10 a_3) 11 (-1)) 12 dpv) zl (uf (uf f 1 tb) 4 lt) fl 1  n a_3 bg (-1) tb b hT hM ⟨by omega, by omega⟩) (fun v18 h19 q20 => ?_)
        obtain ⟨r_12, a_13, rfl, rfl, f14, f15, f16, f17⟩ := q20
        refine Rx.walk 0 (pc' := 35) (L' := [some (.ref 0), some (.int (iz v)), w2, w3, w4]) (st' := [.int (iz r_12)]) (h' := cmH (u1 (u1 (u1 (u1 (u1 z 8 bg) 9 n) 10 a_13) 11 (-1)) 12 dpv) zl (uf (uf f 1 tb) 4 lt) fl 1) rfl ?_
        have es2 : sks n b a = a_13 := by rw [f14, es1.symm, sks_sks]
        refine Rx.walk 1 (pc' := 37) (L' := [some (.ref 0), some (.int (iz v)), w2, w3, w4]) (st' := [.int (iz 43), .int (iz r_12)]) (h' := cmH (u1 (u1 (u1 (u1 (u1 z 8 bg) 9 n) 10 a_13) 11 (-1)) 12 dpv) zl (uf (uf f 1 tb) 4 lt) fl 1) rfl ?_
        refine Rx.ne2 rfl rfl ⟨by omega, by omega⟩ ⟨by omega, by omega⟩ (fun b21 => ?_) (fun b21 => ?_)
        · refine Rx.walk 2 (pc' := 46) (L' := [some (.ref 0), some (.int (iz v)), some (.int (iz 0)), w3, w4]) (st' := []) (h' := cmH (u1 (u1 (u1 (u1 (u1 z 8 bg) 9 n) 10 a_13) 11 (-1)) 12 dpv) zl (uf (uf f 1 tb) 4 lt) fl 1) rfl ?_
          have ec : sg n b (sks n b acc.2.1) = r_12 := by rw [← hok2, es2]; exact f15.symm
          have ec0 : r_2 = r_12 := by rw [f5, f15, ← es2, ← es1]
          have hlt : a_13 < n := by rcases Int.lt_or_le a_13 n with q | q; exact q; (exfalso; have e9 := f15; rw [sg_ge q] at e9; omega)
          obtain ⟨k1, rfl⟩ : ∃ k1, k = k1 + 1 := ⟨k - 1, by omega⟩
          have hle := sks_le n b a
          have hqo := hA0 (a_13 + 1) (by omega) (by omega)
          have hE2 : Rt = opL n b 43 45 (-1) (-2) (termG n b (atomR n b rr)) k1 (opN acc ((termG n b (atomR n b rr)) (a_13 + 1)) (if sg n b (sks n b acc.2.1) = 43 then (-1) else (-2))) := by rw [hE, opL_n hok1 (by omega), ← hok2, es2]
          refine Rx.walk 4 (pc' := 52) (L' := [some (.ref 0), some (.int (iz v)), some (.int (iz 0)), w3, w4]) (st' := [.int (iz 1), .int (iz a_13), .ref 0]) (h' := cmH (u1 (u1 (u1 (u1 (u1 z 8 bg) 9 n) 10 a_13) 11 (-1)) 12 dpv) zl (uf (uf f 1 tb) 4 lt) fl 1) rfl ?_
          refine Rx.iadd rfl ?_
          refine Rx.walk 2 (pc' := 57) (L' := [some (.ref 0), some (.int (iz v)), some (.int (iz 0)), w3, w4]) (st' := [.ref 0]) (h' := cmH (u1 (u1 (u1 (u1 (u1 z 8 bg) 9 n) 10 (a_13 + 1)) 11 (-1)) 12 dpv) zl (uf (uf f 1 tb) 4 lt) fl 1) rfl ?_
          refine Rx.callx (m' := m_X12_term) (as := [.ref 0]) (rest := []) rfl (hT_ _ (u1 (u1 (u1 (u1 (u1 z 8 bg) 9 n) 10 (a_13 + 1)) 11 (-1)) 12 dpv) zl (uf (uf f 1 tb) 4 lt) fl 1  dpv n (a_13 + 1) bg tb b lt hT hM ⟨by omega, by omega⟩ hL ⟨by omega, by omega⟩) (fun v28 h29 q30 => ?_)
          obtain ⟨r_22, a_23, fa_24, dp_25, rfl, rfl, f26, f27⟩ := q30
          refine Rx.walk 0 (pc' := 60) (L' := [some (.ref 0), some (.int (iz v)), some (.int (iz 0)), w3, w4]) (st' := [.int (iz r_22)]) (h' := cmH (u1 (u1 (u1 (u1 (u1 z 8 bg) 9 n) 10 a_23) 11 fa_24) 12 dp_25) zl (uf (uf f 1 tb) 4 lt) fl 1) rfl ?_
          obtain ⟨hqa, hqf, hqb⟩ := id f27
          have hmb := mul_b hvb hqb
          have htb := tdiv_b (y := r_22) hvb
          refine Rx.i2l rfl ⟨by omega, by omega⟩ ?_
          refine Rx.walk 2 (pc' := 63) (L' := [some (.ref 0), some (.int (iz v)), some (.int (iz 0)), some (.long (jz r_22)), none]) (st' := [.int (iz 0)]) (h' := cmH (u1 (u1 (u1 (u1 (u1 z 8 bg) 9 n) 10 a_23) 11 fa_24) 12 dp_25) zl (uf (uf f 1 tb) 4 lt) fl 1) rfl ?_
          refine Rx.eq1 rfl rfl ⟨by omega, by omega⟩ (fun b31 => ?_) (fun b31 => by omega)
          refine Rx.walk 1 (pc' := 74) (L' := [some (.ref 0), some (.int (iz v)), some (.int (iz 0)), some (.long (jz r_22)), none]) (st' := [.int (iz v)]) (h' := cmH (u1 (u1 (u1 (u1 (u1 z 8 bg) 9 n) 10 a_23) 11 fa_24) 12 dp_25) zl (uf (uf f 1 tb) 4 lt) fl 1) rfl ?_
          refine Rx.i2l rfl ⟨by omega, by omega⟩ ?_
          refine Rx.walk 1 (pc' := 76) (L' := [some (.ref 0), some (.int (iz v)), some (.int (iz 0)), some (.long (jz r_22)), none]) (st' := [.long (jz r_22), .long (jz v)]) (h' := cmH (u1 (u1 (u1 (u1 (u1 z 8 bg) 9 n) 10 a_23) 11 fa_24) 12 dp_25) zl (uf (uf f 1 tb) 4 lt) fl 1) rfl ?_
          refine Rx.lsub rfl ?_
          refine Rx.callx (m' := m_X12_within) (as := [.long (jz (v - r_22))]) (rest := []) rfl (n_within _ (cmH (u1 (u1 (u1 (u1 (u1 z 8 bg) 9 n) 10 a_23) 11 fa_24) 12 dp_25) zl (uf (uf f 1 tb) 4 lt) fl 1)  (v - r_22) ⟨by omega, by omega⟩) (fun v35 h36 q37 => ?_)
          obtain ⟨r_32, rfl, rfl, f33, f34⟩ := q37
          refine Rx.walk 0 (pc' := 80) (L' := [some (.ref 0), some (.int (iz v)), some (.int (iz 0)), some (.long (jz r_22)), none]) (st' := [.int (iz r_32)]) (h' := cmH (u1 (u1 (u1 (u1 (u1 z 8 bg) 9 n) 10 a_23) 11 fa_24) 12 dp_25) zl (uf (uf f 1 tb) 4 lt) fl 1) rfl ?_
          refine Rx.walk 2 (pc' := 5) (L' := [some (.ref 0), some (.int (iz r_32)), some (.int (iz 0)), some (.long (jz r_22)), none]) (st' := []) (h' := cmH (u1 (u1 (u1 (u1 (u1 z 8 bg) 9 n) 10 a_23) 11 fa_24) 12 dp_25) zl (uf (uf f 1 tb) 4 lt) fl 1) rfl ?_
          exact ih r_32 a_23 fa_24 dp_25 (opN acc ((termG n b (atomR n b rr)) (a_13 + 1)) (-2)) k1 (some (.int (iz 0))) (some (.long (jz r_22))) none ⟨by omega, by omega, by omega⟩ hqf f34 (mdR_op (op := -2) hok4 (by have z := f26; rw [hok3] at z; exact z) (fun _ => f33)) (by omega) (by rw [hE2, if_neg (by omega)]) (fun z => by rcases f26 with y | y; (exfalso; unfold opN at z; rw [if_pos y.1] at z; exact absurd (show true = false from z) (by decide)); (have := y.2; have := hqo.1; omega)) (by first | assumption | omega) 
        · refine Rx.walk 3 (pc' := 46) (L' := [some (.ref 0), some (.int (iz v)), some (.int (iz 1)), w3, w4]) (st' := []) (h' := cmH (u1 (u1 (u1 (u1 (u1 z 8 bg) 9 n) 10 a_13) 11 (-1)) 12 dpv) zl (uf (uf f 1 tb) 4 lt) fl 1) rfl ?_
          have ec : sg n b (sks n b acc.2.1) = r_12 := by rw [← hok2, es2]; exact f15.symm
          have ec0 : r_2 = r_12 := by rw [f5, f15, ← es2, ← es1]
          have hlt : a_13 < n := by rcases Int.lt_or_le a_13 n with q | q; exact q; (exfalso; have e9 := f15; rw [sg_ge q] at e9; omega)
          obtain ⟨k1, rfl⟩ : ∃ k1, k = k1 + 1 := ⟨k - 1, by omega⟩
          have hle := sks_le n b a
          have hqo := hA0 (a_13 + 1) (by omega) (by omega)
          have hE2 : Rt = opL n b 43 45 (-1) (-2) (termG n b (atomR n b rr)) k1 (opN acc ((termG n b (atomR n b rr)) (a_13 + 1)) (if sg n b (sks n b acc.2.1) = 43 then (-1) else (-2))) := by rw [hE, opL_n hok1 (by omega), ← hok2, es2]
          refine Rx.walk 4 (pc' := 52) (L' := [some (.ref 0), some (.int (iz v)), some (.int (iz 1)), w3, w4]) (st' := [.int (iz 1), .int (iz a_13), .ref 0]) (h' := cmH (u1 (u1 (u1 (u1 (u1 z 8 bg) 9 n) 10 a_13) 11 (-1)) 12 dpv) zl (uf (uf f 1 tb) 4 lt) fl 1) rfl ?_
          refine Rx.iadd rfl ?_
          refine Rx.walk 2 (pc' := 57) (L' := [some (.ref 0), some (.int (iz v)), some (.int (iz 1)), w3, w4]) (st' := [.ref 0]) (h' := cmH (u1 (u1 (u1 (u1 (u1 z 8 bg) 9 n) 10 (a_13 + 1)) 11 (-1)) 12 dpv) zl (uf (uf f 1 tb) 4 lt) fl 1) rfl ?_
          refine Rx.callx (m' := m_X12_term) (as := [.ref 0]) (rest := []) rfl (hT_ _ (u1 (u1 (u1 (u1 (u1 z 8 bg) 9 n) 10 (a_13 + 1)) 11 (-1)) 12 dpv) zl (uf (uf f 1 tb) 4 lt) fl 1  dpv n (a_13 + 1) bg tb b lt hT hM ⟨by omega, by omega⟩ hL ⟨by omega, by omega⟩) (fun v44 h45 q46 => ?_)
          obtain ⟨r_38, a_39, fa_40, dp_41, rfl, rfl, f42, f43⟩ := q46
          refine Rx.walk 0 (pc' := 60) (L' := [some (.ref 0), some (.int (iz v)), some (.int (iz 1)), w3, w4]) (st' := [.int (iz r_38)]) (h' := cmH (u1 (u1 (u1 (u1 (u1 z 8 bg) 9 n) 10 a_39) 11 fa_40) 12 dp_41) zl (uf (uf f 1 tb) 4 lt) fl 1) rfl ?_
          obtain ⟨hqa, hqf, hqb⟩ := id f43
          have hmb := mul_b hvb hqb
          have htb := tdiv_b (y := r_38) hvb
          refine Rx.i2l rfl ⟨by omega, by omega⟩ ?_
          refine Rx.walk 2 (pc' := 63) (L' := [some (.ref 0), some (.int (iz v)), some (.int (iz 1)), some (.long (jz r_38)), none]) (st' := [.int (iz 1)]) (h' := cmH (u1 (u1 (u1 (u1 (u1 z 8 bg) 9 n) 10 a_39) 11 fa_40) 12 dp_41) zl (uf (uf f 1 tb) 4 lt) fl 1) rfl ?_
          refine Rx.eq1 rfl rfl ⟨by omega, by omega⟩ (fun b47 => by omega) (fun b47 => ?_)
          refine Rx.walk 1 (pc' := 67) (L' := [some (.ref 0), some (.int (iz v)), some (.int (iz 1)), some (.long (jz r_38)), none]) (st' := [.int (iz v)]) (h' := cmH (u1 (u1 (u1 (u1 (u1 z 8 bg) 9 n) 10 a_39) 11 fa_40) 12 dp_41) zl (uf (uf f 1 tb) 4 lt) fl 1) rfl ?_
          refine Rx.i2l rfl ⟨by omega, by omega⟩ ?_
          refine Rx.walk 1 (pc' := 69) (L' := [some (.ref 0), some (.int (iz v)), some (.int (iz 1)), some (.long (jz r_38)), none]) (st' := [.long (jz r_38), .long (jz v)]) (h' := cmH (u1 (u1 (u1 (u1 (u1 z 8 bg) 9 n) 10 a_39) 11 fa_40) 12 dp_41) zl (uf (uf f 1 tb) 4 lt) fl 1) rfl ?_
          refine Rx.ladd rfl ?_
          refine Rx.walk 1 (pc' := 77) (L' := [some (.ref 0), some (.int (iz v)), some (.int (iz 1)), some (.long (jz r_38)), none]) (st' := [.long (jz (v + r_38))]) (h' := cmH (u1 (u1 (u1 (u1 (u1 z 8 bg) 9 n) 10 a_39) 11 fa_40) 12 dp_41) zl (uf (uf f 1 tb) 4 lt) fl 1) rfl ?_
          refine Rx.callx (m' := m_X12_within) (as := [.long (jz (v + r_38))]) (rest := []) rfl (n_within _ (cmH (u1 (u1 (u1 (u1 (u1 z 8 bg) 9 n) 10 a_39) 11 fa_40) 12 dp_41) zl (uf (uf f 1 tb) 4 lt) fl 1)  (v + r_38) ⟨by omega, by omega⟩) (fun v51 h52 q53 => ?_)
          obtain ⟨r_48, rfl, rfl, f49, f50⟩ := q53
          refine Rx.walk 0 (pc' := 80) (L' := [some (.ref 0), some (.int (iz v)), some (.int (iz 1)), some (.long (jz r_38)), none]) (st' := [.int (iz r_48)]) (h' := cmH (u1 (u1 (u1 (u1 (u1 z 8 bg) 9 n) 10 a_39) 11 fa_40) 12 dp_41) zl (uf (uf f 1 tb) 4 lt) fl 1) rfl ?_
          refine Rx.walk 2 (pc' := 5) (L' := [some (.ref 0), some (.int (iz r_48)), some (.int (iz 1)), some (.long (jz r_38)), none]) (st' := []) (h' := cmH (u1 (u1 (u1 (u1 (u1 z 8 bg) 9 n) 10 a_39) 11 fa_40) 12 dp_41) zl (uf (uf f 1 tb) 4 lt) fl 1) rfl ?_
          exact ih r_48 a_39 fa_40 dp_41 (opN acc ((termG n b (atomR n b rr)) (a_13 + 1)) (-1)) k1 (some (.int (iz 1))) (some (.long (jz r_38))) none ⟨by omega, by omega, by omega⟩ hqf f50 (mdR_op (op := -1) hok4 (by have z := f42; rw [hok3] at z; exact z) (fun _ => f49)) (by omega) (by rw [hE2, if_pos (by omega)]) (fun z => by rcases f42 with y | y; (exfalso; unfold opN at z; rw [if_pos y.1] at z; exact absurd (show true = false from z) (by decide)); (have := y.2; have := hqo.1; omega)) (by first | assumption | omega) 
      · refine Rx.walk 1 (pc' := 23) (L' := [some (.ref 0), some (.int (iz v)), w2, w3, w4]) (st' := [.ref 0]) (h' := cmH (u1 (u1 (u1 (u1 (u1 z 8 bg) 9 n) 10 a_3) 11 (-1)) 12 dpv) zl (uf (uf f 1 tb) 4 lt) fl 1) rfl ?_
        refine Rx.callx (m' := m_X12_look) (as := [.ref 0]) (rest := []) rfl (m_look1 _ (u1 (u1 (u1 (u1 (u1 z 8 bg) 9 n) 10 a_3) 11 (-1)) 12 dpv) zl (uf (uf f 1 tb) 4 lt) fl 1  n a_3 bg (-1) tb b hT hM ⟨by omega, by omega⟩) (fun v60 h61 q62 => ?_)
        obtain ⟨r_54, a_55, rfl, rfl, f56, f57, f58, f59⟩ := q62
        refine Rx.walk 0 (pc' := 26) (L' := [some (.ref 0), some (.int (iz v)), w2, w3, w4]) (st' := [.int (iz r_54)]) (h' := cmH (u1 (u1 (u1 (u1 (u1 z 8 bg) 9 n) 10 a_55) 11 (-1)) 12 dpv) zl (uf (uf f 1 tb) 4 lt) fl 1) rfl ?_
        have es2 : sks n b a = a_55 := by rw [f56, es1.symm, sks_sks]
        refine Rx.walk 1 (pc' := 28) (L' := [some (.ref 0), some (.int (iz v)), w2, w3, w4]) (st' := [.int (iz 45), .int (iz r_54)]) (h' := cmH (u1 (u1 (u1 (u1 (u1 z 8 bg) 9 n) 10 a_55) 11 (-1)) 12 dpv) zl (uf (uf f 1 tb) 4 lt) fl 1) rfl ?_
        refine Rx.ne2 rfl rfl ⟨by omega, by omega⟩ ⟨by omega, by omega⟩ (fun b63 => ?_) (fun b63 => ?_)
        · refine Rx.walk 1 (pc' := 85) (L' := [some (.ref 0), some (.int (iz v)), w2, w3, w4]) (st' := [.int (iz v)]) (h' := cmH (u1 (u1 (u1 (u1 (u1 z 8 bg) 9 n) 10 a_55) 11 (-1)) 12 dpv) zl (uf (uf f 1 tb) 4 lt) fl 1) rfl ?_
          refine Rx.ret rfl ?_
          exact hx0 _ _ _ _ (by obtain ⟨k1, rfl⟩ : ∃ k1, k = k1 + 1 := ⟨k - 1, by omega⟩; have ec : sg n b (sks n b acc.2.1) = r_54 := (by rw [← hok2, es2]; exact f57.symm); have ec0 : r_2 = r_54 := (by rw [f5, f57, ← es2, ← es1]); rw [hE, opL_e hok1 (by omega) (by omega)]; exact Or.inl ⟨rfl, rfl, by rw [← hok2, es2], hok3, hok4⟩) ⟨⟨by omega, by omega⟩, Or.inl rfl, hvb⟩
        · refine Rx.walk 1 (pc' := 32) (L' := [some (.ref 0), some (.int (iz v)), w2, w3, w4]) (st' := [.ref 0]) (h' := cmH (u1 (u1 (u1 (u1 (u1 z 8 bg) 9 n) 10 a_55) 11 (-1)) 12 dpv) zl (uf (uf f 1 tb) 4 lt) fl 1) rfl ?_
          refine Rx.callx (m' := m_X12_look) (as := [.ref 0]) (rest := []) rfl (m_look1 _ (u1 (u1 (u1 (u1 (u1 z 8 bg) 9 n) 10 a_55) 11 (-1)) 12 dpv) zl (uf (uf f 1 tb) 4 lt) fl 1  n a_55 bg (-1) tb b hT hM ⟨by omega, by omega⟩) (fun v70 h71 q72 => ?_)
          obtain ⟨r_64, a_65, rfl, rfl, f66, f67, f68, f69⟩ := q72
          refine Rx.walk 0 (pc' := 35) (L' := [some (.ref 0), some (.int (iz v)), w2, w3, w4]) (st' := [.int (iz r_64)]) (h' := cmH (u1 (u1 (u1 (u1 (u1 z 8 bg) 9 n) 10 a_65) 11 (-1)) 12 dpv) zl (uf (uf f 1 tb) 4 lt) fl 1) rfl ?_
          have es3 : sks n b a = a_65 := by rw [f66, es2.symm, sks_sks]
          refine Rx.walk 1 (pc' := 37) (L' := [some (.ref 0), some (.int (iz v)), w2, w3, w4]) (st' := [.int (iz 43), .int (iz r_64)]) (h' := cmH (u1 (u1 (u1 (u1 (u1 z 8 bg) 9 n) 10 a_65) 11 (-1)) 12 dpv) zl (uf (uf f 1 tb) 4 lt) fl 1) rfl ?_
          refine Rx.ne2 rfl rfl ⟨by omega, by omega⟩ ⟨by omega, by omega⟩ (fun b73 => ?_) (fun b73 => ?_)
          · refine Rx.walk 2 (pc' := 46) (L' := [some (.ref 0), some (.int (iz v)), some (.int (iz 0)), w3, w4]) (st' := []) (h' := cmH (u1 (u1 (u1 (u1 (u1 z 8 bg) 9 n) 10 a_65) 11 (-1)) 12 dpv) zl (uf (uf f 1 tb) 4 lt) fl 1) rfl ?_
            have ec : sg n b (sks n b acc.2.1) = r_64 := by rw [← hok2, es3]; exact f67.symm
            have ec0 : r_2 = r_64 := by rw [f5, f67, ← es3, ← es1]
            have ec2 : r_54 = r_64 := by rw [f57, f67, ← es3, ← es2]
            have hlt : a_65 < n := by rcases Int.lt_or_le a_65 n with q | q; exact q; (exfalso; have e9 := f67; rw [sg_ge q] at e9; omega)
            obtain ⟨k1, rfl⟩ : ∃ k1, k = k1 + 1 := ⟨k - 1, by omega⟩
            have hle := sks_le n b a
            have hqo := hA0 (a_65 + 1) (by omega) (by omega)
            have hE2 : Rt = opL n b 43 45 (-1) (-2) (termG n b (atomR n b rr)) k1 (opN acc ((termG n b (atomR n b rr)) (a_65 + 1)) (if sg n b (sks n b acc.2.1) = 43 then (-1) else (-2))) := by rw [hE, opL_n hok1 (by omega), ← hok2, es3]
            refine Rx.walk 4 (pc' := 52) (L' := [some (.ref 0), some (.int (iz v)), some (.int (iz 0)), w3, w4]) (st' := [.int (iz 1), .int (iz a_65), .ref 0]) (h' := cmH (u1 (u1 (u1 (u1 (u1 z 8 bg) 9 n) 10 a_65) 11 (-1)) 12 dpv) zl (uf (uf f 1 tb) 4 lt) fl 1) rfl ?_
            refine Rx.iadd rfl ?_
            refine Rx.walk 2 (pc' := 57) (L' := [some (.ref 0), some (.int (iz v)), some (.int (iz 0)), w3, w4]) (st' := [.ref 0]) (h' := cmH (u1 (u1 (u1 (u1 (u1 z 8 bg) 9 n) 10 (a_65 + 1)) 11 (-1)) 12 dpv) zl (uf (uf f 1 tb) 4 lt) fl 1) rfl ?_
            refine Rx.callx (m' := m_X12_term) (as := [.ref 0]) (rest := []) rfl (hT_ _ (u1 (u1 (u1 (u1 (u1 z 8 bg) 9 n) 10 (a_65 + 1)) 11 (-1)) 12 dpv) zl (uf (uf f 1 tb) 4 lt) fl 1  dpv n (a_65 + 1) bg tb b lt hT hM ⟨by omega, by omega⟩ hL ⟨by omega, by omega⟩) (fun v80 h81 q82 => ?_)
            obtain ⟨r_74, a_75, fa_76, dp_77, rfl, rfl, f78, f79⟩ := q82
            refine Rx.walk 0 (pc' := 60) (L' := [some (.ref 0), some (.int (iz v)), some (.int (iz 0)), w3, w4]) (st' := [.int (iz r_74)]) (h' := cmH (u1 (u1 (u1 (u1 (u1 z 8 bg) 9 n) 10 a_75) 11 fa_76) 12 dp_77) zl (uf (uf f 1 tb) 4 lt) fl 1) rfl ?_
            obtain ⟨hqa, hqf, hqb⟩ := id f79
            have hmb := mul_b hvb hqb
            have htb := tdiv_b (y := r_74) hvb
            refine Rx.i2l rfl ⟨by omega, by omega⟩ ?_
            refine Rx.walk 2 (pc' := 63) (L' := [some (.ref 0), some (.int (iz v)), some (.int (iz 0)), some (.long (jz r_74)), none]) (st' := [.int (iz 0)]) (h' := cmH (u1 (u1 (u1 (u1 (u1 z 8 bg) 9 n) 10 a_75) 11 fa_76) 12 dp_77) zl (uf (uf f 1 tb) 4 lt) fl 1) rfl ?_
            refine Rx.eq1 rfl rfl ⟨by omega, by omega⟩ (fun b83 => ?_) (fun b83 => by omega)
            refine Rx.walk 1 (pc' := 74) (L' := [some (.ref 0), some (.int (iz v)), some (.int (iz 0)), some (.long (jz r_74)), none]) (st' := [.int (iz v)]) (h' := cmH (u1 (u1 (u1 (u1 (u1 z 8 bg) 9 n) 10 a_75) 11 fa_76) 12 dp_77) zl (uf (uf f 1 tb) 4 lt) fl 1) rfl ?_
            refine Rx.i2l rfl ⟨by omega, by omega⟩ ?_
            refine Rx.walk 1 (pc' := 76) (L' := [some (.ref 0), some (.int (iz v)), some (.int (iz 0)), some (.long (jz r_74)), none]) (st' := [.long (jz r_74), .long (jz v)]) (h' := cmH (u1 (u1 (u1 (u1 (u1 z 8 bg) 9 n) 10 a_75) 11 fa_76) 12 dp_77) zl (uf (uf f 1 tb) 4 lt) fl 1) rfl ?_
            refine Rx.lsub rfl ?_
            refine Rx.callx (m' := m_X12_within) (as := [.long (jz (v - r_74))]) (rest := []) rfl (n_within _ (cmH (u1 (u1 (u1 (u1 (u1 z 8 bg) 9 n) 10 a_75) 11 fa_76) 12 dp_77) zl (uf (uf f 1 tb) 4 lt) fl 1)  (v - r_74) ⟨by omega, by omega⟩) (fun v87 h88 q89 => ?_)
            obtain ⟨r_84, rfl, rfl, f85, f86⟩ := q89
            refine Rx.walk 0 (pc' := 80) (L' := [some (.ref 0), some (.int (iz v)), some (.int (iz 0)), some (.long (jz r_74)), none]) (st' := [.int (iz r_84)]) (h' := cmH (u1 (u1 (u1 (u1 (u1 z 8 bg) 9 n) 10 a_75) 11 fa_76) 12 dp_77) zl (uf (uf f 1 tb) 4 lt) fl 1) rfl ?_
            refine Rx.walk 2 (pc' := 5) (L' := [some (.ref 0), some (.int (iz r_84)), some (.int (iz 0)), some (.long (jz r_74)), none]) (st' := []) (h' := cmH (u1 (u1 (u1 (u1 (u1 z 8 bg) 9 n) 10 a_75) 11 fa_76) 12 dp_77) zl (uf (uf f 1 tb) 4 lt) fl 1) rfl ?_
            exact ih r_84 a_75 fa_76 dp_77 (opN acc ((termG n b (atomR n b rr)) (a_65 + 1)) (-2)) k1 (some (.int (iz 0))) (some (.long (jz r_74))) none ⟨by omega, by omega, by omega⟩ hqf f86 (mdR_op (op := -2) hok4 (by have z := f78; rw [hok3] at z; exact z) (fun _ => f85)) (by omega) (by rw [hE2, if_neg (by omega)]) (fun z => by rcases f78 with y | y; (exfalso; unfold opN at z; rw [if_pos y.1] at z; exact absurd (show true = false from z) (by decide)); (have := y.2; have := hqo.1; omega)) (by first | assumption | omega) 
          · refine Rx.walk 3 (pc' := 46) (L' := [some (.ref 0), some (.int (iz v)), some (.int (iz 1)), w3, w4]) (st' := []) (h' := cmH (u1 (u1 (u1 (u1 (u1 z 8 bg) 9 n) 10 a_65) 11 (-1)) 12 dpv) zl (uf (uf f 1 tb) 4 lt) fl 1) rfl ?_
            have ec : sg n b (sks n b acc.2.1) = r_64 := by rw [← hok2, es3]; exact f67.symm
            have ec0 : r_2 = r_64 := by rw [f5, f67, ← es3, ← es1]
            have ec2 : r_54 = r_64 := by rw [f57, f67, ← es3, ← es2]
            have hlt : a_65 < n := by rcases Int.lt_or_le a_65 n with q | q; exact q; (exfalso; have e9 := f67; rw [sg_ge q] at e9; omega)
            obtain ⟨k1, rfl⟩ : ∃ k1, k = k1 + 1 := ⟨k - 1, by omega⟩
            have hle := sks_le n b a
            have hqo := hA0 (a_65 + 1) (by omega) (by omega)
            have hE2 : Rt = opL n b 43 45 (-1) (-2) (termG n b (atomR n b rr)) k1 (opN acc ((termG n b (atomR n b rr)) (a_65 + 1)) (if sg n b (sks n b acc.2.1) = 43 then (-1) else (-2))) := by rw [hE, opL_n hok1 (by omega), ← hok2, es3]
            refine Rx.walk 4 (pc' := 52) (L' := [some (.ref 0), some (.int (iz v)), some (.int (iz 1)), w3, w4]) (st' := [.int (iz 1), .int (iz a_65), .ref 0]) (h' := cmH (u1 (u1 (u1 (u1 (u1 z 8 bg) 9 n) 10 a_65) 11 (-1)) 12 dpv) zl (uf (uf f 1 tb) 4 lt) fl 1) rfl ?_
            refine Rx.iadd rfl ?_
            refine Rx.walk 2 (pc' := 57) (L' := [some (.ref 0), some (.int (iz v)), some (.int (iz 1)), w3, w4]) (st' := [.ref 0]) (h' := cmH (u1 (u1 (u1 (u1 (u1 z 8 bg) 9 n) 10 (a_65 + 1)) 11 (-1)) 12 dpv) zl (uf (uf f 1 tb) 4 lt) fl 1) rfl ?_
            refine Rx.callx (m' := m_X12_term) (as := [.ref 0]) (rest := []) rfl (hT_ _ (u1 (u1 (u1 (u1 (u1 z 8 bg) 9 n) 10 (a_65 + 1)) 11 (-1)) 12 dpv) zl (uf (uf f 1 tb) 4 lt) fl 1  dpv n (a_65 + 1) bg tb b lt hT hM ⟨by omega, by omega⟩ hL ⟨by omega, by omega⟩) (fun v96 h97 q98 => ?_)
            obtain ⟨r_90, a_91, fa_92, dp_93, rfl, rfl, f94, f95⟩ := q98
            refine Rx.walk 0 (pc' := 60) (L' := [some (.ref 0), some (.int (iz v)), some (.int (iz 1)), w3, w4]) (st' := [.int (iz r_90)]) (h' := cmH (u1 (u1 (u1 (u1 (u1 z 8 bg) 9 n) 10 a_91) 11 fa_92) 12 dp_93) zl (uf (uf f 1 tb) 4 lt) fl 1) rfl ?_
            obtain ⟨hqa, hqf, hqb⟩ := id f95
            have hmb := mul_b hvb hqb
            have htb := tdiv_b (y := r_90) hvb
            refine Rx.i2l rfl ⟨by omega, by omega⟩ ?_
            refine Rx.walk 2 (pc' := 63) (L' := [some (.ref 0), some (.int (iz v)), some (.int (iz 1)), some (.long (jz r_90)), none]) (st' := [.int (iz 1)]) (h' := cmH (u1 (u1 (u1 (u1 (u1 z 8 bg) 9 n) 10 a_91) 11 fa_92) 12 dp_93) zl (uf (uf f 1 tb) 4 lt) fl 1) rfl ?_
            refine Rx.eq1 rfl rfl ⟨by omega, by omega⟩ (fun b99 => by omega) (fun b99 => ?_)
            refine Rx.walk 1 (pc' := 67) (L' := [some (.ref 0), some (.int (iz v)), some (.int (iz 1)), some (.long (jz r_90)), none]) (st' := [.int (iz v)]) (h' := cmH (u1 (u1 (u1 (u1 (u1 z 8 bg) 9 n) 10 a_91) 11 fa_92) 12 dp_93) zl (uf (uf f 1 tb) 4 lt) fl 1) rfl ?_
            refine Rx.i2l rfl ⟨by omega, by omega⟩ ?_
            refine Rx.walk 1 (pc' := 69) (L' := [some (.ref 0), some (.int (iz v)), some (.int (iz 1)), some (.long (jz r_90)), none]) (st' := [.long (jz r_90), .long (jz v)]) (h' := cmH (u1 (u1 (u1 (u1 (u1 z 8 bg) 9 n) 10 a_91) 11 fa_92) 12 dp_93) zl (uf (uf f 1 tb) 4 lt) fl 1) rfl ?_
            refine Rx.ladd rfl ?_
            refine Rx.walk 1 (pc' := 77) (L' := [some (.ref 0), some (.int (iz v)), some (.int (iz 1)), some (.long (jz r_90)), none]) (st' := [.long (jz (v + r_90))]) (h' := cmH (u1 (u1 (u1 (u1 (u1 z 8 bg) 9 n) 10 a_91) 11 fa_92) 12 dp_93) zl (uf (uf f 1 tb) 4 lt) fl 1) rfl ?_
            refine Rx.callx (m' := m_X12_within) (as := [.long (jz (v + r_90))]) (rest := []) rfl (n_within _ (cmH (u1 (u1 (u1 (u1 (u1 z 8 bg) 9 n) 10 a_91) 11 fa_92) 12 dp_93) zl (uf (uf f 1 tb) 4 lt) fl 1)  (v + r_90) ⟨by omega, by omega⟩) (fun v103 h104 q105 => ?_)
            obtain ⟨r_100, rfl, rfl, f101, f102⟩ := q105
            refine Rx.walk 0 (pc' := 80) (L' := [some (.ref 0), some (.int (iz v)), some (.int (iz 1)), some (.long (jz r_90)), none]) (st' := [.int (iz r_100)]) (h' := cmH (u1 (u1 (u1 (u1 (u1 z 8 bg) 9 n) 10 a_91) 11 fa_92) 12 dp_93) zl (uf (uf f 1 tb) 4 lt) fl 1) rfl ?_
            refine Rx.walk 2 (pc' := 5) (L' := [some (.ref 0), some (.int (iz r_100)), some (.int (iz 1)), some (.long (jz r_90)), none]) (st' := []) (h' := cmH (u1 (u1 (u1 (u1 (u1 z 8 bg) 9 n) 10 a_91) 11 fa_92) 12 dp_93) zl (uf (uf f 1 tb) 4 lt) fl 1) rfl ?_
            exact ih r_100 a_91 fa_92 dp_93 (opN acc ((termG n b (atomR n b rr)) (a_65 + 1)) (-1)) k1 (some (.int (iz 1))) (some (.long (jz r_90))) none ⟨by omega, by omega, by omega⟩ hqf f102 (mdR_op (op := -1) hok4 (by have z := f94; rw [hok3] at z; exact z) (fun _ => f101)) (by omega) (by rw [hE2, if_pos (by omega)]) (fun z => by rcases f94 with y | y; (exfalso; unfold opN at z; rw [if_pos y.1] at z; exact absurd (show true = false from z) (by decide)); (have := y.2; have := hqo.1; omega)) (by first | assumption | omega) 
set_option maxRecDepth 100000 in
set_option maxHeartbeats 4000000 in
theorem m_rSum1 (d : Nat) (z : Nat → Int) (zl : Nat → Int) (f : Nat → Int → Int) (fl : Nat → Int → Int) (tx : Nat) (D rr : Nat) (hT_ : ∀ (d : Nat) (z : Nat → Int) (zl : Nat → Int) (f : Nat → Int → Int) (fl : Nat → Int → Int) (tx : Nat)  (dp : Int) (n : Int) (a : Int) (bg : Int) (tb : Int → Int) (b : Int → Int) (lt : Int → Int) (hT : tOK n b) (hM : mOK n bg 160 tb b) (ha : 0 ≤ a ∧ a ≤ n) (hL : ∀ k : Int, 0 ≤ k → k < 128 → -1000000 ≤ lt k ∧ lt k ≤ 1000000) (hdp : 0 ≤ dp ∧ dp = 6 - (rr : Int)), Rx (d + (D + 2)) m_X12_term 0 (am_ent [.ref 0] 5) [] (cmH (u1 (u1 (u1 (u1 (u1 z 8 bg) 9 n) 10 a) 11 (-1)) 12 dp) zl (uf (uf f 1 tb) 4 lt) fl 1) (fun rv h => ∃ r : Int, ∃ a' : Int, ∃ fa' : Int, ∃ dp' : Int, rv = some (.int (iz r)) ∧ h = cmH (u1 (u1 (u1 (u1 (u1 z 8 bg) 9 n) 10 a') 11 fa') 12 dp') zl (uf (uf f 1 tb) 4 lt) fl 1 ∧ mdR (termG n b (atomR n b rr) a) (ltL lt) dp r a' fa' dp' ∧ ((a ≤ a' ∧ a' ≤ n) ∧ (fa' = -1 ∨ (0 ≤ fa' ∧ fa' ≤ 160)) ∧ (-1000000 ≤ r ∧ r ≤ 1000000)))) (dp : Int) (n : Int) (a : Int) (bg : Int) (tb : Int → Int) (b : Int → Int) (lt : Int → Int) (hT : tOK n b) (hM : mOK n bg 160 tb b) (ha : 0 ≤ a ∧ a ≤ n) (hL : ∀ k : Int, 0 ≤ k → k < 128 → -1000000 ≤ lt k ∧ lt k ≤ 1000000) (hdp : 0 ≤ dp ∧ dp = 6 - (rr : Int)) : Rx (d + (D + 3)) m_X12_sum 0 (am_ent [.ref 0] 5) [] (cmH (u1 (u1 (u1 (u1 (u1 z 8 bg) 9 n) 10 a) 11 (-1)) 12 dp) zl (uf (uf f 1 tb) 4 lt) fl 1) (fun rv h => ∃ r : Int, ∃ a' : Int, ∃ fa' : Int, ∃ dp' : Int, rv = some (.int (iz r)) ∧ h = cmH (u1 (u1 (u1 (u1 (u1 z 8 bg) 9 n) 10 a') 11 fa') 12 dp') zl (uf (uf f 1 tb) 4 lt) fl 1 ∧ mdR (sumG n b (atomR n b rr) a) (ltL lt) dp r a' fa' dp' ∧ ((a ≤ a' ∧ a' ≤ n) ∧ (fa' = -1 ∨ (0 ≤ fa' ∧ fa' ≤ 160)) ∧ (-1000000 ≤ r ∧ r ≤ 1000000))) := by
  obtain ⟨hT1, hT2, hT3⟩ := id hT
  have hbg := hM.1
  have hbz := hM.2.1
  have hrr : 0 ≤ (rr : Int) := by omega
  refine Rx.walk 0 (pc' := 0) (L' := [some (.ref 0), none, none, none, none]) (st' := []) (h' := cmH (u1 (u1 (u1 (u1 (u1 z 8 bg) 9 n) 10 a) 11 (-1)) 12 dp) zl (uf (uf f 1 tb) 4 lt) fl 1) rfl ?_
  refine Rx.walk 1 (pc' := 1) (L' := [some (.ref 0), none, none, none, none]) (st' := [.ref 0]) (h' := cmH (u1 (u1 (u1 (u1 (u1 z 8 bg) 9 n) 10 a) 11 (-1)) 12 dp) zl (uf (uf f 1 tb) 4 lt) fl 1) rfl ?_
  refine Rx.callx (m' := m_X12_term) (as := [.ref 0]) (rest := []) rfl (hT_ _ (u1 (u1 (u1 (u1 (u1 z 8 bg) 9 n) 10 a) 11 (-1)) 12 dp) zl (uf (uf f 1 tb) 4 lt) fl 1  dp n a bg tb b lt hT hM ha hL hdp) (fun v7 h8 q9 => ?_)
  obtain ⟨r_1, a_2, fa_3, dp_4, rfl, rfl, f5, f6⟩ := q9
  refine Rx.walk 0 (pc' := 4) (L' := [some (.ref 0), none, none, none, none]) (st' := [.int (iz r_1)]) (h' := cmH (u1 (u1 (u1 (u1 (u1 z 8 bg) 9 n) 10 a_2) 11 fa_3) 12 dp_4) zl (uf (uf f 1 tb) 4 lt) fl 1) rfl ?_
  obtain ⟨hqa, hqf, hqb⟩ := id f6
  have hok : rdOK n (termG n b (atomR n b rr)) := opG_ok (o1 := 42) (o2 := 47) (e1 := -3) (e2 := -4) (b := b) (atomR_ok (n := n) (b := b) rr) (by decide) (by decide)
  have hqo := hok a ha.1 ha.2
  refine Rx.walk 1 (pc' := 5) (L' := [some (.ref 0), some (.int (iz r_1)), none, none, none]) (st' := []) (h' := cmH (u1 (u1 (u1 (u1 (u1 z 8 bg) 9 n) 10 a_2) 11 fa_3) 12 dp_4) zl (uf (uf f 1 tb) 4 lt) fl 1) rfl ?_
  refine m_rSum1_l _ (u1 (u1 (u1 (u1 (u1 z 8 bg) 9 n) 10 a_2) 11 fa_3) 12 dp_4) zl (uf (uf f 1 tb) 4 lt) fl 1 D rr hT_ dp n bg tb b lt (sumG n b (atomR n b rr) a) a hT hM hL hdp hok _ ?_ ((n - a_2) + 1 : Int).toNat r_1 a_2 fa_3 dp_4 ((termG n b (atomR n b rr)) a) 161 none none none ⟨by omega, by omega, by omega⟩ hqf hqb f5 (by omega) rfl (fun z => by rcases f5 with y | y; exact absurd (z.symm.trans y.1) (by decide); (have := y.2; have := hqo.1; omega)) (by omega) 
  intro r_10 a_11 fa_12 dp_13 f14 f15
  show (fun (rv : Option Value) (h : AmH) => ∃ r : Int, ∃ a' : Int, ∃ fa' : Int, ∃ dp' : Int, rv = some (.int (iz r)) ∧ h = cmH (u1 (u1 (u1 (u1 (u1 z 8 bg) 9 n) 10 a') 11 fa') 12 dp') zl (uf (uf f 1 tb) 4 lt) fl 1 ∧ mdR (sumG n b (atomR n b rr) a) (ltL lt) dp r a' fa' dp' ∧ ((a ≤ a' ∧ a' ≤ n) ∧ (fa' = -1 ∨ (0 ≤ fa' ∧ fa' ≤ 160)) ∧ (-1000000 ≤ r ∧ r ≤ 1000000))) (some (Value.int (iz r_10))) (cmH (u1 (u1 (u1 (u1 (u1 z 8 bg) 9 n) 10 a_11) 11 fa_12) 12 dp_13) zl (uf (uf f 1 tb) 4 lt) fl 1)
  exact ⟨_, _, _, _, rfl, rfl, f14, f15⟩
set_option maxRecDepth 100000 in
set_option maxHeartbeats 4000000 in
theorem m_rTerm2_l (d : Nat) (z : Nat → Int) (zl : Nat → Int) (f : Nat → Int → Int) (fl : Nat → Int → Int) (tx : Nat) (D rr : Nat) (hA : ∀ (d : Nat) (z : Nat → Int) (zl : Nat → Int) (f : Nat → Int → Int) (fl : Nat → Int → Int) (tx : Nat)  (dp : Int) (n : Int) (a : Int) (bg : Int) (tb : Int → Int) (b : Int → Int) (lt : Int → Int) (hT : tOK n b) (hM : mOK n bg 640 tb b) (ha : 0 ≤ a ∧ a ≤ n) (hL : ∀ k : Int, 0 ≤ k → k < 128 → -1000000 ≤ lt k ∧ lt k ≤ 1000000) (hdp : 0 ≤ dp ∧ dp = 6 - (rr : Int)), Rx (d + (D + 2)) m_X12_atom 0 (am_ent [.ref 0] 4) [] (cmH (u1 (u1 (u1 (u1 (u1 z 8 bg) 9 n) 10 a) 11 (-1)) 12 dp) zl (uf (uf f 2 tb) 4 lt) fl 2) (fun rv h => ∃ r : Int, ∃ a' : Int, ∃ fa' : Int, ∃ dp' : Int, rv = some (.int (iz r)) ∧ h = cmH (u1 (u1 (u1 (u1 (u1 z 8 bg) 9 n) 10 a') 11 fa') 12 dp') zl (uf (uf f 2 tb) 4 lt) fl 2 ∧ mdR (atomR n b rr a) (ltL lt) dp r a' fa' dp' ∧ ((a ≤ a' ∧ a' ≤ n) ∧ (fa' = -1 ∨ (0 ≤ fa' ∧ fa' ≤ 160)) ∧ (-1000000 ≤ r ∧ r ≤ 1000000)))) (dp : Int) (n : Int) (bg : Int) (tb : Int → Int) (b : Int → Int) (lt : Int → Int) (Rt : RsT) (a0 : Int) (hT : tOK n b) (hM : mOK n bg 640 tb b) (hL : ∀ k : Int, 0 ≤ k → k < 128 → -1000000 ≤ lt k ∧ lt k ≤ 1000000) (hdp : 0 ≤ dp ∧ dp = 6 - (rr : Int)) (hA0 : rdOK n (atomR n b rr)) (P : Option Value → AmH → Prop) (hx0 : ∀ (r : Int) (a' : Int) (fa' : Int) (dp' : Int), (mdR Rt (ltL lt) dp r a' fa' dp') → ((a0 ≤ a' ∧ a' ≤ n) ∧ (fa' = -1 ∨ (0 ≤ fa' ∧ fa' ≤ 160)) ∧ (-1000000 ≤ r ∧ r ≤ 1000000)) → P (some (.int (iz r))) (cmH (u1 (u1 (u1 (u1 (u1 z 8 bg) 9 n) 10 a') 11 fa') 12 dp') zl (uf (uf f 2 tb) 4 lt) fl 2)) : ∀ (kF : Nat) (v : Int) (a : Int) (fa : Int) (dpv : Int) (acc : RsT) (k : Nat) (w2 : Option Value) (w3 : Option Value) (w4 : Option Value), (0 ≤ a ∧ a ≤ n ∧ a0 ≤ a) → (fa = -1 ∨ (0 ≤ fa ∧ fa ≤ 160)) → (-1000000 ≤ v ∧ v ≤ 1000000) → (mdR acc (ltL lt) dp v a fa dpv) → (n - a < (k : Int)) → (Rt = opL n b 42 47 (-3) (-4) (atomR n b rr) k acc) → (acc.1 = false → fa ≠ -1) → (n - a) < (kF : Int) → Rx (d + (D + 3)) m_X12_term 5 [some (.ref 0), some (.int (iz v)), w2, w3, w4] [] (cmH (u1 (u1 (u1 (u1 (u1 z 8 bg) 9 n) 10 a) 11 fa) 12 dpv) zl (uf (uf f 2 tb) 4 lt) fl 2) P := by
  obtain ⟨hT1, hT2, hT3⟩ := id hT
  have hbg := hM.1
  have hbz := hM.2.1
  have hrr : 0 ≤ (rr : Int) := by omega
  intro kF
  induction kF with
  | zero =>
    intro v a fa dpv acc k w2 w3 w4 ha hfa hvb hR hk hE hfp hk
    exfalso; omega
  | succ kF ih =>
    intro v a fa dpv acc k w2 w3 w4 ha hfa hvb hR hk hE hfp hk
    refine Rx.walk 3 (pc' := 10) (L' := [some (.ref 0), some (.int (iz v)), w2, w3, w4]) (st' := [.int (iz (-1)), .int (iz fa)]) (h' := cmH (u1 (u1 (u1 (u1 (u1 z 8 bg) 9 n) 10 a) 11 fa) 12 dpv) zl (uf (uf f 2 tb) 4 lt) fl 2) rfl ?_
    refine Rx.ne2 rfl rfl ⟨by omega, by omega⟩ ⟨by omega, by omega⟩ (fun b1 => ?_) (fun b1 => ?_)
    · refine Rx.walk 1 (pc' := 95) (L' := [some (.ref 0), some (.int (iz v)), w2, w3, w4]) (st' := [.int (iz v)]) (h' := cmH (u1 (u1 (u1 (u1 (u1 z 8 bg) 9 n) 10 a) 11 fa) 12 dpv) zl (uf (uf f 2 tb) 4 lt) fl 2) rfl ?_
      refine Rx.ret rfl ?_
      exact hx0 _ _ _ _ (by rw [hE, opL_f (show acc.1 = false from by rcases hR with z | z; (exact absurd z.2.1 (by omega)); exact z.1)]; exact hR) ⟨⟨by omega, by omega⟩, hfa, hvb⟩
    · obtain rfl : fa = -1 := by omega
      obtain ⟨hok1, hok2, hok3, hok4⟩ : acc.1 = true ∧ a = acc.2.1 ∧ dpv = dp ∧ v = acc.2.2.2 (ltL lt) := by rcases hR with z | z; (exact ⟨z.1, z.2.2.1, z.2.2.2.1, z.2.2.2.2⟩); (exact absurd rfl (hfp z.1))
      refine Rx.walk 1 (pc' := 14) (L' := [some (.ref 0), some (.int (iz v)), w2, w3, w4]) (st' := [.ref 0]) (h' := cmH (u1 (u1 (u1 (u1 (u1 z 8 bg) 9 n) 10 a) 11 (-1)) 12 dpv) zl (uf (uf f 2 tb) 4 lt) fl 2) rfl ?_
      refine Rx.callx (m' := m_X12_look) (as := [.ref 0]) (rest := []) rfl (m_look2 _ (u1 (u1 (u1 (u1 (u1 z 8 bg) 9 n) 10 a) 11 (-1)) 12 dpv) zl (uf (uf f 2 tb) 4 lt) fl 2  n a bg (-1) tb b hT hM ⟨by omega, by omega⟩) (fun v8 h9 q10 => ?_)
      obtain ⟨r_2, a_3, rfl, rfl, f4, f5, f6, f7⟩ := q10
      refine Rx.walk 0 (pc' := 17) (L' := [some (.ref 0), some (.int (iz v)), w2, w3, w4]) (st' := [.int (iz r_2)]) (h' := cmH (u1 (u1 (u1 (u1 (u1 z 8 bg) 9 n) 10 a_3) 11 (-1)) 12 dpv) zl (uf (uf f 2 tb) 4 lt) fl 2) rfl ?_
      have es1 : sks n b a = a_3 := f4.symm
      refine Rx.walk 1 (pc' := 19) (L' := [some (.ref 0), some (.int (iz v)), w2, w3, w4]) (st' := [.int (iz 42), .int (iz r_2)]) (h' := cmH (u1 (u1 (u1 (u1 (u1 z 8 bg) 9 n) 10 a_3) 11 (-1)) 12 dpv) zl (uf (uf f 2 tb) 4 lt) fl 2) rfl ?_
      refine Rx.eq2 rfl rfl ⟨by omega, by omega⟩ ⟨by omega, by omega⟩ (fun b11 => ?_) (fun b11 => ?_)
      · refine Rx.walk 1 (pc' := 32) (L' := [some (.ref 0), some (.int (iz v)), w2, w3, w4]) (st' := [.ref 0]) (h' := cmH (u1 (u1 (u1 (u1 (u1 z 8 bg) 9 n) 10 a_3) 11 (-1)) 12 dpv) zl (uf (uf f 2 tb) 4 lt) fl 2) rfl ?_
        refine Rx.callx (m' := m_X12_look) (as := [.ref 0]) (rest := []) rfl (m_look2 _ (u1 (u1 (u1 (u1 (u1 z 8 bg) 9 n) 10 a_3) 11 (-1)) 12 dpv) zl (uf (uf f 2 tb) 4 lt) fl 2  n a_3 bg (-1) tb b hT hM ⟨by omega, by omega⟩) (fun v18 h19 q20 => ?_)
        obtain ⟨r_12, a_13, rfl, rfl, f14, f15, f16, f17⟩ := q20
        refine Rx.walk 0 (pc' := 35) (L' := [some (.ref 0), some (.int (iz v)), w2, w3, w4]) (st' := [.int (iz r_12)]) (h' := cmH (u1 (u1 (u1 (u1 (u1 z 8 bg) 9 n) 10 a_13) 11 (-1)) 12 dpv) zl (uf (uf f 2 tb) 4 lt) fl 2) rfl ?_
        have es2 : sks n b a = a_13 := by rw [f14, es1.symm, sks_sks]
        refine Rx.walk 1 (pc' := 37) (L' := [some (.ref 0), some (.int (iz v)), w2, w3, w4]) (st' := [.int (iz 42), .int (iz r_12)]) (h' := cmH (u1 (u1 (u1 (u1 (u1 z 8 bg) 9 n) 10 a_13) 11 (-1)) 12 dpv) zl (uf (uf f 2 tb) 4 lt) fl 2) rfl ?_
        refine Rx.ne2 rfl rfl ⟨by omega, by omega⟩ ⟨by omega, by omega⟩ (fun b21 => ?_) (fun b21 => ?_)
        · refine Rx.walk 2 (pc' := 46) (L' := [some (.ref 0), some (.int (iz v)), some (.int (iz 0)), w3, w4]) (st' := []) (h' := cmH (u1 (u1 (u1 (u1 (u1 z 8 bg) 9 n) 10 a_13) 11 (-1)) 12 dpv) zl (uf (uf f 2 tb) 4 lt) fl 2) rfl ?_
          have ec : sg n b (sks n b acc.2.1) = r_12 := by rw [← hok2, es2]; exact f15.symm
          have ec0 : r_2 = r_12 := by rw [f5, f15, ← es2, ← es1]
          have hlt : a_13 < n := by rcases Int.lt_or_le a_13 n with q | q; exact q; (exfalso; have e9 := f15; rw [sg_ge q] at e9; omega)
          obtain ⟨k1, rfl⟩ : ∃ k1, k = k1 + 1 := ⟨k - 1, by omega⟩
          have hle := sks_le n b a
          have hqo := hA0 (a_13 + 1) (by omega) (by omega)
          have hE2 : Rt = opL n b 42 47 (-3) (-4) (atomR n b rr) k1 (opN acc ((atomR n b rr) (a_13 + 1)) (if sg n b (sks n b acc.2.1) = 42 then (-3) else (-4))) := by rw [hE, opL_n hok1 (by omega), ← hok2, es2]
          refine Rx.walk 4 (pc' := 52) (L' := [some (.ref 0), some (.int (iz v)), some (.int (iz 0)), w3, w4]) (st' := [.int (iz 1), .int (iz a_13), .ref 0]) (h' := cmH (u1 (u1 (u1 (u1 (u1 z 8 bg) 9 n) 10 a_13) 11 (-1)) 12 dpv) zl (uf (uf f 2 tb) 4 lt) fl 2) rfl ?_
          refine Rx.iadd rfl ?_
          refine Rx.walk 2 (pc' := 57) (L' := [some (.ref 0), some (.int (iz v)), some (.int (iz 0)), w3, w4]) (st' := [.ref 0]) (h' := cmH (u1 (u1 (u1 (u1 (u1 z 8 bg) 9 n) 10 (a_13 + 1)) 11 (-1)) 12 dpv) zl (uf (uf f 2 tb) 4 lt) fl 2) rfl ?_
          refine Rx.callx (m' := m_X12_atom) (as := [.ref 0]) (rest := []) rfl (hA _ (u1 (u1 (u1 (u1 (u1 z 8 bg) 9 n) 10 (a_13 + 1)) 11 (-1)) 12 dpv) zl (uf (uf f 2 tb) 4 lt) fl 2  dpv n (a_13 + 1) bg tb b lt hT hM ⟨by omega, by omega⟩ hL ⟨by omega, by omega⟩) (fun v28 h29 q30 => ?_)
          obtain ⟨r_22, a_23, fa_24, dp_25, rfl, rfl, f26, f27⟩ := q30
          refine Rx.walk 0 (pc' := 60) (L' := [some (.ref 0), some (.int (iz v)), some (.int (iz 0)), w3, w4]) (st' := [.int (iz r_22)]) (h' := cmH (u1 (u1 (u1 (u1 (u1 z 8 bg) 9 n) 10 a_23) 11 fa_24) 12 dp_25) zl (uf (uf f 2 tb) 4 lt) fl 2) rfl ?_
          obtain ⟨hqa, hqf, hqb⟩ := id f27
          have hmb := mul_b hvb hqb
          have htb := tdiv_b (y := r_22) hvb
          refine Rx.i2l rfl ⟨by omega, by omega⟩ ?_
          refine Rx.walk 2 (pc' := 63) (L' := [some (.ref 0), some (.int (iz v)), some (.int (iz 0)), some (.long (jz r_22)), none]) (st' := [.int (iz 0)]) (h' := cmH (u1 (u1 (u1 (u1 (u1 z 8 bg) 9 n) 10 a_23) 11 fa_24) 12 dp_25) zl (uf (uf f 2 tb) 4 lt) fl 2) rfl ?_
          refine Rx.eq1 rfl rfl ⟨by omega, by omega⟩ (fun b31 => ?_) (fun b31 => by omega)
          refine Rx.walk 2 (pc' := 75) (L' := [some (.ref 0), some (.int (iz v)), some (.int (iz 0)), some (.long (jz r_22)), none]) (st' := [.long (jz 0), .long (jz r_22)]) (h' := cmH (u1 (u1 (u1 (u1 (u1 z 8 bg) 9 n) 10 a_23) 11 fa_24) 12 dp_25) zl (uf (uf f 2 tb) 4 lt) fl 2) rfl ?_
          refine Rx.lcmp rfl ⟨by omega, by omega⟩ ⟨by omega, by omega⟩ ?_
          refine Rx.nec rfl rfl (fun b32 => ?_) (fun b32 => ?_)
          · refine Rx.walk 1 (pc' := 84) (L' := [some (.ref 0), some (.int (iz v)), some (.int (iz 0)), some (.long (jz r_22)), none]) (st' := [.int (iz v)]) (h' := cmH (u1 (u1 (u1 (u1 (u1 z 8 bg) 9 n) 10 a_23) 11 fa_24) 12 dp_25) zl (uf (uf f 2 tb) 4 lt) fl 2) rfl ?_
            refine Rx.i2l rfl ⟨by omega, by omega⟩ ?_
            refine Rx.walk 1 (pc' := 86) (L' := [some (.ref 0), some (.int (iz v)), some (.int (iz 0)), some (.long (jz r_22)), none]) (st' := [.long (jz r_22), .long (jz v)]) (h' := cmH (u1 (u1 (u1 (u1 (u1 z 8 bg) 9 n) 10 a_23) 11 fa_24) 12 dp_25) zl (uf (uf f 2 tb) 4 lt) fl 2) rfl ?_
            refine Rx.ldivT rfl ⟨by omega, by omega⟩ ⟨by omega, by omega⟩ (by omega) ?_
            refine Rx.callx (m' := m_X12_within) (as := [.long (jz (v.tdiv r_22))]) (rest := []) rfl (n_within _ (cmH (u1 (u1 (u1 (u1 (u1 z 8 bg) 9 n) 10 a_23) 11 fa_24) 12 dp_25) zl (uf (uf f 2 tb) 4 lt) fl 2)  (v.tdiv r_22) ⟨by omega, by omega⟩) (fun v36 h37 q38 => ?_)
            obtain ⟨r_33, rfl, rfl, f34, f35⟩ := q38
            refine Rx.walk 0 (pc' := 90) (L' := [some (.ref 0), some (.int (iz v)), some (.int (iz 0)), some (.long (jz r_22)), none]) (st' := [.int (iz r_33)]) (h' := cmH (u1 (u1 (u1 (u1 (u1 z 8 bg) 9 n) 10 a_23) 11 fa_24) 12 dp_25) zl (uf (uf f 2 tb) 4 lt) fl 2) rfl ?_
            refine Rx.walk 2 (pc' := 5) (L' := [some (.ref 0), some (.int (iz r_33)), some (.int (iz 0)), some (.long (jz r_22)), none]) (st' := []) (h' := cmH (u1 (u1 (u1 (u1 (u1 z 8 bg) 9 n) 10 a_23) 11 fa_24) 12 dp_25) zl (uf (uf f 2 tb) 4 lt) fl 2) rfl ?_
            exact ih r_33 a_23 fa_24 dp_25 (opN acc ((atomR n b rr) (a_13 + 1)) (-4)) k1 (some (.int (iz 0))) (some (.long (jz r_22))) none ⟨by omega, by omega, by omega⟩ hqf f35 (mdR_op (op := -4) hok4 (by have z := f26; rw [hok3] at z; exact z) (fun _ => by rw [f34, wtn_id htb]; show _ = (if r_22 = 0 then 0 else v.tdiv r_22); rw [if_neg (by omega)])) (by omega) (by rw [hE2, if_neg (by omega)]) (fun z => by rcases f26 with y | y; (exfalso; unfold opN at z; rw [if_pos y.1] at z; exact absurd (show true = false from z) (by decide)); (have := y.2; have := hqo.1; omega)) (by first | assumption | omega) 
          · refine Rx.walk 2 (pc' := 87) (L' := [some (.ref 0), some (.int (iz v)), some (.int (iz 0)), some (.long (jz r_22)), none]) (st' := [.long (jz 0)]) (h' := cmH (u1 (u1 (u1 (u1 (u1 z 8 bg) 9 n) 10 a_23) 11 fa_24) 12 dp_25) zl (uf (uf f 2 tb) 4 lt) fl 2) rfl ?_
            refine Rx.callx (m' := m_X12_within) (as := [.long (jz 0)]) (rest := []) rfl (n_within _ (cmH (u1 (u1 (u1 (u1 (u1 z 8 bg) 9 n) 10 a_23) 11 fa_24) 12 dp_25) zl (uf (uf f 2 tb) 4 lt) fl 2)  0 ⟨by omega, by omega⟩) (fun v42 h43 q44 => ?_)
            obtain ⟨r_39, rfl, rfl, f40, f41⟩ := q44
            refine Rx.walk 0 (pc' := 90) (L' := [some (.ref 0), some (.int (iz v)), some (.int (iz 0)), some (.long (jz r_22)), none]) (st' := [.int (iz r_39)]) (h' := cmH (u1 (u1 (u1 (u1 (u1 z 8 bg) 9 n) 10 a_23) 11 fa_24) 12 dp_25) zl (uf (uf f 2 tb) 4 lt) fl 2) rfl ?_
            refine Rx.walk 2 (pc' := 5) (L' := [some (.ref 0), some (.int (iz r_39)), some (.int (iz 0)), some (.long (jz r_22)), none]) (st' := []) (h' := cmH (u1 (u1 (u1 (u1 (u1 z 8 bg) 9 n) 10 a_23) 11 fa_24) 12 dp_25) zl (uf (uf f 2 tb) 4 lt) fl 2) rfl ?_
            exact ih r_39 a_23 fa_24 dp_25 (opN acc ((atomR n b rr) (a_13 + 1)) (-4)) k1 (some (.int (iz 0))) (some (.long (jz r_22))) none ⟨by omega, by omega, by omega⟩ hqf f41 (mdR_op (op := -4) hok4 (by have z := f26; rw [hok3] at z; exact z) (fun _ => by rw [f40]; show wtn 0 = (if r_22 = 0 then 0 else v.tdiv r_22); rw [if_pos (by omega)]; rfl)) (by omega) (by rw [hE2, if_neg (by omega)]) (fun z => by rcases f26 with y | y; (exfalso; unfold opN at z; rw [if_pos y.1] at z; exact absurd (show true = false from z) (by decide)); (have := y.2; have := hqo.1; omega)) (by first | assumption | omega) 
        · refine Rx.walk 3 (pc' := 46) (L' := [some (.ref 0), some (.int (iz v)), some (.int (iz 1)), w3, w4]) (st' := []) (h' := cmH (u1 (u1 (u1 (u1 (u1 z 8 bg) 9 n) 10 a_13) 11 (-1)) 12 dpv) zl (uf (uf f 2 tb) 4 lt) fl 2) rfl ?_
          have ec : sg n b (sks n b acc.2.1) = r_12 := by rw [← hok2, es2]; exact f15.symm
          have ec0 : r_2 = r_12 := by rw [f5, f15, ← es2, ← es1]
          have hlt : a_13 < n := by rcases Int.lt_or_le a_13 n with q | q; exact q; (exfalso; have e9 := f15; rw [sg_ge q] at e9; omega)
          obtain ⟨k1, rfl⟩ : ∃ k1, k = k1 + 1 := ⟨k - 1, by omega⟩
          have hle := sks_le n b a
          have hqo := hA0 (a_13 + 1) (by omega) (by omega)
          have hE2 : Rt = opL n b 42 47 (-3) (-4) (atomR n b rr) k1 (opN acc ((atomR n b rr) (a_13 + 1)) (if sg n b (sks n b acc.2.1) = 42 then (-3) else (-4))) := by rw [hE, opL_n hok1 (by omega), ← hok2, es2]
          refine Rx.walk 4 (pc' := 52) (L' := [some (.ref 0), some (.int (iz v)), some (.int (iz 1)), w3, w4]) (st' := [.int (iz 1), .int (iz a_13), .ref 0]) (h' := cmH (u1 (u1 (u1 (u1 (u1 z 8 bg) 9 n) 10 a_13) 11 (-1)) 12 dpv) zl (uf (uf f 2 tb) 4 lt) fl 2) rfl ?_
          refine Rx.iadd rfl ?_
          refine Rx.walk 2 (pc' := 57) (L' := [some (.ref 0), some (.int (iz v)), some (.int (iz 1)), w3, w4]) (st' := [.ref 0]) (h' := cmH (u1 (u1 (u1 (u1 (u1 z 8 bg) 9 n) 10 (a_13 + 1)) 11 (-1)) 12 dpv) zl (uf (uf f 2 tb) 4 lt) fl 2) rfl ?_
          refine Rx.callx (m' := m_X12_atom) (as := [.ref 0]) (rest := []) rfl (hA _ (u1 (u1 (u1 (u1 (u1 z 8 bg) 9 n) 10 (a_13 + 1)) 11 (-1)) 12 dpv) zl (uf (uf f 2 tb) 4 lt) fl 2  dpv n (a_13 + 1) bg tb b lt hT hM ⟨by omega, by omega⟩ hL ⟨by omega, by omega⟩) (fun v51 h52 q53 => ?_)
          obtain ⟨r_45, a_46, fa_47, dp_48, rfl, rfl, f49, f50⟩ := q53
          refine Rx.walk 0 (pc' := 60) (L' := [some (.ref 0), some (.int (iz v)), some (.int (iz 1)), w3, w4]) (st' := [.int (iz r_45)]) (h' := cmH (u1 (u1 (u1 (u1 (u1 z 8 bg) 9 n) 10 a_46) 11 fa_47) 12 dp_48) zl (uf (uf f 2 tb) 4 lt) fl 2) rfl ?_
          obtain ⟨hqa, hqf, hqb⟩ := id f50
          have hmb := mul_b hvb hqb
          have htb := tdiv_b (y := r_45) hvb
          refine Rx.i2l rfl ⟨by omega, by omega⟩ ?_
          refine Rx.walk 2 (pc' := 63) (L' := [some (.ref 0), some (.int (iz v)), some (.int (iz 1)), some (.long (jz r_45)), none]) (st' := [.int (iz 1)]) (h' := cmH (u1 (u1 (u1 (u1 (u1 z 8 bg) 9 n) 10 a_46) 11 fa_47) 12 dp_48) zl (uf (uf f 2 tb) 4 lt) fl 2) rfl ?_
          refine Rx.eq1 rfl rfl ⟨by omega, by omega⟩ (fun b54 => by omega) (fun b54 => ?_)
          refine Rx.walk 1 (pc' := 67) (L' := [some (.ref 0), some (.int (iz v)), some (.int (iz 1)), some (.long (jz r_45)), none]) (st' := [.int (iz v)]) (h' := cmH (u1 (u1 (u1 (u1 (u1 z 8 bg) 9 n) 10 a_46) 11 fa_47) 12 dp_48) zl (uf (uf f 2 tb) 4 lt) fl 2) rfl ?_
          refine Rx.i2l rfl ⟨by omega, by omega⟩ ?_
          refine Rx.walk 1 (pc' := 69) (L' := [some (.ref 0), some (.int (iz v)), some (.int (iz 1)), some (.long (jz r_45)), none]) (st' := [.long (jz r_45), .long (jz v)]) (h' := cmH (u1 (u1 (u1 (u1 (u1 z 8 bg) 9 n) 10 a_46) 11 fa_47) 12 dp_48) zl (uf (uf f 2 tb) 4 lt) fl 2) rfl ?_
          refine Rx.lmul rfl ?_
          refine Rx.walk 1 (pc' := 87) (L' := [some (.ref 0), some (.int (iz v)), some (.int (iz 1)), some (.long (jz r_45)), none]) (st' := [.long (jz (v * r_45))]) (h' := cmH (u1 (u1 (u1 (u1 (u1 z 8 bg) 9 n) 10 a_46) 11 fa_47) 12 dp_48) zl (uf (uf f 2 tb) 4 lt) fl 2) rfl ?_
          refine Rx.callx (m' := m_X12_within) (as := [.long (jz (v * r_45))]) (rest := []) rfl (n_within _ (cmH (u1 (u1 (u1 (u1 (u1 z 8 bg) 9 n) 10 a_46) 11 fa_47) 12 dp_48) zl (uf (uf f 2 tb) 4 lt) fl 2)  (v * r_45) ⟨by omega, by omega⟩) (fun v58 h59 q60 => ?_)
          obtain ⟨r_55, rfl, rfl, f56, f57⟩ := q60
          refine Rx.walk 0 (pc' := 90) (L' := [some (.ref 0), some (.int (iz v)), some (.int (iz 1)), some (.long (jz r_45)), none]) (st' := [.int (iz r_55)]) (h' := cmH (u1 (u1 (u1 (u1 (u1 z 8 bg) 9 n) 10 a_46) 11 fa_47) 12 dp_48) zl (uf (uf f 2 tb) 4 lt) fl 2) rfl ?_
          refine Rx.walk 2 (pc' := 5) (L' := [some (.ref 0), some (.int (iz r_55)), some (.int (iz 1)), some (.long (jz r_45)), none]) (st' := []) (h' := cmH (u1 (u1 (u1 (u1 (u1 z 8 bg) 9 n) 10 a_46) 11 fa_47) 12 dp_48) zl (uf (uf f 2 tb) 4 lt) fl 2) rfl ?_
          exact ih r_55 a_46 fa_47 dp_48 (opN acc ((atomR n b rr) (a_13 + 1)) (-3)) k1 (some (.int (iz 1))) (some (.long (jz r_45))) none ⟨by omega, by omega, by omega⟩ hqf f57 (mdR_op (op := -3) hok4 (by have z := f49; rw [hok3] at z; exact z) (fun _ => f56)) (by omega) (by rw [hE2, if_pos (by omega)]) (fun z => by rcases f49 with y | y; (exfalso; unfold opN at z; rw [if_pos y.1] at z; exact absurd (show true = false from z) (by decide)); (have := y.2; have := hqo.1; omega)) (by first | assumption | omega) 
      · refine Rx.walk 1 (pc' := 23) (L' := [some (.ref 0), some (.int (iz v)), w2, w3, w4]) (st' := [.ref 0]) (h' := cmH (u1 (u1 (u1 (u1 (u1 z 8 bg) 9 n) 10 a_3) 11 (-1)) 12 dpv) zl (uf (uf f 2 tb) 4 lt) fl 2) rfl ?_
        refine Rx.callx (m' := m_X12_look) (as := [.ref 0]) (rest := []) rfl (m_look2 _ (u1 (u1 (u1 (u1 (u1 z 8 bg) 9 n) 10 a_3) 11 (-1)) 12 dpv) zl (uf (uf f 2 tb) 4 lt) fl 2  n a_3 bg (-1) tb b hT hM ⟨by omega, by omega⟩) (fun v67 h68 q69 => ?_)
        obtain ⟨r_61, a_62, rfl, rfl, f63, f64, f65, f66⟩ := q69
        refine Rx.walk 0 (pc' := 26) (L' := [some (.ref 0), some (.int (iz v)), w2, w3, w4]) (st' := [.int (iz r_61)]) (h' := cmH (u1 (u1 (u1 (u1 (u1 z 8 bg) 9 n) 10 a_62) 11 (-1)) 12 dpv) zl (uf (uf f 2 tb) 4 lt) fl 2) rfl ?_
        have es2 : sks n b a = a_62 := by rw [f63, es1.symm, sks_sks]
        refine Rx.walk 1 (pc' := 28) (L' := [some (.ref 0), some (.int (iz v)), w2, w3, w4]) (st' := [.int (iz 47), .int (iz r_61)]) (h' := cmH (u1 (u1 (u1 (u1 (u1 z 8 bg) 9 n) 10 a_62) 11 (-1)) 12 dpv) zl (uf (uf f 2 tb) 4 lt) fl 2) rfl ?_
        refine Rx.ne2 rfl rfl ⟨by omega, by omega⟩ ⟨by omega, by omega⟩ (fun b70 => ?_) (fun b70 => ?_)
        · refine Rx.walk 1 (pc' := 95) (L' := [some (.ref 0), some (.int (iz v)), w2, w3, w4]) (st' := [.int (iz v)]) (h' := cmH (u1 (u1 (u1 (u1 (u1 z 8 bg) 9 n) 10 a_62) 11 (-1)) 12 dpv) zl (uf (uf f 2 tb) 4 lt) fl 2) rfl ?_
          refine Rx.ret rfl ?_
          exact hx0 _ _ _ _ (by obtain ⟨k1, rfl⟩ : ∃ k1, k = k1 + 1 := ⟨k - 1, by omega⟩; have ec : sg n b (sks n b acc.2.1) = r_61 := (by rw [← hok2, es2]; exact f64.symm); have ec0 : r_2 = r_61 := (by rw [f5, f64, ← es2, ← es1]); rw [hE, opL_e hok1 (by omega) (by omega)]; exact Or.inl ⟨rfl, rfl, by rw [← hok2, es2], hok3, hok4⟩) ⟨⟨by omega, by omega⟩, Or.inl rfl, hvb⟩
        · refine Rx.walk 1 (pc' := 32) (L' := [some (.ref 0), some (.int (iz v)), w2, w3, w4]) (st' := [.ref 0]) (h' := cmH (u1 (u1 (u1 (u1 (u1 z 8 bg) 9 n) 10 a_62) 11 (-1)) 12 dpv) zl (uf (uf f 2 tb) 4 lt) fl 2) rfl ?_
          refine Rx.callx (m' := m_X12_look) (as := [.ref 0]) (rest := []) rfl (m_look2 _ (u1 (u1 (u1 (u1 (u1 z 8 bg) 9 n) 10 a_62) 11 (-1)) 12 dpv) zl (uf (uf f 2 tb) 4 lt) fl 2  n a_62 bg (-1) tb b hT hM ⟨by omega, by omega⟩) (fun v77 h78 q79 => ?_)
          obtain ⟨r_71, a_72, rfl, rfl, f73, f74, f75, f76⟩ := q79
          refine Rx.walk 0 (pc' := 35) (L' := [some (.ref 0), some (.int (iz v)), w2, w3, w4]) (st' := [.int (iz r_71)]) (h' := cmH (u1 (u1 (u1 (u1 (u1 z 8 bg) 9 n) 10 a_72) 11 (-1)) 12 dpv) zl (uf (uf f 2 tb) 4 lt) fl 2) rfl ?_
          have es3 : sks n b a = a_72 := by rw [f73, es2.symm, sks_sks]
          refine Rx.walk 1 (pc' := 37) (L' := [some (.ref 0), some (.int (iz v)), w2, w3, w4]) (st' := [.int (iz 42), .int (iz r_71)]) (h' := cmH (u1 (u1 (u1 (u1 (u1 z 8 bg) 9 n) 10 a_72) 11 (-1)) 12 dpv) zl (uf (uf f 2 tb) 4 lt) fl 2) rfl ?_
          refine Rx.ne2 rfl rfl ⟨by omega, by omega⟩ ⟨by omega, by omega⟩ (fun b80 => ?_) (fun b80 => ?_)
          · refine Rx.walk 2 (pc' := 46) (L' := [some (.ref 0), some (.int (iz v)), some (.int (iz 0)), w3, w4]) (st' := []) (h' := cmH (u1 (u1 (u1 (u1 (u1 z 8 bg) 9 n) 10 a_72) 11 (-1)) 12 dpv) zl (uf (uf f 2 tb) 4 lt) fl 2) rfl ?_
            have ec : sg n b (sks n b acc.2.1) = r_71 := by rw [← hok2, es3]; exact f74.symm
            have ec0 : r_2 = r_71 := by rw [f5, f74, ← es3, ← es1]
            have ec2 : r_61 = r_71 := by rw [f64, f74, ← es3, ← es2]
            have hlt : a_72 < n := by rcases Int.lt_or_le a_72 n with q | q; exact q; (exfalso; have e9 := f74; rw [sg_ge q] at e9; omega)
            obtain ⟨k1, rfl⟩ : ∃ k1, k = k1 + 1 := ⟨k - 1, by omega⟩
            have hle := sks_le n b a
            have hqo := hA0 (a_72 + 1) (by omega) (by omega)
            have hE2 : Rt = opL n b 42 47 (-3) (-4) (atomR n b rr) k1 (opN acc ((atomR n b rr) (a_72 + 1)) (if sg n b (sks n b acc.2.1) = 42 then (-3) else (-4))) := by rw [hE, opL_n hok1 (by omega), ← hok2, es3]
            refine Rx.walk 4 (pc' := 52) (L' := [some (.ref 0), some (.int (iz v)), some (.int (iz 0)), w3, w4]) (st' := [.int (iz 1), .int (iz a_72), .ref 0]) (h' := cmH (u1 (u1 (u1 (u1 (u1 z 8 bg) 9 n) 10 a_72) 11 (-1)) 12 dpv) zl (uf (uf f 2 tb) 4 lt) fl 2) rfl ?_
            refine Rx.iadd rfl ?_
            refine Rx.walk 2 (pc' := 57) (L' := [some (.ref 0), some (.int (iz v)), some (.int (iz 0)), w3, w4]) (st' := [.ref 0]) (h' := cmH (u1 (u1 (u1 (u1 (u1 z 8 bg) 9 n) 10 (a_72 + 1)) 11 (-1)) 12 dpv) zl (uf (uf f 2 tb) 4 lt) fl 2) rfl ?_
            refine Rx.callx (m' := m_X12_atom) (as := [.ref 0]) (rest := []) rfl (hA _ (u1 (u1 (u1 (u1 (u1 z 8 bg) 9 n) 10 (a_72 + 1)) 11 (-1)) 12 dpv) zl (uf (uf f 2 tb) 4 lt) fl 2  dpv n (a_72 + 1) bg tb b lt hT hM ⟨by omega, by omega⟩ hL ⟨by omega, by omega⟩) (fun v87 h88 q89 => ?_)
            obtain ⟨r_81, a_82, fa_83, dp_84, rfl, rfl, f85, f86⟩ := q89
            refine Rx.walk 0 (pc' := 60) (L' := [some (.ref 0), some (.int (iz v)), some (.int (iz 0)), w3, w4]) (st' := [.int (iz r_81)]) (h' := cmH (u1 (u1 (u1 (u1 (u1 z 8 bg) 9 n) 10 a_82) 11 fa_83) 12 dp_84) zl (uf (uf f 2 tb) 4 lt) fl 2) rfl ?_
            obtain ⟨hqa, hqf, hqb⟩ := id f86
            have hmb := mul_b hvb hqb
            have htb := tdiv_b (y := r_81) hvb
            refine Rx.i2l rfl ⟨by omega, by omega⟩ ?_
            refine Rx.walk 2 (pc' := 63) (L' := [some (.ref 0), some (.int (iz v)), some (.int (iz 0)), some (.long (jz r_81)), none]) (st' := [.int (iz 0)]) (h' := cmH (u1 (u1 (u1 (u1 (u1 z 8 bg) 9 n) 10 a_82) 11 fa_83) 12 dp_84) zl (uf (uf f 2 tb) 4 lt) fl 2) rfl ?_
            refine Rx.eq1 rfl rfl ⟨by omega, by omega⟩ (fun b90 => ?_) (fun b90 => by omega)
            refine Rx.walk 2 (pc' := 75) (L' := [some (.ref 0), some (.int (iz v)), some (.int (iz 0)), some (.long (jz r_81)), none]) (st' := [.long (jz 0), .long (jz r_81)]) (h' := cmH (u1 (u1 (u1 (u1 (u1 z 8 bg) 9 n) 10 a_82) 11 fa_83) 12 dp_84) zl (uf (uf f 2 tb) 4 lt) fl 2) rfl ?_
            refine Rx.lcmp rfl ⟨by omega, by omega⟩ ⟨by omega, by omega⟩ ?_
            refine Rx.nec rfl rfl (fun b91 => ?_) (fun b91 => ?_)
            · refine Rx.walk 1 (pc' := 84) (L' := [some (.ref 0), some (.int (iz v)), some (.int (iz 0)), some (.long (jz r_81)), none]) (st' := [.int (iz v)]) (h' := cmH (u1 (u1 (u1 (u1 (u1 z 8 bg) 9 n) 10 a_82) 11 fa_83) 12 dp_84) zl (uf (uf f 2 tb) 4 lt) fl 2) rfl ?_
              refine Rx.i2l rfl ⟨by omega, by omega⟩ ?_
              refine Rx.walk 1 (pc' := 86) (L' := [some (.ref 0), some (.int (iz v)), some (.int (iz 0)), some (.long (jz r_81)), none]) (st' := [.long (jz r_81), .long (jz v)]) (h' := cmH (u1 (u1 (u1 (u1 (u1 z 8 bg) 9 n) 10 a_82) 11 fa_83) 12 dp_84) zl (uf (uf f 2 tb) 4 lt) fl 2) rfl ?_
              refine Rx.ldivT rfl ⟨by omega, by omega⟩ ⟨by omega, by omega⟩ (by omega) ?_
              refine Rx.callx (m' := m_X12_within) (as := [.long (jz (v.tdiv r_81))]) (rest := []) rfl (n_within _ (cmH (u1 (u1 (u1 (u1 (u1 z 8 bg) 9 n) 10 a_82) 11 fa_83) 12 dp_84) zl (uf (uf f 2 tb) 4 lt) fl 2)  (v.tdiv r_81) ⟨by omega, by omega⟩) (fun v95 h96 q97 => ?_)
              obtain ⟨r_92, rfl, rfl, f93, f94⟩ := q97
              refine Rx.walk 0 (pc' := 90) (L' := [some (.ref 0), some (.int (iz v)), some (.int (iz 0)), some (.long (jz r_81)), none]) (st' := [.int (iz r_92)]) (h' := cmH (u1 (u1 (u1 (u1 (u1 z 8 bg) 9 n) 10 a_82) 11 fa_83) 12 dp_84) zl (uf (uf f 2 tb) 4 lt) fl 2) rfl ?_
              refine Rx.walk 2 (pc' := 5) (L' := [some (.ref 0), some (.int (iz r_92)), some (.int (iz 0)), some (.long (jz r_81)), none]) (st' := []) (h' := cmH (u1 (u1 (u1 (u1 (u1 z 8 bg) 9 n) 10 a_82) 11 fa_83) 12 dp_84) zl (uf (uf f 2 tb) 4 lt) fl 2) rfl ?_
              exact ih r_92 a_82 fa_83 dp_84 (opN acc ((atomR n b rr) (a_72 + 1)) (-4)) k1 (some (.int (iz 0))) (some (.long (jz r_81))) none ⟨by omega, by omega, by omega⟩ hqf f94 (mdR_op (op := -4) hok4 (by have z := f85; rw [hok3] at z; exact z) (fun _ => by rw [f93, wtn_id htb]; show _ = (if r_81 = 0 then 0 else v.tdiv r_81); rw [if_neg (by omega)])) (by omega) (by rw [hE2, if_neg (by omega)]) (fun z => by rcases f85 with y | y; (exfalso; unfold opN at z; rw [if_pos y.1] at z; exact absurd (show true = false from z) (by decide)); (have := y.2; have := hqo.1; omega)) (by first | assumption | omega) 
            · refine Rx.walk 2 (pc' := 87) (L' := [some (.ref 0), some (.int (iz v)), some (.int (iz 0)), some (.long (jz r_81)), none]) (st' := [.long (jz 0)]) (h' := cmH (u1 (u1 (u1 (u1 (u1 z 8 bg) 9 n) 10 a_82) 11 fa_83) 12 dp_84) zl (uf (uf f 2 tb) 4 lt) fl 2) rfl ?_
              refine Rx.callx (m' := m_X12_within) (as := [.long (jz 0)]) (rest := []) rfl (n_within _ (cmH (u1 (u1 (u1 (u1 (u1 z 8 bg) 9 n) 10 a_82) 11 fa_83) 12 dp_84) zl (uf (uf f 2 tb) 4 lt) fl 2)  0 ⟨by omega, by omega⟩) (fun v101 h102 q103 => ?_)
              obtain ⟨r_98, rfl, rfl, f99, f100⟩ := q103
              refine Rx.walk 0 (pc' := 90) (L' := [some (.ref 0), some (.int (iz v)), some (.int (iz 0)), some (.long (jz r_81)), none]) (st' := [.int (iz r_98)]) (h' := cmH (u1 (u1 (u1 (u1 (u1 z 8 bg) 9 n) 10 a_82) 11 fa_83) 12 dp_84) zl (uf (uf f 2 tb) 4 lt) fl 2) rfl ?_
              refine Rx.walk 2 (pc' := 5) (L' := [some (.ref 0), some (.int (iz r_98)), some (.int (iz 0)), some (.long (jz r_81)), none]) (st' := []) (h' := cmH (u1 (u1 (u1 (u1 (u1 z 8 bg) 9 n) 10 a_82) 11 fa_83) 12 dp_84) zl (uf (uf f 2 tb) 4 lt) fl 2) rfl ?_
              exact ih r_98 a_82 fa_83 dp_84 (opN acc ((atomR n b rr) (a_72 + 1)) (-4)) k1 (some (.int (iz 0))) (some (.long (jz r_81))) none ⟨by omega, by omega, by omega⟩ hqf f100 (mdR_op (op := -4) hok4 (by have z := f85; rw [hok3] at z; exact z) (fun _ => by rw [f99]; show wtn 0 = (if r_81 = 0 then 0 else v.tdiv r_81); rw [if_pos (by omega)]; rfl)) (by omega) (by rw [hE2, if_neg (by omega)]) (fun z => by rcases f85 with y | y; (exfalso; unfold opN at z; rw [if_pos y.1] at z; exact absurd (show true = false from z) (by decide)); (have := y.2; have := hqo.1; omega)) (by first | assumption | omega) 
          · refine Rx.walk 3 (pc' := 46) (L' := [some (.ref 0), some (.int (iz v)), some (.int (iz 1)), w3, w4]) (st' := []) (h' := cmH (u1 (u1 (u1 (u1 (u1 z 8 bg) 9 n) 10 a_72) 11 (-1)) 12 dpv) zl (uf (uf f 2 tb) 4 lt) fl 2) rfl ?_
            have ec : sg n b (sks n b acc.2.1) = r_71 := by rw [← hok2, es3]; exact f74.symm
            have ec0 : r_2 = r_71 := by rw [f5, f74, ← es3, ← es1]
            have ec2 : r_61 = r_71 := by rw [f64, f74, ← es3, ← es2]
            have hlt : a_72 < n := by rcases Int.lt_or_le a_72 n with q | q; exact q; (exfalso; have e9 := f74; rw [sg_ge q] at e9; omega)
            obtain ⟨k1, rfl⟩ : ∃ k1, k = k1 + 1 := ⟨k - 1, by omega⟩
            have hle := sks_le n b a
            have hqo := hA0 (a_72 + 1) (by omega) (by omega)
            have hE2 : Rt = opL n b 42 47 (-3) (-4) (atomR n b rr) k1 (opN acc ((atomR n b rr) (a_72 + 1)) (if sg n b (sks n b acc.2.1) = 42 then (-3) else (-4))) := by rw [hE, opL_n hok1 (by omega), ← hok2, es3]
            refine Rx.walk 4 (pc' := 52) (L' := [some (.ref 0), some (.int (iz v)), some (.int (iz 1)), w3, w4]) (st' := [.int (iz 1), .int (iz a_72), .ref 0]) (h' := cmH (u1 (u1 (u1 (u1 (u1 z 8 bg) 9 n) 10 a_72) 11 (-1)) 12 dpv) zl (uf (uf f 2 tb) 4 lt) fl 2) rfl ?_
            refine Rx.iadd rfl ?_
            refine Rx.walk 2 (pc' := 57) (L' := [some (.ref 0), some (.int (iz v)), some (.int (iz 1)), w3, w4]) (st' := [.ref 0]) (h' := cmH (u1 (u1 (u1 (u1 (u1 z 8 bg) 9 n) 10 (a_72 + 1)) 11 (-1)) 12 dpv) zl (uf (uf f 2 tb) 4 lt) fl 2) rfl ?_
            refine Rx.callx (m' := m_X12_atom) (as := [.ref 0]) (rest := []) rfl (hA _ (u1 (u1 (u1 (u1 (u1 z 8 bg) 9 n) 10 (a_72 + 1)) 11 (-1)) 12 dpv) zl (uf (uf f 2 tb) 4 lt) fl 2  dpv n (a_72 + 1) bg tb b lt hT hM ⟨by omega, by omega⟩ hL ⟨by omega, by omega⟩) (fun v110 h111 q112 => ?_)
            obtain ⟨r_104, a_105, fa_106, dp_107, rfl, rfl, f108, f109⟩ := q112
            refine Rx.walk 0 (pc' := 60) (L' := [some (.ref 0), some (.int (iz v)), some (.int (iz 1)), w3, w4]) (st' := [.int (iz r_104)]) (h' := cmH (u1 (u1 (u1 (u1 (u1 z 8 bg) 9 n) 10 a_105) 11 fa_106) 12 dp_107) zl (uf (uf f 2 tb) 4 lt) fl 2) rfl ?_
            obtain ⟨hqa, hqf, hqb⟩ := id f109
            have hmb := mul_b hvb hqb
            have htb := tdiv_b (y := r_104) hvb
            refine Rx.i2l rfl ⟨by omega, by omega⟩ ?_
            refine Rx.walk 2 (pc' := 63) (L' := [some (.ref 0), some (.int (iz v)), some (.int (iz 1)), some (.long (jz r_104)), none]) (st' := [.int (iz 1)]) (h' := cmH (u1 (u1 (u1 (u1 (u1 z 8 bg) 9 n) 10 a_105) 11 fa_106) 12 dp_107) zl (uf (uf f 2 tb) 4 lt) fl 2) rfl ?_
            refine Rx.eq1 rfl rfl ⟨by omega, by omega⟩ (fun b113 => by omega) (fun b113 => ?_)
            refine Rx.walk 1 (pc' := 67) (L' := [some (.ref 0), some (.int (iz v)), some (.int (iz 1)), some (.long (jz r_104)), none]) (st' := [.int (iz v)]) (h' := cmH (u1 (u1 (u1 (u1 (u1 z 8 bg) 9 n) 10 a_105) 11 fa_106) 12 dp_107) zl (uf (uf f 2 tb) 4 lt) fl 2) rfl ?_
            refine Rx.i2l rfl ⟨by omega, by omega⟩ ?_
            refine Rx.walk 1 (pc' := 69) (L' := [some (.ref 0), some (.int (iz v)), some (.int (iz 1)), some (.long (jz r_104)), none]) (st' := [.long (jz r_104), .long (jz v)]) (h' := cmH (u1 (u1 (u1 (u1 (u1 z 8 bg) 9 n) 10 a_105) 11 fa_106) 12 dp_107) zl (uf (uf f 2 tb) 4 lt) fl 2) rfl ?_
            refine Rx.lmul rfl ?_
            refine Rx.walk 1 (pc' := 87) (L' := [some (.ref 0), some (.int (iz v)), some (.int (iz 1)), some (.long (jz r_104)), none]) (st' := [.long (jz (v * r_104))]) (h' := cmH (u1 (u1 (u1 (u1 (u1 z 8 bg) 9 n) 10 a_105) 11 fa_106) 12 dp_107) zl (uf (uf f 2 tb) 4 lt) fl 2) rfl ?_
            refine Rx.callx (m' := m_X12_within) (as := [.long (jz (v * r_104))]) (rest := []) rfl (n_within _ (cmH (u1 (u1 (u1 (u1 (u1 z 8 bg) 9 n) 10 a_105) 11 fa_106) 12 dp_107) zl (uf (uf f 2 tb) 4 lt) fl 2)  (v * r_104) ⟨by omega, by omega⟩) (fun v117 h118 q119 => ?_)
            obtain ⟨r_114, rfl, rfl, f115, f116⟩ := q119
            refine Rx.walk 0 (pc' := 90) (L' := [some (.ref 0), some (.int (iz v)), some (.int (iz 1)), some (.long (jz r_104)), none]) (st' := [.int (iz r_114)]) (h' := cmH (u1 (u1 (u1 (u1 (u1 z 8 bg) 9 n) 10 a_105) 11 fa_106) 12 dp_107) zl (uf (uf f 2 tb) 4 lt) fl 2) rfl ?_
            refine Rx.walk 2 (pc' := 5) (L' := [some (.ref 0), some (.int (iz r_114)), some (.int (iz 1)), some (.long (jz r_104)), none]) (st' := []) (h' := cmH (u1 (u1 (u1 (u1 (u1 z 8 bg) 9 n) 10 a_105) 11 fa_106) 12 dp_107) zl (uf (uf f 2 tb) 4 lt) fl 2) rfl ?_
            exact ih r_114 a_105 fa_106 dp_107 (opN acc ((atomR n b rr) (a_72 + 1)) (-3)) k1 (some (.int (iz 1))) (some (.long (jz r_104))) none ⟨by omega, by omega, by omega⟩ hqf f116 (mdR_op (op := -3) hok4 (by have z := f108; rw [hok3] at z; exact z) (fun _ => f115)) (by omega) (by rw [hE2, if_pos (by omega)]) (fun z => by rcases f108 with y | y; (exfalso; unfold opN at z; rw [if_pos y.1] at z; exact absurd (show true = false from z) (by decide)); (have := y.2; have := hqo.1; omega)) (by first | assumption | omega) 
set_option maxRecDepth 100000 in
set_option maxHeartbeats 4000000 in
theorem m_rTerm2 (d : Nat) (z : Nat → Int) (zl : Nat → Int) (f : Nat → Int → Int) (fl : Nat → Int → Int) (tx : Nat) (D rr : Nat) (hA : ∀ (d : Nat) (z : Nat → Int) (zl : Nat → Int) (f : Nat → Int → Int) (fl : Nat → Int → Int) (tx : Nat)  (dp : Int) (n : Int) (a : Int) (bg : Int) (tb : Int → Int) (b : Int → Int) (lt : Int → Int) (hT : tOK n b) (hM : mOK n bg 640 tb b) (ha : 0 ≤ a ∧ a ≤ n) (hL : ∀ k : Int, 0 ≤ k → k < 128 → -1000000 ≤ lt k ∧ lt k ≤ 1000000) (hdp : 0 ≤ dp ∧ dp = 6 - (rr : Int)), Rx (d + (D + 2)) m_X12_atom 0 (am_ent [.ref 0] 4) [] (cmH (u1 (u1 (u1 (u1 (u1 z 8 bg) 9 n) 10 a) 11 (-1)) 12 dp) zl (uf (uf f 2 tb) 4 lt) fl 2) (fun rv h => ∃ r : Int, ∃ a' : Int, ∃ fa' : Int, ∃ dp' : Int, rv = some (.int (iz r)) ∧ h = cmH (u1 (u1 (u1 (u1 (u1 z 8 bg) 9 n) 10 a') 11 fa') 12 dp') zl (uf (uf f 2 tb) 4 lt) fl 2 ∧ mdR (atomR n b rr a) (ltL lt) dp r a' fa' dp' ∧ ((a ≤ a' ∧ a' ≤ n) ∧ (fa' = -1 ∨ (0 ≤ fa' ∧ fa' ≤ 160)) ∧ (-1000000 ≤ r ∧ r ≤ 1000000)))) (dp : Int) (n : Int) (a : Int) (bg : Int) (tb : Int → Int) (b : Int → Int) (lt : Int → Int) (hT : tOK n b) (hM : mOK n bg 640 tb b) (ha : 0 ≤ a ∧ a ≤ n) (hL : ∀ k : Int, 0 ≤ k → k < 128 → -1000000 ≤ lt k ∧ lt k ≤ 1000000) (hdp : 0 ≤ dp ∧ dp = 6 - (rr : Int)) : Rx (d + (D + 3)) m_X12_term 0 (am_ent [.ref 0] 5) [] (cmH (u1 (u1 (u1 (u1 (u1 z 8 bg) 9 n) 10 a) 11 (-1)) 12 dp) zl (uf (uf f 2 tb) 4 lt) fl 2) (fun rv h => ∃ r : Int, ∃ a' : Int, ∃ fa' : Int, ∃ dp' : Int, rv = some (.int (iz r)) ∧ h = cmH (u1 (u1 (u1 (u1 (u1 z 8 bg) 9 n) 10 a') 11 fa') 12 dp') zl (uf (uf f 2 tb) 4 lt) fl 2 ∧ mdR (termG n b (atomR n b rr) a) (ltL lt) dp r a' fa' dp' ∧ ((a ≤ a' ∧ a' ≤ n) ∧ (fa' = -1 ∨ (0 ≤ fa' ∧ fa' ≤ 160)) ∧ (-1000000 ≤ r ∧ r ≤ 1000000))) := by
  obtain ⟨hT1, hT2, hT3⟩ := id hT
  have hbg := hM.1
  have hbz := hM.2.1
  have hrr : 0 ≤ (rr : Int) := by omega
  refine Rx.walk 0 (pc' := 0) (L' := [some (.ref 0), none, none, none, none]) (st' := []) (h' := cmH (u1 (u1 (u1 (u1 (u1 z 8 bg) 9 n) 10 a) 11 (-1)) 12 dp) zl (uf (uf f 2 tb) 4 lt) fl 2) rfl ?_
  refine Rx.walk 1 (pc' := 1) (L' := [some (.ref 0), none, none, none, none]) (st' := [.ref 0]) (h' := cmH (u1 (u1 (u1 (u1 (u1 z 8 bg) 9 n) 10 a) 11 (-1)) 12 dp) zl (uf (uf f 2 tb) 4 lt) fl 2) rfl ?_
  refine Rx.callx (m' := m_X12_atom) (as := [.ref 0]) (rest := []) rfl (hA _ (u1 (u1 (u1 (u1 (u1 z 8 bg) 9 n) 10 a) 11 (-1)) 12 dp) zl (uf (uf f 2 tb) 4 lt) fl 2  dp n a bg tb b lt hT hM ha hL hdp) (fun v7 h8 q9 => ?_)
  obtain ⟨r_1, a_2, fa_3, dp_4, rfl, rfl, f5, f6⟩ := q9
  refine Rx.walk 0 (pc' := 4) (L' := [some (.ref 0), none, none, none, none]) (st' := [.int (iz r_1)]) (h' := cmH (u1 (u1 (u1 (u1 (u1 z 8 bg) 9 n) 10 a_2) 11 fa_3) 12 dp_4) zl (uf (uf f 2 tb) 4 lt) fl 2) rfl ?_
  obtain ⟨hqa, hqf, hqb⟩ := id f6
  have hok : rdOK n (atomR n b rr) := atomR_ok (n := n) (b := b) rr
  have hqo := hok a ha.1 ha.2
  refine Rx.walk 1 (pc' := 5) (L' := [some (.ref 0), some (.int (iz r_1)), none, none, none]) (st' := []) (h' := cmH (u1 (u1 (u1 (u1 (u1 z 8 bg) 9 n) 10 a_2) 11 fa_3) 12 dp_4) zl (uf (uf f 2 tb) 4 lt) fl 2) rfl ?_
  refine m_rTerm2_l _ (u1 (u1 (u1 (u1 (u1 z 8 bg) 9 n) 10 a_2) 11 fa_3) 12 dp_4) zl (uf (uf f 2 tb) 4 lt) fl 2 D rr hA dp n bg tb b lt (termG n b (atomR n b rr) a) a hT hM hL hdp hok _ ?_ ((n - a_2) + 1 : Int).toNat r_1 a_2 fa_3 dp_4 ((atomR n b rr) a) 161 none none none ⟨by omega, by omega, by omega⟩ hqf hqb f5 (by omega) rfl (fun z => by rcases f5 with y | y; exact absurd (z.symm.trans y.1) (by decide); (have := y.2; have := hqo.1; omega)) (by omega) 
  intro r_10 a_11 fa_12 dp_13 f14 f15
  show (fun (rv : Option Value) (h : AmH) => ∃ r : Int, ∃ a' : Int, ∃ fa' : Int, ∃ dp' : Int, rv = some (.int (iz r)) ∧ h = cmH (u1 (u1 (u1 (u1 (u1 z 8 bg) 9 n) 10 a') 11 fa') 12 dp') zl (uf (uf f 2 tb) 4 lt) fl 2 ∧ mdR (termG n b (atomR n b rr) a) (ltL lt) dp r a' fa' dp' ∧ ((a ≤ a' ∧ a' ≤ n) ∧ (fa' = -1 ∨ (0 ≤ fa' ∧ fa' ≤ 160)) ∧ (-1000000 ≤ r ∧ r ≤ 1000000))) (some (Value.int (iz r_10))) (cmH (u1 (u1 (u1 (u1 (u1 z 8 bg) 9 n) 10 a_11) 11 fa_12) 12 dp_13) zl (uf (uf f 2 tb) 4 lt) fl 2)
  exact ⟨_, _, _, _, rfl, rfl, f14, f15⟩
set_option maxRecDepth 100000 in
set_option maxHeartbeats 4000000 in
theorem m_rSum2_l (d : Nat) (z : Nat → Int) (zl : Nat → Int) (f : Nat → Int → Int) (fl : Nat → Int → Int) (tx : Nat) (D rr : Nat) (hT_ : ∀ (d : Nat) (z : Nat → Int) (zl : Nat → Int) (f : Nat → Int → Int) (fl : Nat → Int → Int) (tx : Nat)  (dp : Int) (n : Int) (a : Int) (bg : Int) (tb : Int → Int) (b : Int → Int) (lt : Int → Int) (hT : tOK n b) (hM : mOK n bg 640 tb b) (ha : 0 ≤ a ∧ a ≤ n) (hL : ∀ k : Int, 0 ≤ k → k < 128 → -1000000 ≤ lt k ∧ lt k ≤ 1000000) (hdp : 0 ≤ dp ∧ dp = 6 - (rr : Int)), Rx (d + (D + 2)) m_X12_term 0 (am_ent [.ref 0] 5) [] (cmH (u1 (u1 (u1 (u1 (u1 z 8 bg) 9 n) 10 a) 11 (-1)) 12 dp) zl (uf (uf f 2 tb) 4 lt) fl 2) (fun rv h => ∃ r : Int, ∃ a' : Int, ∃ fa' : Int, ∃ dp' : Int, rv = some (.int (iz r)) ∧ h = cmH (u1 (u1 (u1 (u1 (u1 z 8 bg) 9 n) 10 a') 11 fa') 12 dp') zl (uf (uf f 2 tb) 4 lt) fl 2 ∧ mdR (termG n b (atomR n b rr) a) (ltL lt) dp r a' fa' dp' ∧ ((a ≤ a' ∧ a' ≤ n) ∧ (fa' = -1 ∨ (0 ≤ fa' ∧ fa' ≤ 160)) ∧ (-1000000 ≤ r ∧ r ≤ 1000000)))) (dp : Int) (n : Int) (bg : Int) (tb : Int → Int) (b : Int → Int) (lt : Int → Int) (Rt : RsT) (a0 : Int) (hT : tOK n b) (hM : mOK n bg 640 tb b) (hL : ∀ k : Int, 0 ≤ k → k < 128 → -1000000 ≤ lt k ∧ lt k ≤ 1000000) (hdp : 0 ≤ dp ∧ dp = 6 - (rr : Int)) (hA0 : rdOK n (termG n b (atomR n b rr))) (P : Option Value → AmH → Prop) (hx0 : ∀ (r : Int) (a' : Int) (fa' : Int) (dp' : Int), (mdR Rt (ltL lt) dp r a' fa' dp') → ((a0 ≤ a' ∧ a' ≤ n) ∧ (fa' = -1 ∨ (0 ≤ fa' ∧ fa' ≤ 160)) ∧ (-1000000 ≤ r ∧ r ≤ 1000000)) → P (some (.int (iz r))) (cmH (u1 (u1 (u1 (u1 (u1 z 8 bg) 9 n) 10 a') 11 fa') 12 dp') zl (uf (uf f 2 tb) 4 lt) fl 2)) : ∀ (kF : Nat) (v : Int) (a : Int) (fa : Int) (dpv : Int) (acc : RsT) (k : Nat) (w2 : Option Value) (w3 : Option Value) (w4 : Option Value), (0 ≤ a ∧ a ≤ n ∧ a0 ≤ a) → (fa = -1 ∨ (0 ≤ fa ∧ fa ≤ 160)) → (-1000000 ≤ v ∧ v ≤ 1000000) → (mdR acc (ltL lt) dp v a fa dpv) → (n - a < (k : Int)) → (Rt = opL n b 43 45 (-1) (-2) (termG n b (atomR n b rr)) k acc) → (acc.1 = false → fa ≠ -1) → (n - a) < (kF : Int) → Rx (d + (D + 3)) m_X12_sum 5 [some (.ref 0), some (.int (iz v)), w2, w3, w4] [] (cmH (u1 (u1 (u1 (u1 (u1 z 8 bg) 9 n) 10 a) 11 fa) 12 dpv) zl (uf (uf f 2 tb) 4 lt) fl 2) P := by
  obtain ⟨hT1, hT2, hT3⟩ := id hT
  have hbg := hM.1
  have hbz := hM.2.1
  have hrr : 0 ≤ (rr : Int) := by omega
  intro kF
  induction kF with
  | zero =>
    intro v a fa dpv acc k w2 w3 w4 ha hfa hvb hR hk hE hfp hk
    exfalso; omega
  | succ kF ih =>
    intro v a fa dpv acc k w2 w3 w4 ha hfa hvb hR hk hE hfp hk
    refine Rx.walk 3 (pc' := 10) (L' := [some (.ref 0), some (.int (iz v)), w2, w3, w4]) (st' := [.int (iz (-1)), .int (iz fa)]) (h' := cmH (u1 (u1 (u1 (u1 (u1 z 8 bg) 9 n) 10 a) 11 fa) 12 dpv) zl (uf (uf f 2 tb) 4 lt) fl 2) rfl ?_
    refine Rx.ne2 rfl rfl ⟨by omega, by omega⟩ ⟨by omega, by omega⟩ (fun b1 => ?_) (fun b1 => ?_)
    · refine Rx.walk 1 (pc' := 85) (L' := [some (.ref 0), some (.int (iz v)), w2, w3, w4]) (st' := [.int (iz v)]) (h' := cmH (u1 (u1 (u1 (u1 (u1 z 8 bg) 9 n) 10 a) 11 fa) 12 dpv) zl (uf (uf f 2 tb) 4 lt) fl 2) rfl ?_
      refine Rx.ret rfl ?_
      exact hx0 _ _ _ _ (by rw [hE, opL_f (show acc.1 = false from by rcases hR with z | z; (exact absurd z.2.1 (by omega)); exact z.1)]; exact hR) ⟨⟨by omega, by omega⟩, hfa, hvb⟩
    · obtain rfl : fa = -1 := by omega
      obtain ⟨hok1, hok2, hok3, hok4⟩ : acc.1 = true ∧ a = acc.2.1 ∧ dpv = dp ∧ v = acc.2.2.2 (ltL lt) := by rcases hR with z | z; (exact ⟨z.1, z.2.2.1, z.2.2.2.1, z.2.2.2.2⟩); (exact absurd rfl (hfp z.1))
      refine Rx.walk 1 (pc' := 14) (L' := [some (.ref 0), some (.int (iz v)), w2, w3, w4]) (st' := [.ref 0]) (h' := cmH (u1 (u1 (u1 (u1 (u1 z 8 bg) 9 n) 10 a) 11 (-1)) 12 dpv) zl (uf (uf f 2 tb) 4 lt) fl 2) rfl ?_
      refine Rx.callx (m' := m_X12_look) (as := [.ref 0]) (rest := []) rfl (m_look2 _ (u1 (u1 (u1 (u1 (u1 z 8 bg) 9 n) 10 a) 11 (-1)) 12 dpv) zl (uf (uf f 2 tb) 4 lt) fl 2  n a bg (-1) tb b hT hM ⟨by omega, by omega⟩) (fun v8 h9 q10 => ?_)
      obtain ⟨r_2, a_3, rfl, rfl, f4, f5, f6, f7⟩ := q10
      refine Rx.walk 0 (pc' := 17) (L' := [some (.ref 0), some (.int (iz v)), w2, w3, w4]) (st' := [.int (iz r_2)]) (h' := cmH (u1 (u1 (u1 (u1 (u1 z 8 bg) 9 n) 10 a_3) 11 (-1)) 12 dpv) zl (uf (uf f 2 tb) 4 lt) fl 2) rfl ?_
      have es1 : sks n b a = a_3 := f4.symm
      refine Rx.walk 1 (pc' := 19) (L' := [some (.ref 0), some (.int (iz v)), w2, w3, w4]) (st' := [.int (iz 43), .int (iz r_2)]) (h' := cmH (u1 (u1 (u1 (u1 (u1 z 8 bg) 9 n) 10 a_3) 11 (-1)) 12 dpv) zl (uf (uf f 2 tb) 4 lt) fl 2) rfl ?_
      refine Rx.eq2 rfl rfl ⟨by omega, by omega⟩ ⟨by omega, by omega⟩ (fun b11 => ?_) (fun b11 => ?_)
      · refine Rx.walk 1 (pc' := 32) (L' := [some (.ref 0), some (.int (iz v)), w2, w3, w4]) (st' := [.ref 0]) (h' := cmH (u1 (u1 (u1 (u1 (u1 z 8 bg) 9 n) 10 a_3) 11 (-1)) 12 dpv) zl (uf (uf f 2 tb) 4 lt) fl 2) rfl ?_
        refine Rx.callx (m' := m_X12_look) (as := [.ref 0]) (rest := []) rfl (m_look2 _ (u1 (u1 (u1 (u1 (u1 z 8 bg) 9 n) 10 a_3) 11 (-1)) 12 dpv) zl (uf (uf f 2 tb) 4 lt) fl 2  n a_3 bg (-1) tb b hT hM ⟨by omega, by omega⟩) (fun v18 h19 q20 => ?_)
        obtain ⟨r_12, a_13, rfl, rfl, f14, f15, f16, f17⟩ := q20
        refine Rx.walk 0 (pc' := 35) (L' := [some (.ref 0), some (.int (iz v)), w2, w3, w4]) (st' := [.int (iz r_12)]) (h' := cmH (u1 (u1 (u1 (u1 (u1 z 8 bg) 9 n) 10 a_13) 11 (-1)) 12 dpv) zl (uf (uf f 2 tb) 4 lt) fl 2) rfl ?_
        have es2 : sks n b a = a_13 := by rw [f14, es1.symm, sks_sks]
        refine Rx.walk 1 (pc' := 37) (L' := [some (.ref 0), some (.int (iz v)), w2, w3, w4]) (st' := [.int (iz 43), .int (iz r_12)]) (h' := cmH (u1 (u1 (u1 (u1 (u1 z 8 bg) 9 n) 10 a_13) 11 (-1)) 12 dpv) zl (uf (uf f 2 tb) 4 lt) fl 2) rfl ?_
        refine Rx.ne2 rfl rfl ⟨by omega, by omega⟩ ⟨by omega, by omega⟩ (fun b21 => ?_) (fun b21 => ?_)
        · refine Rx.walk 2 (pc' := 46) (L' := [some (.ref 0), some (.int (iz v)), some (.int (iz 0)), w3, w4]) (st' := []) (h' := cmH (u1 (u1 (u1 (u1 (u1 z 8 bg) 9 n) 10 a_13) 11 (-1)) 12 dpv) zl (uf (uf f 2 tb) 4 lt) fl 2) rfl ?_
          have ec : sg n b (sks n b acc.2.1) = r_12 := by rw [← hok2, es2]; exact f15.symm
          have ec0 : r_2 = r_12 := by rw [f5, f15, ← es2, ← es1]
          have hlt : a_13 < n := by rcases Int.lt_or_le a_13 n with q | q; exact q; (exfalso; have e9 := f15; rw [sg_ge q] at e9; omega)
          obtain ⟨k1, rfl⟩ : ∃ k1, k = k1 + 1 := ⟨k - 1, by omega⟩
          have hle := sks_le n b a
          have hqo := hA0 (a_13 + 1) (by omega) (by omega)
          have hE2 : Rt = opL n b 43 45 (-1) (-2) (termG n b (atomR n b rr)) k1 (opN acc ((termG n b (atomR n b rr)) (a_13 + 1)) (if sg n b (sks n b acc.2.1) = 43 then (-1) else (-2))) := by rw [hE, opL_n hok1 (by omega), ← hok2, es2]
          refine Rx.walk 4 (pc' := 52) (L' := [some (.ref 0), some (.int (iz v)), some (.int (iz 0)), w3, w4]) (st' := [.int (iz 1), .int (iz a_13), .ref 0]) (h' := cmH (u1 (u1 (u1 (u1 (u1 z 8 bg) 9 n) 10 a_13) 11 (-1)) 12 dpv) zl (uf (uf f 2 tb) 4 lt) fl 2) rfl ?_
          refine Rx.iadd rfl ?_
          refine Rx.walk 2 (pc' := 57) (L' := [some (.ref 0), some (.int (iz v)), some (.int (iz 0)), w3, w4]) (st' := [.ref 0]) (h' := cmH (u1 (u1 (u1 (u1 (u1 z 8 bg) 9 n) 10 (a_13 + 1)) 11 (-1)) 12 dpv) zl (uf (uf f 2 tb) 4 lt) fl 2) rfl ?_
          refine Rx.callx (m' := m_X12_term) (as := [.ref 0]) (rest := []) rfl (hT_ _ (u1 (u1 (u1 (u1 (u1 z 8 bg) 9 n) 10 (a_13 + 1)) 11 (-1)) 12 dpv) zl (uf (uf f 2 tb) 4 lt) fl 2  dpv n (a_13 + 1) bg tb b lt hT hM ⟨by omega, by omega⟩ hL ⟨by omega, by omega⟩) (fun v28 h29 q30 => ?_)
          obtain ⟨r_22, a_23, fa_24, dp_25, rfl, rfl, f26, f27⟩ := q30
          refine Rx.walk 0 (pc' := 60) (L' := [some (.ref 0), some (.int (iz v)), some (.int (iz 0)), w3, w4]) (st' := [.int (iz r_22)]) (h' := cmH (u1 (u1 (u1 (u1 (u1 z 8 bg) 9 n) 10 a_23) 11 fa_24) 12 dp_25) zl (uf (uf f 2 tb) 4 lt) fl 2) rfl ?_
          obtain ⟨hqa, hqf, hqb⟩ := id f27
          have hmb := mul_b hvb hqb
          have htb := tdiv_b (y := r_22) hvb
          refine Rx.i2l rfl ⟨by omega, by omega⟩ ?_
          refine Rx.walk 2 (pc' := 63) (L' := [some (.ref 0), some (.int (iz v)), some (.int (iz 0)), some (.long (jz r_22)), none]) (st' := [.int (iz 0)]) (h' := cmH (u1 (u1 (u1 (u1 (u1 z 8 bg) 9 n) 10 a_23) 11 fa_24) 12 dp_25) zl (uf (uf f 2 tb) 4 lt) fl 2) rfl ?_
          refine Rx.eq1 rfl rfl ⟨by omega, by omega⟩ (fun b31 => ?_) (fun b31 => by omega)
          refine Rx.walk 1 (pc' := 74) (L' := [some (.ref 0), some (.int (iz v)), some (.int (iz 0)), some (.long (jz r_22)), none]) (st' := [.int (iz v)]) (h' := cmH (u1 (u1 (u1 (u1 (u1 z 8 bg) 9 n) 10 a_23) 11 fa_24) 12 dp_25) zl (uf (uf f 2 tb) 4 lt) fl 2) rfl ?_
          refine Rx.i2l rfl ⟨by omega, by omega⟩ ?_
          refine Rx.walk 1 (pc' := 76) (L' := [some (.ref 0), some (.int (iz v)), some (.int (iz 0)), some (.long (jz r_22)), none]) (st' := [.long (jz r_22), .long (jz v)]) (h' := cmH (u1 (u1 (u1 (u1 (u1 z 8 bg) 9 n) 10 a_23) 11 fa_24) 12 dp_25) zl (uf (uf f 2 tb) 4 lt) fl 2) rfl ?_
          refine Rx.lsub rfl ?_
          refine Rx.callx (m' := m_X12_within) (as := [.long (jz (v - r_22))]) (rest := []) rfl (n_within _ (cmH (u1 (u1 (u1 (u1 (u1 z 8 bg) 9 n) 10 a_23) 11 fa_24) 12 dp_25) zl (uf (uf f 2 tb) 4 lt) fl 2)  (v - r_22) ⟨by omega, by omega⟩) (fun v35 h36 q37 => ?_)
          obtain ⟨r_32, rfl, rfl, f33, f34⟩ := q37
          refine Rx.walk 0 (pc' := 80) (L' := [some (.ref 0), some (.int (iz v)), some (.int (iz 0)), some (.long (jz r_22)), none]) (st' := [.int (iz r_32)]) (h' := cmH (u1 (u1 (u1 (u1 (u1 z 8 bg) 9 n) 10 a_23) 11 fa_24) 12 dp_25) zl (uf (uf f 2 tb) 4 lt) fl 2) rfl ?_
          refine Rx.walk 2 (pc' := 5) (L' := [some (.ref 0), some (.int (iz r_32)), some (.int (iz 0)), some (.long (jz r_22)), none]) (st' := []) (h' := cmH (u1 (u1 (u1 (u1 (u1 z 8 bg) 9 n) 10 a_23) 11 fa_24) 12 dp_25) zl (uf (uf f 2 tb) 4 lt) fl 2) rfl ?_
          exact ih r_32 a_23 fa_24 dp_25 (opN acc ((termG n b (atomR n b rr)) (a_13 + 1)) (-2)) k1 (some (.int (iz 0))) (some (.long (jz r_22))) none ⟨by omega, by omega, by omega⟩ hqf f34 (mdR_op (op := -2) hok4 (by have z := f26; rw [hok3] at z; exact z) (fun _ => f33)) (by omega) (by rw [hE2, if_neg (by omega)]) (fun z => by rcases f26 with y | y; (exfalso; unfold opN at z; rw [if_pos y.1] at z; exact absurd (show true = false from z) (by decide)); (have := y.2; have := hqo.1; omega)) (by first | assumption | omega) 
        · refine Rx.walk 3 (pc' := 46) (L' := [some (.ref 0), some (.int (iz v)), some (.int (iz 1)), w3, w4]) (st' := []) (h' := cmH (u1 (u1 (u1 (u1 (u1 z 8 bg) 9 n) 10 a_13) 11 (-1)) 12 dpv) zl (uf (uf f 2 tb) 4 lt) fl 2) rfl ?_
          have ec : sg n b (sks n b acc.2.1) = r_12 := by rw [← hok2, es2]; exact f15.symm
          have ec0 : r_2 = r_12 := by rw [f5, f15, ← es2, ← es1]
          have hlt : a_13 < n := by rcases Int.lt_or_le a_13 n with q | q; exact q; (exfalso; have e9 := f15; rw [sg_ge q] at e9; omega)
          obtain ⟨k1, rfl⟩ : ∃ k1, k = k1 + 1 := ⟨k - 1, by omega⟩
          have hle := sks_le n b a
          have hqo := hA0 (a_13 + 1) (by omega) (by omega)
          have hE2 : Rt = opL n b 43 45 (-1) (-2) (termG n b (atomR n b rr)) k1 (opN acc ((termG n b (atomR n b rr)) (a_13 + 1)) (if sg n b (sks n b acc.2.1) = 43 then (-1) else (-2))) := by rw [hE, opL_n hok1 (by omega), ← hok2, es2]
          refine Rx.walk 4 (pc' := 52) (L' := [some (.ref 0), some (.int (iz v)), some (.int (iz 1)), w3, w4]) (st' := [.int (iz 1), .int (iz a_13), .ref 0]) (h' := cmH (u1 (u1 (u1 (u1 (u1 z 8 bg) 9 n) 10 a_13) 11 (-1)) 12 dpv) zl (uf (uf f 2 tb) 4 lt) fl 2) rfl ?_
          refine Rx.iadd rfl ?_
          refine Rx.walk 2 (pc' := 57) (L' := [some (.ref 0), some (.int (iz v)), some (.int (iz 1)), w3, w4]) (st' := [.ref 0]) (h' := cmH (u1 (u1 (u1 (u1 (u1 z 8 bg) 9 n) 10 (a_13 + 1)) 11 (-1)) 12 dpv) zl (uf (uf f 2 tb) 4 lt) fl 2) rfl ?_
          refine Rx.callx (m' := m_X12_term) (as := [.ref 0]) (rest := []) rfl (hT_ _ (u1 (u1 (u1 (u1 (u1 z 8 bg) 9 n) 10 (a_13 + 1)) 11 (-1)) 12 dpv) zl (uf (uf f 2 tb) 4 lt) fl 2  dpv n (a_13 + 1) bg tb b lt hT hM ⟨by omega, by omega⟩ hL ⟨by omega, by omega⟩) (fun v44 h45 q46 => ?_)
          obtain ⟨r_38, a_39, fa_40, dp_41, rfl, rfl, f42, f43⟩ := q46
          refine Rx.walk 0 (pc' := 60) (L' := [some (.ref 0), some (.int (iz v)), some (.int (iz 1)), w3, w4]) (st' := [.int (iz r_38)]) (h' := cmH (u1 (u1 (u1 (u1 (u1 z 8 bg) 9 n) 10 a_39) 11 fa_40) 12 dp_41) zl (uf (uf f 2 tb) 4 lt) fl 2) rfl ?_
          obtain ⟨hqa, hqf, hqb⟩ := id f43
          have hmb := mul_b hvb hqb
          have htb := tdiv_b (y := r_38) hvb
          refine Rx.i2l rfl ⟨by omega, by omega⟩ ?_
          refine Rx.walk 2 (pc' := 63) (L' := [some (.ref 0), some (.int (iz v)), some (.int (iz 1)), some (.long (jz r_38)), none]) (st' := [.int (iz 1)]) (h' := cmH (u1 (u1 (u1 (u1 (u1 z 8 bg) 9 n) 10 a_39) 11 fa_40) 12 dp_41) zl (uf (uf f 2 tb) 4 lt) fl 2) rfl ?_
          refine Rx.eq1 rfl rfl ⟨by omega, by omega⟩ (fun b47 => by omega) (fun b47 => ?_)
          refine Rx.walk 1 (pc' := 67) (L' := [some (.ref 0), some (.int (iz v)), some (.int (iz 1)), some (.long (jz r_38)), none]) (st' := [.int (iz v)]) (h' := cmH (u1 (u1 (u1 (u1 (u1 z 8 bg) 9 n) 10 a_39) 11 fa_40) 12 dp_41) zl (uf (uf f 2 tb) 4 lt) fl 2) rfl ?_
          refine Rx.i2l rfl ⟨by omega, by omega⟩ ?_
          refine Rx.walk 1 (pc' := 69) (L' := [some (.ref 0), some (.int (iz v)), some (.int (iz 1)), some (.long (jz r_38)), none]) (st' := [.long (jz r_38), .long (jz v)]) (h' := cmH (u1 (u1 (u1 (u1 (u1 z 8 bg) 9 n) 10 a_39) 11 fa_40) 12 dp_41) zl (uf (uf f 2 tb) 4 lt) fl 2) rfl ?_
          refine Rx.ladd rfl ?_
          refine Rx.walk 1 (pc' := 77) (L' := [some (.ref 0), some (.int (iz v)), some (.int (iz 1)), some (.long (jz r_38)), none]) (st' := [.long (jz (v + r_38))]) (h' := cmH (u1 (u1 (u1 (u1 (u1 z 8 bg) 9 n) 10 a_39) 11 fa_40) 12 dp_41) zl (uf (uf f 2 tb) 4 lt) fl 2) rfl ?_
          refine Rx.callx (m' := m_X12_within) (as := [.long (jz (v + r_38))]) (rest := []) rfl (n_within _ (cmH (u1 (u1 (u1 (u1 (u1 z 8 bg) 9 n) 10 a_39) 11 fa_40) 12 dp_41) zl (uf (uf f 2 tb) 4 lt) fl 2)  (v + r_38) ⟨by omega, by omega⟩) (fun v51 h52 q53 => ?_)
          obtain ⟨r_48, rfl, rfl, f49, f50⟩ := q53
          refine Rx.walk 0 (pc' := 80) (L' := [some (.ref 0), some (.int (iz v)), some (.int (iz 1)), some (.long (jz r_38)), none]) (st' := [.int (iz r_48)]) (h' := cmH (u1 (u1 (u1 (u1 (u1 z 8 bg) 9 n) 10 a_39) 11 fa_40) 12 dp_41) zl (uf (uf f 2 tb) 4 lt) fl 2) rfl ?_
          refine Rx.walk 2 (pc' := 5) (L' := [some (.ref 0), some (.int (iz r_48)), some (.int (iz 1)), some (.long (jz r_38)), none]) (st' := []) (h' := cmH (u1 (u1 (u1 (u1 (u1 z 8 bg) 9 n) 10 a_39) 11 fa_40) 12 dp_41) zl (uf (uf f 2 tb) 4 lt) fl 2) rfl ?_
          exact ih r_48 a_39 fa_40 dp_41 (opN acc ((termG n b (atomR n b rr)) (a_13 + 1)) (-1)) k1 (some (.int (iz 1))) (some (.long (jz r_38))) none ⟨by omega, by omega, by omega⟩ hqf f50 (mdR_op (op := -1) hok4 (by have z := f42; rw [hok3] at z; exact z) (fun _ => f49)) (by omega) (by rw [hE2, if_pos (by omega)]) (fun z => by rcases f42 with y | y; (exfalso; unfold opN at z; rw [if_pos y.1] at z; exact absurd (show true = false from z) (by decide)); (have := y.2; have := hqo.1; omega)) (by first | assumption | omega) 
      · refine Rx.walk 1 (pc' := 23) (L' := [some (.ref 0), some (.int (iz v)), w2, w3, w4]) (st' := [.ref 0]) (h' := cmH (u1 (u1 (u1 (u1 (u1 z 8 bg) 9 n) 10 a_3) 11 (-1)) 12 dpv) zl (uf (uf f 2 tb) 4 lt) fl 2) rfl ?_
        refine Rx.callx (m' := m_X12_look) (as := [.ref 0]) (rest := []) rfl (m_look2 _ (u1 (u1 (u1 (u1 (u1 z 8 bg) 9 n) 10 a_3) 11 (-1)) 12 dpv) zl (uf (uf f 2 tb) 4 lt) fl 2  n a_3 bg (-1) tb b hT hM ⟨by omega, by omega⟩) (fun v60 h61 q62 => ?_)
        obtain ⟨r_54, a_55, rfl, rfl, f56, f57, f58, f59⟩ := q62
        refine Rx.walk 0 (pc' := 26) (L' := [some (.ref 0), some (.int (iz v)), w2, w3, w4]) (st' := [.int (iz r_54)]) (h' := cmH (u1 (u1 (u1 (u1 (u1 z 8 bg) 9 n) 10 a_55) 11 (-1)) 12 dpv) zl (uf (uf f 2 tb) 4 lt) fl 2) rfl ?_
        have es2 : sks n b a = a_55 := by rw [f56, es1.symm, sks_sks]
        refine Rx.walk 1 (pc' := 28) (L' := [some (.ref 0), some (.int (iz v)), w2, w3, w4]) (st' := [.int (iz 45), .int (iz r_54)]) (h' := cmH (u1 (u1 (u1 (u1 (u1 z 8 bg) 9 n) 10 a_55) 11 (-1)) 12 dpv) zl (uf (uf f 2 tb) 4 lt) fl 2) rfl ?_
        refine Rx.ne2 rfl rfl ⟨by omega, by omega⟩ ⟨by omega, by omega⟩ (fun b63 => ?_) (fun b63 => ?_)
        · refine Rx.walk 1 (pc' := 85) (L' := [some (.ref 0), some (.int (iz v)), w2, w3, w4]) (st' := [.int (iz v)]) (h' := cmH (u1 (u1 (u1 (u1 (u1 z 8 bg) 9 n) 10 a_55) 11 (-1)) 12 dpv) zl (uf (uf f 2 tb) 4 lt) fl 2) rfl ?_
          refine Rx.ret rfl ?_
          exact hx0 _ _ _ _ (by obtain ⟨k1, rfl⟩ : ∃ k1, k = k1 + 1 := ⟨k - 1, by omega⟩; have ec : sg n b (sks n b acc.2.1) = r_54 := (by rw [← hok2, es2]; exact f57.symm); have ec0 : r_2 = r_54 := (by rw [f5, f57, ← es2, ← es1]); rw [hE, opL_e hok1 (by omega) (by omega)]; exact Or.inl ⟨rfl, rfl, by rw [← hok2, es2], hok3, hok4⟩) ⟨⟨by omega, by omega⟩, Or.inl rfl, hvb⟩
        · refine Rx.walk 1 (pc' := 32) (L' := [some (.ref 0), some (.int (iz v)), w2, w3, w4]) (st' := [.ref 0]) (h' := cmH (u1 (u1 (u1 (u1 (u1 z 8 bg) 9 n) 10 a_55) 11 (-1)) 12 dpv) zl (uf (uf f 2 tb) 4 lt) fl 2) rfl ?_
          refine Rx.callx (m' := m_X12_look) (as := [.ref 0]) (rest := []) rfl (m_look2 _ (u1 (u1 (u1 (u1 (u1 z 8 bg) 9 n) 10 a_55) 11 (-1)) 12 dpv) zl (uf (uf f 2 tb) 4 lt) fl 2  n a_55 bg (-1) tb b hT hM ⟨by omega, by omega⟩) (fun v70 h71 q72 => ?_)
          obtain ⟨r_64, a_65, rfl, rfl, f66, f67, f68, f69⟩ := q72
          refine Rx.walk 0 (pc' := 35) (L' := [some (.ref 0), some (.int (iz v)), w2, w3, w4]) (st' := [.int (iz r_64)]) (h' := cmH (u1 (u1 (u1 (u1 (u1 z 8 bg) 9 n) 10 a_65) 11 (-1)) 12 dpv) zl (uf (uf f 2 tb) 4 lt) fl 2) rfl ?_
          have es3 : sks n b a = a_65 := by rw [f66, es2.symm, sks_sks]
          refine Rx.walk 1 (pc' := 37) (L' := [some (.ref 0), some (.int (iz v)), w2, w3, w4]) (st' := [.int (iz 43), .int (iz r_64)]) (h' := cmH (u1 (u1 (u1 (u1 (u1 z 8 bg) 9 n) 10 a_65) 11 (-1)) 12 dpv) zl (uf (uf f 2 tb) 4 lt) fl 2) rfl ?_
          refine Rx.ne2 rfl rfl ⟨by omega, by omega⟩ ⟨by omega, by omega⟩ (fun b73 => ?_) (fun b73 => ?_)
          · refine Rx.walk 2 (pc' := 46) (L' := [some (.ref 0), some (.int (iz v)), some (.int (iz 0)), w3, w4]) (st' := []) (h' := cmH (u1 (u1 (u1 (u1 (u1 z 8 bg) 9 n) 10 a_65) 11 (-1)) 12 dpv) zl (uf (uf f 2 tb) 4 lt) fl 2) rfl ?_
            have ec : sg n b (sks n b acc.2.1) = r_64 := by rw [← hok2, es3]; exact f67.symm
            have ec0 : r_2 = r_64 := by rw [f5, f67, ← es3, ← es1]
            have ec2 : r_54 = r_64 := by rw [f57, f67, ← es3, ← es2]
            have hlt : a_65 < n := by rcases Int.lt_or_le a_65 n with q | q; exact q; (exfalso; have e9 := f67; rw [sg_ge q] at e9; omega)
            obtain ⟨k1, rfl⟩ : ∃ k1, k = k1 + 1 := ⟨k - 1, by omega⟩
            have hle := sks_le n b a
            have hqo := hA0 (a_65 + 1) (by omega) (by omega)
            have hE2 : Rt = opL n b 43 45 (-1) (-2) (termG n b (atomR n b rr)) k1 (opN acc ((termG n b (atomR n b rr)) (a_65 + 1)) (if sg n b (sks n b acc.2.1) = 43 then (-1) else (-2))) := by rw [hE, opL_n hok1 (by omega), ← hok2, es3]
            refine Rx.walk 4 (pc' := 52) (L' := [some (.ref 0), some (.int (iz v)), some (.int (iz 0)), w3, w4]) (st' := [.int (iz 1), .int (iz a_65), .ref 0]) (h' := cmH (u1 (u1 (u1 (u1 (u1 z 8 bg) 9 n) 10 a_65) 11 (-1)) 12 dpv) zl (uf (uf f 2 tb) 4 lt) fl 2) rfl ?_
            refine Rx.iadd rfl ?_
            refine Rx.walk 2 (pc' := 57) (L' := [some (.ref 0), some (.int (iz v)), some (.int (iz 0)), w3, w4]) (st' := [.ref 0]) (h' := cmH (u1 (u1 (u1 (u1 (u1 z 8 bg) 9 n) 10 (a_65 + 1)) 11 (-1)) 12 dpv) zl (uf (uf f 2 tb) 4 lt) fl 2) rfl ?_
            refine Rx.callx (m' := m_X12_term) (as := [.ref 0]) (rest := []) rfl (hT_ _ (u1 (u1 (u1 (u1 (u1 z 8 bg) 9 n) 10 (a_65 + 1)) 11 (-1)) 12 dpv) zl (uf (uf f 2 tb) 4 lt) fl 2  dpv n (a_65 + 1) bg tb b lt hT hM ⟨by omega, by omega⟩ hL ⟨by omega, by omega⟩) (fun v80 h81 q82 => ?_)
            obtain ⟨r_74, a_75, fa_76, dp_77, rfl, rfl, f78, f79⟩ := q82
            refine Rx.walk 0 (pc' := 60) (L' := [some (.ref 0), some (.int (iz v)), some (.int (iz 0)), w3, w4]) (st' := [.int (iz r_74)]) (h' := cmH (u1 (u1 (u1 (u1 (u1 z 8 bg) 9 n) 10 a_75) 11 fa_76) 12 dp_77) zl (uf (uf f 2 tb) 4 lt) fl 2) rfl ?_
            obtain ⟨hqa, hqf, hqb⟩ := id f79
            have hmb := mul_b hvb hqb
            have htb := tdiv_b (y := r_74) hvb
            refine Rx.i2l rfl ⟨by omega, by omega⟩ ?_
            refine Rx.walk 2 (pc' := 63) (L' := [some (.ref 0), some (.int (iz v)), some (.int (iz 0)), some (.long (jz r_74)), none]) (st' := [.int (iz 0)]) (h' := cmH (u1 (u1 (u1 (u1 (u1 z 8 bg) 9 n) 10 a_75) 11 fa_76) 12 dp_77) zl (uf (uf f 2 tb) 4 lt) fl 2) rfl ?_
            refine Rx.eq1 rfl rfl ⟨by omega, by omega⟩ (fun b83 => ?_) (fun b83 => by omega)
            refine Rx.walk 1 (pc' := 74) (L' := [some (.ref 0), some (.int (iz v)), some (.int (iz 0)), some (.long (jz r_74)), none]) (st' := [.int (iz v)]) (h' := cmH (u1 (u1 (u1 (u1 (u1 z 8 bg) 9 n) 10 a_75) 11 fa_76) 12 dp_77) zl (uf (uf f 2 tb) 4 lt) fl 2) rfl ?_
            refine Rx.i2l rfl ⟨by omega, by omega⟩ ?_
            refine Rx.walk 1 (pc' := 76) (L' := [some (.ref 0), some (.int (iz v)), some (.int (iz 0)), some (.long (jz r_74)), none]) (st' := [.long (jz r_74), .long (jz v)]) (h' := cmH (u1 (u1 (u1 (u1 (u1 z 8 bg) 9 n) 10 a_75) 11 fa_76) 12 dp_77) zl (uf (uf f 2 tb) 4 lt) fl 2) rfl ?_
            refine Rx.lsub rfl ?_
            refine Rx.callx (m' := m_X12_within) (as := [.long (jz (v - r_74))]) (rest := []) rfl (n_within _ (cmH (u1 (u1 (u1 (u1 (u1 z 8 bg) 9 n) 10 a_75) 11 fa_76) 12 dp_77) zl (uf (uf f 2 tb) 4 lt) fl 2)  (v - r_74) ⟨by omega, by omega⟩) (fun v87 h88 q89 => ?_)
            obtain ⟨r_84, rfl, rfl, f85, f86⟩ := q89
            refine Rx.walk 0 (pc' := 80) (L' := [some (.ref 0), some (.int (iz v)), some (.int (iz 0)), some (.long (jz r_74)), none]) (st' := [.int (iz r_84)]) (h' := cmH (u1 (u1 (u1 (u1 (u1 z 8 bg) 9 n) 10 a_75) 11 fa_76) 12 dp_77) zl (uf (uf f 2 tb) 4 lt) fl 2) rfl ?_
            refine Rx.walk 2 (pc' := 5) (L' := [some (.ref 0), some (.int (iz r_84)), some (.int (iz 0)), some (.long (jz r_74)), none]) (st' := []) (h' := cmH (u1 (u1 (u1 (u1 (u1 z 8 bg) 9 n) 10 a_75) 11 fa_76) 12 dp_77) zl (uf (uf f 2 tb) 4 lt) fl 2) rfl ?_
            exact ih r_84 a_75 fa_76 dp_77 (opN acc ((termG n b (atomR n b rr)) (a_65 + 1)) (-2)) k1 (some (.int (iz 0))) (some (.long (jz r_74))) none ⟨by omega, by omega, by omega⟩ hqf f86 (mdR_op (op := -2) hok4 (by have z := f78; rw [hok3] at z; exact z) (fun _ => f85)) (by omega) (by rw [hE2, if_neg (by omega)]) (fun z => by rcases f78 with y | y; (exfalso; unfold opN at z; rw [if_pos y.1] at z; exact absurd (show true = false from z) (by decide)); (have := y.2; have := hqo.1; omega)) (by first | assumption | omega) 
          · refine Rx.walk 3 (pc' := 46) (L' := [some (.ref 0), some (.int (iz v)), some (.int (iz 1)), w3, w4]) (st' := []) (h' := cmH (u1 (u1 (u1 (u1 (u1 z 8 bg) 9 n) 10 a_65) 11 (-1)) 12 dpv) zl (uf (uf f 2 tb) 4 lt) fl 2) rfl ?_
            have ec : sg n b (sks n b acc.2.1) = r_64 := by rw [← hok2, es3]; exact f67.symm
            have ec0 : r_2 = r_64 := by rw [f5, f67, ← es3, ← es1]
            have ec2 : r_54 = r_64 := by rw [f57, f67, ← es3, ← es2]
            have hlt : a_65 < n := by rcases Int.lt_or_le a_65 n with q | q; exact q; (exfalso; have e9 := f67; rw [sg_ge q] at e9; omega)
            obtain ⟨k1, rfl⟩ : ∃ k1, k = k1 + 1 := ⟨k - 1, by omega⟩
            have hle := sks_le n b a
            have hqo := hA0 (a_65 + 1) (by omega) (by omega)
            have hE2 : Rt = opL n b 43 45 (-1) (-2) (termG n b (atomR n b rr)) k1 (opN acc ((termG n b (atomR n b rr)) (a_65 + 1)) (if sg n b (sks n b acc.2.1) = 43 then (-1) else (-2))) := by rw [hE, opL_n hok1 (by omega), ← hok2, es3]
            refine Rx.walk 4 (pc' := 52) (L' := [some (.ref 0), some (.int (iz v)), some (.int (iz 1)), w3, w4]) (st' := [.int (iz 1), .int (iz a_65), .ref 0]) (h' := cmH (u1 (u1 (u1 (u1 (u1 z 8 bg) 9 n) 10 a_65) 11 (-1)) 12 dpv) zl (uf (uf f 2 tb) 4 lt) fl 2) rfl ?_
            refine Rx.iadd rfl ?_
            refine Rx.walk 2 (pc' := 57) (L' := [some (.ref 0), some (.int (iz v)), some (.int (iz 1)), w3, w4]) (st' := [.ref 0]) (h' := cmH (u1 (u1 (u1 (u1 (u1 z 8 bg) 9 n) 10 (a_65 + 1)) 11 (-1)) 12 dpv) zl (uf (uf f 2 tb) 4 lt) fl 2) rfl ?_
            refine Rx.callx (m' := m_X12_term) (as := [.ref 0]) (rest := []) rfl (hT_ _ (u1 (u1 (u1 (u1 (u1 z 8 bg) 9 n) 10 (a_65 + 1)) 11 (-1)) 12 dpv) zl (uf (uf f 2 tb) 4 lt) fl 2  dpv n (a_65 + 1) bg tb b lt hT hM ⟨by omega, by omega⟩ hL ⟨by omega, by omega⟩) (fun v96 h97 q98 => ?_)
            obtain ⟨r_90, a_91, fa_92, dp_93, rfl, rfl, f94, f95⟩ := q98
            refine Rx.walk 0 (pc' := 60) (L' := [some (.ref 0), some (.int (iz v)), some (.int (iz 1)), w3, w4]) (st' := [.int (iz r_90)]) (h' := cmH (u1 (u1 (u1 (u1 (u1 z 8 bg) 9 n) 10 a_91) 11 fa_92) 12 dp_93) zl (uf (uf f 2 tb) 4 lt) fl 2) rfl ?_
            obtain ⟨hqa, hqf, hqb⟩ := id f95
            have hmb := mul_b hvb hqb
            have htb := tdiv_b (y := r_90) hvb
            refine Rx.i2l rfl ⟨by omega, by omega⟩ ?_
            refine Rx.walk 2 (pc' := 63) (L' := [some (.ref 0), some (.int (iz v)), some (.int (iz 1)), some (.long (jz r_90)), none]) (st' := [.int (iz 1)]) (h' := cmH (u1 (u1 (u1 (u1 (u1 z 8 bg) 9 n) 10 a_91) 11 fa_92) 12 dp_93) zl (uf (uf f 2 tb) 4 lt) fl 2) rfl ?_
            refine Rx.eq1 rfl rfl ⟨by omega, by omega⟩ (fun b99 => by omega) (fun b99 => ?_)
            refine Rx.walk 1 (pc' := 67) (L' := [some (.ref 0), some (.int (iz v)), some (.int (iz 1)), some (.long (jz r_90)), none]) (st' := [.int (iz v)]) (h' := cmH (u1 (u1 (u1 (u1 (u1 z 8 bg) 9 n) 10 a_91) 11 fa_92) 12 dp_93) zl (uf (uf f 2 tb) 4 lt) fl 2) rfl ?_
            refine Rx.i2l rfl ⟨by omega, by omega⟩ ?_
            refine Rx.walk 1 (pc' := 69) (L' := [some (.ref 0), some (.int (iz v)), some (.int (iz 1)), some (.long (jz r_90)), none]) (st' := [.long (jz r_90), .long (jz v)]) (h' := cmH (u1 (u1 (u1 (u1 (u1 z 8 bg) 9 n) 10 a_91) 11 fa_92) 12 dp_93) zl (uf (uf f 2 tb) 4 lt) fl 2) rfl ?_
            refine Rx.ladd rfl ?_
            refine Rx.walk 1 (pc' := 77) (L' := [some (.ref 0), some (.int (iz v)), some (.int (iz 1)), some (.long (jz r_90)), none]) (st' := [.long (jz (v + r_90))]) (h' := cmH (u1 (u1 (u1 (u1 (u1 z 8 bg) 9 n) 10 a_91) 11 fa_92) 12 dp_93) zl (uf (uf f 2 tb) 4 lt) fl 2) rfl ?_
            refine Rx.callx (m' := m_X12_within) (as := [.long (jz (v + r_90))]) (rest := []) rfl (n_within _ (cmH (u1 (u1 (u1 (u1 (u1 z 8 bg) 9 n) 10 a_91) 11 fa_92) 12 dp_93) zl (uf (uf f 2 tb) 4 lt) fl 2)  (v + r_90) ⟨by omega, by omega⟩) (fun v103 h104 q105 => ?_)
            obtain ⟨r_100, rfl, rfl, f101, f102⟩ := q105
            refine Rx.walk 0 (pc' := 80) (L' := [some (.ref 0), some (.int (iz v)), some (.int (iz 1)), some (.long (jz r_90)), none]) (st' := [.int (iz r_100)]) (h' := cmH (u1 (u1 (u1 (u1 (u1 z 8 bg) 9 n) 10 a_91) 11 fa_92) 12 dp_93) zl (uf (uf f 2 tb) 4 lt) fl 2) rfl ?_
            refine Rx.walk 2 (pc' := 5) (L' := [some (.ref 0), some (.int (iz r_100)), some (.int (iz 1)), some (.long (jz r_90)), none]) (st' := []) (h' := cmH (u1 (u1 (u1 (u1 (u1 z 8 bg) 9 n) 10 a_91) 11 fa_92) 12 dp_93) zl (uf (uf f 2 tb) 4 lt) fl 2) rfl ?_
            exact ih r_100 a_91 fa_92 dp_93 (opN acc ((termG n b (atomR n b rr)) (a_65 + 1)) (-1)) k1 (some (.int (iz 1))) (some (.long (jz r_90))) none ⟨by omega, by omega, by omega⟩ hqf f102 (mdR_op (op := -1) hok4 (by have z := f94; rw [hok3] at z; exact z) (fun _ => f101)) (by omega) (by rw [hE2, if_pos (by omega)]) (fun z => by rcases f94 with y | y; (exfalso; unfold opN at z; rw [if_pos y.1] at z; exact absurd (show true = false from z) (by decide)); (have := y.2; have := hqo.1; omega)) (by first | assumption | omega) 
set_option maxRecDepth 100000 in
set_option maxHeartbeats 4000000 in
theorem m_rSum2 (d : Nat) (z : Nat → Int) (zl : Nat → Int) (f : Nat → Int → Int) (fl : Nat → Int → Int) (tx : Nat) (D rr : Nat) (hT_ : ∀ (d : Nat) (z : Nat → Int) (zl : Nat → Int) (f : Nat → Int → Int) (fl : Nat → Int → Int) (tx : Nat)  (dp : Int) (n : Int) (a : Int) (bg : Int) (tb : Int → Int) (b : Int → Int) (lt : Int → Int) (hT : tOK n b) (hM : mOK n bg 640 tb b) (ha : 0 ≤ a ∧ a ≤ n) (hL : ∀ k : Int, 0 ≤ k → k < 128 → -1000000 ≤ lt k ∧ lt k ≤ 1000000) (hdp : 0 ≤ dp ∧ dp = 6 - (rr : Int)), Rx (d + (D + 2)) m_X12_term 0 (am_ent [.ref 0] 5) [] (cmH (u1 (u1 (u1 (u1 (u1 z 8 bg) 9 n) 10 a) 11 (-1)) 12 dp) zl (uf (uf f 2 tb) 4 lt) fl 2) (fun rv h => ∃ r : Int, ∃ a' : Int, ∃ fa' : Int, ∃ dp' : Int, rv = some (.int (iz r)) ∧ h = cmH (u1 (u1 (u1 (u1 (u1 z 8 bg) 9 n) 10 a') 11 fa') 12 dp') zl (uf (uf f 2 tb) 4 lt) fl 2 ∧ mdR (termG n b (atomR n b rr) a) (ltL lt) dp r a' fa' dp' ∧ ((a ≤ a' ∧ a' ≤ n) ∧ (fa' = -1 ∨ (0 ≤ fa' ∧ fa' ≤ 160)) ∧ (-1000000 ≤ r ∧ r ≤ 1000000)))) (dp : Int) (n : Int) (a : Int) (bg : Int) (tb : Int → Int) (b : Int → Int) (lt : Int → Int) (hT : tOK n b) (hM : mOK n bg 640 tb b) (ha : 0 ≤ a ∧ a ≤ n) (hL : ∀ k : Int, 0 ≤ k → k < 128 → -1000000 ≤ lt k ∧ lt k ≤ 1000000) (hdp : 0 ≤ dp ∧ dp = 6 - (rr : Int)) : Rx (d + (D + 3)) m_X12_sum 0 (am_ent [.ref 0] 5) [] (cmH (u1 (u1 (u1 (u1 (u1 z 8 bg) 9 n) 10 a) 11 (-1)) 12 dp) zl (uf (uf f 2 tb) 4 lt) fl 2) (fun rv h => ∃ r : Int, ∃ a' : Int, ∃ fa' : Int, ∃ dp' : Int, rv = some (.int (iz r)) ∧ h = cmH (u1 (u1 (u1 (u1 (u1 z 8 bg) 9 n) 10 a') 11 fa') 12 dp') zl (uf (uf f 2 tb) 4 lt) fl 2 ∧ mdR (sumG n b (atomR n b rr) a) (ltL lt) dp r a' fa' dp' ∧ ((a ≤ a' ∧ a' ≤ n) ∧ (fa' = -1 ∨ (0 ≤ fa' ∧ fa' ≤ 160)) ∧ (-1000000 ≤ r ∧ r ≤ 1000000))) := by
  obtain ⟨hT1, hT2, hT3⟩ := id hT
  have hbg := hM.1
  have hbz := hM.2.1
  have hrr : 0 ≤ (rr : Int) := by omega
  refine Rx.walk 0 (pc' := 0) (L' := [some (.ref 0), none, none, none, none]) (st' := []) (h' := cmH (u1 (u1 (u1 (u1 (u1 z 8 bg) 9 n) 10 a) 11 (-1)) 12 dp) zl (uf (uf f 2 tb) 4 lt) fl 2) rfl ?_
  refine Rx.walk 1 (pc' := 1) (L' := [some (.ref 0), none, none, none, none]) (st' := [.ref 0]) (h' := cmH (u1 (u1 (u1 (u1 (u1 z 8 bg) 9 n) 10 a) 11 (-1)) 12 dp) zl (uf (uf f 2 tb) 4 lt) fl 2) rfl ?_
  refine Rx.callx (m' := m_X12_term) (as := [.ref 0]) (rest := []) rfl (hT_ _ (u1 (u1 (u1 (u1 (u1 z 8 bg) 9 n) 10 a) 11 (-1)) 12 dp) zl (uf (uf f 2 tb) 4 lt) fl 2  dp n a bg tb b lt hT hM ha hL hdp) (fun v7 h8 q9 => ?_)
  obtain ⟨r_1, a_2, fa_3, dp_4, rfl, rfl, f5, f6⟩ := q9
  refine Rx.walk 0 (pc' := 4) (L' := [some (.ref 0), none, none, none, none]) (st' := [.int (iz r_1)]) (h' := cmH (u1 (u1 (u1 (u1 (u1 z 8 bg) 9 n) 10 a_2) 11 fa_3) 12 dp_4) zl (uf (uf f 2 tb) 4 lt) fl 2) rfl ?_
  obtain ⟨hqa, hqf, hqb⟩ := id f6
  have hok : rdOK n (termG n b (atomR n b rr)) := opG_ok (o1 := 42) (o2 := 47) (e1 := -3) (e2 := -4) (b := b) (atomR_ok (n := n) (b := b) rr) (by decide) (by decide)
  have hqo := hok a ha.1 ha.2
  refine Rx.walk 1 (pc' := 5) (L' := [some (.ref 0), some (.int (iz r_1)), none, none, none]) (st' := []) (h' := cmH (u1 (u1 (u1 (u1 (u1 z 8 bg) 9 n) 10 a_2) 11 fa_3) 12 dp_4) zl (uf (uf f 2 tb) 4 lt) fl 2) rfl ?_
  refine m_rSum2_l _ (u1 (u1 (u1 (u1 (u1 z 8 bg) 9 n) 10 a_2) 11 fa_3) 12 dp_4) zl (uf (uf f 2 tb) 4 lt) fl 2 D rr hT_ dp n bg tb b lt (sumG n b (atomR n b rr) a) a hT hM hL hdp hok _ ?_ ((n - a_2) + 1 : Int).toNat r_1 a_2 fa_3 dp_4 ((termG n b (atomR n b rr)) a) 161 none none none ⟨by omega, by omega, by omega⟩ hqf hqb f5 (by omega) rfl (fun z => by rcases f5 with y | y; exact absurd (z.symm.trans y.1) (by decide); (have := y.2; have := hqo.1; omega)) (by omega) 
  intro r_10 a_11 fa_12 dp_13 f14 f15
  show (fun (rv : Option Value) (h : AmH) => ∃ r : Int, ∃ a' : Int, ∃ fa' : Int, ∃ dp' : Int, rv = some (.int (iz r)) ∧ h = cmH (u1 (u1 (u1 (u1 (u1 z 8 bg) 9 n) 10 a') 11 fa') 12 dp') zl (uf (uf f 2 tb) 4 lt) fl 2 ∧ mdR (sumG n b (atomR n b rr) a) (ltL lt) dp r a' fa' dp' ∧ ((a ≤ a' ∧ a' ≤ n) ∧ (fa' = -1 ∨ (0 ≤ fa' ∧ fa' ≤ 160)) ∧ (-1000000 ≤ r ∧ r ≤ 1000000))) (some (Value.int (iz r_10))) (cmH (u1 (u1 (u1 (u1 (u1 z 8 bg) 9 n) 10 a_11) 11 fa_12) 12 dp_13) zl (uf (uf f 2 tb) 4 lt) fl 2)
  exact ⟨_, _, _, _, rfl, rfl, f14, f15⟩

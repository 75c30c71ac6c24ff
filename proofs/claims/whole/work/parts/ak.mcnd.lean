/-! rules read by the model: comparisons and units (printed by wip/whole/genmcnd.py) -/
set_option maxRecDepth 100000 in
set_option maxHeartbeats 4000000 in
theorem n_isSign (d : Nat) (h0 : AmH)  (c : Int) (hc : -1 ≤ c ∧ c ≤ 255) : Rx (d) m_X12_isSign 0 (am_ent [.int (iz c)] 1) [] (h0) (fun rv h => ∃ r : Int, rv = some (.int (iz r)) ∧ h0 = h ∧ ((r = 1 ∧ (c = 61 ∨ c = 60 ∨ c = 62)) ∨ (r = 0 ∧ c ≠ 61 ∧ c ≠ 60 ∧ c ≠ 62))) := by
  refine Rx.walk 0 (pc' := 0) (L' := [some (.int (iz c))]) (st' := []) (h' := h0) rfl ?_
  refine Rx.walk 2 (pc' := 3) (L' := [some (.int (iz c))]) (st' := [.int (iz 61), .int (iz c)]) (h' := h0) rfl ?_
  refine Rx.eq2 rfl rfl ⟨by omega, by omega⟩ ⟨by omega, by omega⟩ (fun b1 => ?_) (fun b1 => ?_)
  · refine Rx.walk 2 (pc' := 23) (L' := [some (.int (iz c))]) (st' := [.int (iz 1)]) (h' := h0) rfl ?_
    refine Rx.ret rfl ?_
    exact ⟨_, rfl, rfl, (by omega)⟩
  · refine Rx.walk 2 (pc' := 9) (L' := [some (.int (iz c))]) (st' := [.int (iz 60), .int (iz c)]) (h' := h0) rfl ?_
    refine Rx.eq2 rfl rfl ⟨by omega, by omega⟩ ⟨by omega, by omega⟩ (fun b2 => ?_) (fun b2 => ?_)
    · refine Rx.walk 2 (pc' := 23) (L' := [some (.int (iz c))]) (st' := [.int (iz 1)]) (h' := h0) rfl ?_
      refine Rx.ret rfl ?_
      exact ⟨_, rfl, rfl, (by omega)⟩
    · refine Rx.walk 2 (pc' := 15) (L' := [some (.int (iz c))]) (st' := [.int (iz 62), .int (iz c)]) (h' := h0) rfl ?_
      refine Rx.ne2 rfl rfl ⟨by omega, by omega⟩ ⟨by omega, by omega⟩ (fun b3 => ?_) (fun b3 => ?_)
      · refine Rx.walk 1 (pc' := 23) (L' := [some (.int (iz c))]) (st' := [.int (iz 0)]) (h' := h0) rfl ?_
        refine Rx.ret rfl ?_
        exact ⟨_, rfl, rfl, (by omega)⟩
      · refine Rx.walk 2 (pc' := 23) (L' := [some (.int (iz c))]) (st' := [.int (iz 1)]) (h' := h0) rfl ?_
        refine Rx.ret rfl ?_
        exact ⟨_, rfl, rfl, (by omega)⟩
set_option maxRecDepth 100000 in
set_option maxHeartbeats 4000000 in
theorem m_cmp1_b (d : Nat) (z : Nat → Int) (zl : Nat → Int) (f : Nat → Int → Int) (fl : Nat → Int → Int) (tx : Nat) (D rr : Nat) (hS : ∀ (d : Nat) (z : Nat → Int) (zl : Nat → Int) (f : Nat → Int → Int) (fl : Nat → Int → Int) (tx : Nat)  (dp : Int) (n : Int) (a : Int) (bg : Int) (tb : Int → Int) (b : Int → Int) (lt : Int → Int) (hT : tOK n b) (hM : mOK n bg 160 tb b) (ha : 0 ≤ a ∧ a ≤ n) (hL : ∀ k : Int, 0 ≤ k → k < 128 → -1000000 ≤ lt k ∧ lt k ≤ 1000000) (hdp : 0 ≤ dp ∧ dp = 6 - (rr : Int)), Rx (d + (D + 2)) m_X12_sum 0 (am_ent [.ref 0] 5) [] (cmH (u1 (u1 (u1 (u1 (u1 z 8 bg) 9 n) 10 a) 11 (-1)) 12 dp) zl (uf (uf f 1 tb) 4 lt) fl 1) (fun rv h => ∃ r : Int, ∃ a' : Int, ∃ fa' : Int, ∃ dp' : Int, rv = some (.int (iz r)) ∧ h = cmH (u1 (u1 (u1 (u1 (u1 z 8 bg) 9 n) 10 a') 11 fa') 12 dp') zl (uf (uf f 1 tb) 4 lt) fl 1 ∧ mdR (sumR n b rr a) (ltL lt) dp r a' fa' dp' ∧ ((a ≤ a' ∧ a' ≤ n) ∧ (fa' = -1 ∨ (0 ≤ fa' ∧ fa' ≤ 160)) ∧ (-1000000 ≤ r ∧ r ≤ 1000000)))) (bgn : Int) (v2 : Int) (v : Int) (fa : Int) (dpv : Int) (dp : Int) (n : Int) (a : Int) (bg : Int) (tb : Int → Int) (b : Int → Int) (lt : Int → Int) (qq : RsT) (a0 : Int) (w4 : Option Value) (w5 : Option Value) (hT : tOK n b) (hM : mOK n bg 160 tb b) (hL : ∀ k : Int, 0 ≤ k → k < 128 → -1000000 ≤ lt k ∧ lt k ≤ 1000000) (hdp : 0 ≤ dp ∧ dp = 6 - (rr : Int)) (ha : 0 ≤ a ∧ a ≤ n ∧ a0 ≤ a) (hfa : fa = -1 ∨ (0 ≤ fa ∧ fa ≤ 160)) (hvb : -1000000 ≤ v ∧ v ≤ 1000000) (hR : mdR qq (ltL lt) dp v a fa dpv) (hfp : qq.1 = false → fa ≠ -1) (P : Option Value → AmH → Prop) (hx0 : ∀ (r : Int) (a' : Int) (fa' : Int) (dp' : Int), (mdR (cmpG n b (sumR n b rr) qq) (ltL lt) dp r a' fa' dp') → ((a0 ≤ a' ∧ a' ≤ n) ∧ (fa' = -1 ∨ (0 ≤ fa' ∧ fa' ≤ 160)) ∧ (r = 0 ∨ r = 1)) → P (some (.int (iz r))) (cmH (u1 (u1 (u1 (u1 (u1 z 8 bg) 9 n) 10 a') 11 fa') 12 dp') zl (uf (uf f 1 tb) 4 lt) fl 1)) : ∀ (kF : Nat), 0 < (kF : Int) → Rx (d + (D + 3)) m_X12_compares 13 [some (.ref 0), some (.int (iz bgn)), some (.int (iz v2)), some (.int (iz v)), w4, w5] [] (cmH (u1 (u1 (u1 (u1 (u1 z 8 bg) 9 n) 10 a) 11 fa) 12 dpv) zl (uf (uf f 1 tb) 4 lt) fl 1) P := by
  obtain ⟨hT1, hT2, hT3⟩ := id hT
  have hbg := hM.1
  have hbz := hM.2.1
  have hrr : 0 ≤ (rr : Int) := by omega
  intro kF
  induction kF with
  | zero =>
    intro   hk
    exfalso; omega
  | succ kF ih =>
    intro   hk
    refine Rx.walk 3 (pc' := 18) (L' := [some (.ref 0), some (.int (iz bgn)), some (.int (iz v2)), some (.int (iz v)), w4, w5]) (st' := [.int (iz (-1)), .int (iz fa)]) (h' := cmH (u1 (u1 (u1 (u1 (u1 z 8 bg) 9 n) 10 a) 11 fa) 12 dpv) zl (uf (uf f 1 tb) 4 lt) fl 1) rfl ?_
    refine Rx.eq2 rfl rfl ⟨by omega, by omega⟩ ⟨by omega, by omega⟩ (fun b1 => ?_) (fun b1 => ?_)
    · obtain rfl : fa = -1 := by omega
      obtain ⟨hok1, hok2, hok3, hok4⟩ : qq.1 = true ∧ a = qq.2.1 ∧ dpv = dp ∧ v = qq.2.2.2 (ltL lt) := by rcases hR with z | z; (exact ⟨z.1, z.2.2.1, z.2.2.2.1, z.2.2.2.2⟩); (exact absurd rfl (hfp z.1))
      refine Rx.walk 1 (pc' := 24) (L' := [some (.ref 0), some (.int (iz bgn)), some (.int (iz v2)), some (.int (iz v)), w4, w5]) (st' := [.ref 0]) (h' := cmH (u1 (u1 (u1 (u1 (u1 z 8 bg) 9 n) 10 a) 11 (-1)) 12 dpv) zl (uf (uf f 1 tb) 4 lt) fl 1) rfl ?_
      refine Rx.callx (m' := m_X12_look) (as := [.ref 0]) (rest := []) rfl (m_look1 _ (u1 (u1 (u1 (u1 (u1 z 8 bg) 9 n) 10 a) 11 (-1)) 12 dpv) zl (uf (uf f 1 tb) 4 lt) fl 1  n a bg (-1) tb b hT hM ⟨by omega, by omega⟩) (fun v8 h9 q10 => ?_)
      obtain ⟨r_2, a_3, rfl, rfl, f4, f5, f6, f7⟩ := q10
      refine Rx.walk 0 (pc' := 27) (L' := [some (.ref 0), some (.int (iz bgn)), some (.int (iz v2)), some (.int (iz v)), w4, w5]) (st' := [.int (iz r_2)]) (h' := cmH (u1 (u1 (u1 (u1 (u1 z 8 bg) 9 n) 10 a_3) 11 (-1)) 12 dpv) zl (uf (uf f 1 tb) 4 lt) fl 1) rfl ?_
      refine Rx.walk 2 (pc' := 31) (L' := [some (.ref 0), some (.int (iz bgn)), some (.int (iz v2)), some (.int (iz v)), some (.int (iz r_2)), w5]) (st' := [.int (iz r_2)]) (h' := cmH (u1 (u1 (u1 (u1 (u1 z 8 bg) 9 n) 10 a_3) 11 (-1)) 12 dpv) zl (uf (uf f 1 tb) 4 lt) fl 1) rfl ?_
      refine Rx.callx (m' := m_X12_isSign) (as := [.int (iz r_2)]) (rest := []) rfl (n_isSign _ (cmH (u1 (u1 (u1 (u1 (u1 z 8 bg) 9 n) 10 a_3) 11 (-1)) 12 dpv) zl (uf (uf f 1 tb) 4 lt) fl 1)  r_2 (by first | assumption | omega)) (fun v13 h14 q15 => ?_)
      obtain ⟨r_11, rfl, rfl, f12⟩ := q15
      refine Rx.walk 0 (pc' := 34) (L' := [some (.ref 0), some (.int (iz bgn)), some (.int (iz v2)), some (.int (iz v)), some (.int (iz r_2)), w5]) (st' := [.int (iz r_11)]) (h' := cmH (u1 (u1 (u1 (u1 (u1 z 8 bg) 9 n) 10 a_3) 11 (-1)) 12 dpv) zl (uf (uf f 1 tb) 4 lt) fl 1) rfl ?_
      refine Rx.ne1 rfl rfl ⟨by omega, by omega⟩ (fun b16 => ?_) (fun b16 => ?_)
      · have hcs : r_2 = 61 ∨ r_2 = 60 ∨ r_2 = 62 := by rcases f12 with z | z; exact z.2; (exfalso; omega)
        have hlt : a_3 < n := by rcases Int.lt_or_le a_3 n with q | q; exact q; (exfalso; have e9 := f5; rw [sg_ge q] at e9; omega)
        have hqo := sumR_ok (n := n) (b := b) rr (a_3 + 1) (by omega) (by omega)
        have ec : sg n b (sks n b qq.2.1) = r_2 := by rw [← hok2, ← f4]; exact f5.symm
        have hE2 : cmpG n b (sumR n b rr) qq = opN qq (sumR n b rr (a_3 + 1)) (cmpS r_2) := by unfold cmpG; rw [if_pos hok1, ec, if_neg (show ¬ cmpS r_2 = 0 by rcases hcs with z | z | z <;> rw [z] <;> decide), ← hok2, ← f4]
        refine Rx.walk 4 (pc' := 48) (L' := [some (.ref 0), some (.int (iz bgn)), some (.int (iz v2)), some (.int (iz v)), some (.int (iz r_2)), w5]) (st' := [.int (iz 1), .int (iz a_3), .ref 0]) (h' := cmH (u1 (u1 (u1 (u1 (u1 z 8 bg) 9 n) 10 a_3) 11 (-1)) 12 dpv) zl (uf (uf f 1 tb) 4 lt) fl 1) rfl ?_
        refine Rx.iadd rfl ?_
        refine Rx.walk 2 (pc' := 53) (L' := [some (.ref 0), some (.int (iz bgn)), some (.int (iz v2)), some (.int (iz v)), some (.int (iz r_2)), w5]) (st' := [.ref 0]) (h' := cmH (u1 (u1 (u1 (u1 (u1 z 8 bg) 9 n) 10 (a_3 + 1)) 11 (-1)) 12 dpv) zl (uf (uf f 1 tb) 4 lt) fl 1) rfl ?_
        refine Rx.callx (m' := m_X12_sum) (as := [.ref 0]) (rest := []) rfl (hS _ (u1 (u1 (u1 (u1 (u1 z 8 bg) 9 n) 10 (a_3 + 1)) 11 (-1)) 12 dpv) zl (uf (uf f 1 tb) 4 lt) fl 1  dpv n (a_3 + 1) bg tb b lt hT hM ⟨by omega, by omega⟩ hL ⟨by omega, by omega⟩) (fun v23 h24 q25 => ?_)
        obtain ⟨r_17, a_18, fa_19, dp_20, rfl, rfl, f21, f22⟩ := q25
        refine Rx.walk 0 (pc' := 56) (L' := [some (.ref 0), some (.int (iz bgn)), some (.int (iz v2)), some (.int (iz v)), some (.int (iz r_2)), w5]) (st' := [.int (iz r_17)]) (h' := cmH (u1 (u1 (u1 (u1 (u1 z 8 bg) 9 n) 10 a_18) 11 fa_19) 12 dp_20) zl (uf (uf f 1 tb) 4 lt) fl 1) rfl ?_
        obtain ⟨hqa, hqf, hqb⟩ := id f22
        refine Rx.walk 3 (pc' := 62) (L' := [some (.ref 0), some (.int (iz bgn)), some (.int (iz v2)), some (.int (iz v)), some (.int (iz r_2)), some (.int (iz r_17))]) (st' := [.int (iz 61), .int (iz r_2)]) (h' := cmH (u1 (u1 (u1 (u1 (u1 z 8 bg) 9 n) 10 a_18) 11 fa_19) 12 dp_20) zl (uf (uf f 1 tb) 4 lt) fl 1) rfl ?_
        refine Rx.ne2 rfl rfl ⟨by omega, by omega⟩ ⟨by omega, by omega⟩ (fun b26 => ?_) (fun b26 => ?_)
        · refine Rx.walk 2 (pc' := 83) (L' := [some (.ref 0), some (.int (iz bgn)), some (.int (iz v2)), some (.int (iz v)), some (.int (iz r_2)), some (.int (iz r_17))]) (st' := [.int (iz 60), .int (iz r_2)]) (h' := cmH (u1 (u1 (u1 (u1 (u1 z 8 bg) 9 n) 10 a_18) 11 fa_19) 12 dp_20) zl (uf (uf f 1 tb) 4 lt) fl 1) rfl ?_
          refine Rx.ne2 rfl rfl ⟨by omega, by omega⟩ ⟨by omega, by omega⟩ (fun b27 => ?_) (fun b27 => ?_)
          · refine Rx.walk 2 (pc' := 103) (L' := [some (.ref 0), some (.int (iz bgn)), some (.int (iz v2)), some (.int (iz v)), some (.int (iz r_2)), some (.int (iz r_17))]) (st' := [.int (iz r_17), .int (iz v)]) (h' := cmH (u1 (u1 (u1 (u1 (u1 z 8 bg) 9 n) 10 a_18) 11 fa_19) 12 dp_20) zl (uf (uf f 1 tb) 4 lt) fl 1) rfl ?_
            refine Rx.le2 rfl rfl ⟨by omega, by omega⟩ ⟨by omega, by omega⟩ (fun b28 => ?_) (fun b28 => ?_)
            · refine Rx.walk 1 (pc' := 111) (L' := [some (.ref 0), some (.int (iz bgn)), some (.int (iz v2)), some (.int (iz v)), some (.int (iz r_2)), some (.int (iz r_17))]) (st' := [.int (iz 0)]) (h' := cmH (u1 (u1 (u1 (u1 (u1 z 8 bg) 9 n) 10 a_18) 11 fa_19) 12 dp_20) zl (uf (uf f 1 tb) 4 lt) fl 1) rfl ?_
              refine Rx.ret rfl ?_
              exact hx0 _ _ _ _ (by rw [hE2]; exact mdR_op hok4 (by have z := f21; rw [hok3] at z; exact z) (fun _ => by rw [show cmpS r_2 = -7 from (by rw [show r_2 = 62 by omega]; rfl)]; show (0 : Int) = (if r_17 < v then 1 else 0); rw [if_neg (by omega)])) ⟨⟨by omega, by omega⟩, hqf, Or.inl rfl⟩
            · refine Rx.walk 2 (pc' := 111) (L' := [some (.ref 0), some (.int (iz bgn)), some (.int (iz v2)), some (.int (iz v)), some (.int (iz r_2)), some (.int (iz r_17))]) (st' := [.int (iz 1)]) (h' := cmH (u1 (u1 (u1 (u1 (u1 z 8 bg) 9 n) 10 a_18) 11 fa_19) 12 dp_20) zl (uf (uf f 1 tb) 4 lt) fl 1) rfl ?_
              refine Rx.ret rfl ?_
              exact hx0 _ _ _ _ (by rw [hE2]; exact mdR_op hok4 (by have z := f21; rw [hok3] at z; exact z) (fun _ => by rw [show cmpS r_2 = -7 from (by rw [show r_2 = 62 by omega]; rfl)]; show (1 : Int) = (if r_17 < v then 1 else 0); rw [if_pos (by omega)])) ⟨⟨by omega, by omega⟩, hqf, Or.inr rfl⟩
          · refine Rx.walk 2 (pc' := 89) (L' := [some (.ref 0), some (.int (iz bgn)), some (.int (iz v2)), some (.int (iz v)), some (.int (iz r_2)), some (.int (iz r_17))]) (st' := [.int (iz r_17), .int (iz v)]) (h' := cmH (u1 (u1 (u1 (u1 (u1 z 8 bg) 9 n) 10 a_18) 11 fa_19) 12 dp_20) zl (uf (uf f 1 tb) 4 lt) fl 1) rfl ?_
            refine Rx.ge2 rfl rfl ⟨by omega, by omega⟩ ⟨by omega, by omega⟩ (fun b29 => ?_) (fun b29 => ?_)
            · refine Rx.walk 2 (pc' := 111) (L' := [some (.ref 0), some (.int (iz bgn)), some (.int (iz v2)), some (.int (iz v)), some (.int (iz r_2)), some (.int (iz r_17))]) (st' := [.int (iz 0)]) (h' := cmH (u1 (u1 (u1 (u1 (u1 z 8 bg) 9 n) 10 a_18) 11 fa_19) 12 dp_20) zl (uf (uf f 1 tb) 4 lt) fl 1) rfl ?_
              refine Rx.ret rfl ?_
              exact hx0 _ _ _ _ (by rw [hE2]; exact mdR_op hok4 (by have z := f21; rw [hok3] at z; exact z) (fun _ => by rw [show cmpS r_2 = -6 from (by rw [show r_2 = 60 by omega]; rfl)]; show (0 : Int) = (if v < r_17 then 1 else 0); rw [if_neg (by omega)])) ⟨⟨by omega, by omega⟩, hqf, Or.inl rfl⟩
            · refine Rx.walk 2 (pc' := 111) (L' := [some (.ref 0), some (.int (iz bgn)), some (.int (iz v2)), some (.int (iz v)), some (.int (iz r_2)), some (.int (iz r_17))]) (st' := [.int (iz 1)]) (h' := cmH (u1 (u1 (u1 (u1 (u1 z 8 bg) 9 n) 10 a_18) 11 fa_19) 12 dp_20) zl (uf (uf f 1 tb) 4 lt) fl 1) rfl ?_
              refine Rx.ret rfl ?_
              exact hx0 _ _ _ _ (by rw [hE2]; exact mdR_op hok4 (by have z := f21; rw [hok3] at z; exact z) (fun _ => by rw [show cmpS r_2 = -6 from (by rw [show r_2 = 60 by omega]; rfl)]; show (1 : Int) = (if v < r_17 then 1 else 0); rw [if_pos (by omega)])) ⟨⟨by omega, by omega⟩, hqf, Or.inr rfl⟩
        · refine Rx.walk 2 (pc' := 68) (L' := [some (.ref 0), some (.int (iz bgn)), some (.int (iz v2)), some (.int (iz v)), some (.int (iz r_2)), some (.int (iz r_17))]) (st' := [.int (iz r_17), .int (iz v)]) (h' := cmH (u1 (u1 (u1 (u1 (u1 z 8 bg) 9 n) 10 a_18) 11 fa_19) 12 dp_20) zl (uf (uf f 1 tb) 4 lt) fl 1) rfl ?_
          refine Rx.ne2 rfl rfl ⟨by omega, by omega⟩ ⟨by omega, by omega⟩ (fun b30 => ?_) (fun b30 => ?_)
          · refine Rx.walk 2 (pc' := 111) (L' := [some (.ref 0), some (.int (iz bgn)), some (.int (iz v2)), some (.int (iz v)), some (.int (iz r_2)), some (.int (iz r_17))]) (st' := [.int (iz 0)]) (h' := cmH (u1 (u1 (u1 (u1 (u1 z 8 bg) 9 n) 10 a_18) 11 fa_19) 12 dp_20) zl (uf (uf f 1 tb) 4 lt) fl 1) rfl ?_
            refine Rx.ret rfl ?_
            exact hx0 _ _ _ _ (by rw [hE2]; exact mdR_op hok4 (by have z := f21; rw [hok3] at z; exact z) (fun _ => by rw [show cmpS r_2 = -5 from (by rw [show r_2 = 61 by omega]; rfl)]; show (0 : Int) = (if v = r_17 then 1 else 0); rw [if_neg (by omega)])) ⟨⟨by omega, by omega⟩, hqf, Or.inl rfl⟩
          · refine Rx.walk 2 (pc' := 111) (L' := [some (.ref 0), some (.int (iz bgn)), some (.int (iz v2)), some (.int (iz v)), some (.int (iz r_2)), some (.int (iz r_17))]) (st' := [.int (iz 1)]) (h' := cmH (u1 (u1 (u1 (u1 (u1 z 8 bg) 9 n) 10 a_18) 11 fa_19) 12 dp_20) zl (uf (uf f 1 tb) 4 lt) fl 1) rfl ?_
            refine Rx.ret rfl ?_
            exact hx0 _ _ _ _ (by rw [hE2]; exact mdR_op hok4 (by have z := f21; rw [hok3] at z; exact z) (fun _ => by rw [show cmpS r_2 = -5 from (by rw [show r_2 = 61 by omega]; rfl)]; show (1 : Int) = (if v = r_17 then 1 else 0); rw [if_pos (by omega)])) ⟨⟨by omega, by omega⟩, hqf, Or.inr rfl⟩
      · refine Rx.walk 1 (pc' := 38) (L' := [some (.ref 0), some (.int (iz bgn)), some (.int (iz v2)), some (.int (iz v)), some (.int (iz r_2)), w5]) (st' := [.ref 0]) (h' := cmH (u1 (u1 (u1 (u1 (u1 z 8 bg) 9 n) 10 a_3) 11 (-1)) 12 dpv) zl (uf (uf f 1 tb) 4 lt) fl 1) rfl ?_
        refine Rx.callx (m' := m_X12_fails) (as := [.ref 0]) (rest := []) rfl (m_fails _ (u1 (u1 (u1 (u1 (u1 z 8 bg) 9 n) 10 a_3) 11 (-1)) 12 dpv) zl (uf (uf f 1 tb) 4 lt) fl 1  a_3 (-1) (Or.inl rfl)) (fun v33 h34 q35 => ?_)
        obtain ⟨fa_31, rfl, rfl, f32⟩ := q35
        refine Rx.walk 0 (pc' := 41) (L' := [some (.ref 0), some (.int (iz bgn)), some (.int (iz v2)), some (.int (iz v)), some (.int (iz r_2)), w5]) (st' := [.int (iz 0)]) (h' := cmH (u1 (u1 (u1 (u1 (u1 z 8 bg) 9 n) 10 a_3) 11 fa_31) 12 dpv) zl (uf (uf f 1 tb) 4 lt) fl 1) rfl ?_
        refine Rx.ret rfl ?_
        exact hx0 _ _ _ _ (by have ec : sg n b (sks n b qq.2.1) = r_2 := (by rw [← hok2, ← f4]; exact f5.symm); have hc0 : cmpS r_2 = 0 := (by rcases f12 with z | z; (exfalso; omega); (unfold cmpS; rw [if_neg z.2.1, if_neg z.2.2.1, if_neg z.2.2.2])); have e : cmpG n b (sumR n b rr) qq = rsF (sks n b qq.2.1) := (by unfold cmpG; rw [if_pos hok1, ec, if_pos hc0]); rw [e]; exact Or.inr ⟨rfl, by rcases f32 with z | z; (exact z.2.trans (f4.trans (congrArg (sks n b) hok2))); exact absurd rfl z.1⟩) ⟨⟨by omega, by omega⟩, (by rcases f32 with z | z <;> omega), Or.inl rfl⟩
    · refine Rx.walk 1 (pc' := 22) (L' := [some (.ref 0), some (.int (iz bgn)), some (.int (iz v2)), some (.int (iz v)), w4, w5]) (st' := [.int (iz 0)]) (h' := cmH (u1 (u1 (u1 (u1 (u1 z 8 bg) 9 n) 10 a) 11 fa) 12 dpv) zl (uf (uf f 1 tb) 4 lt) fl 1) rfl ?_
      refine Rx.ret rfl ?_
      exact hx0 _ _ _ _ (by rcases hR with z | z; (exact absurd z.2.1 (by omega)); (have e : cmpG n b (sumR n b rr) qq = rsF qq.2.1 := (by unfold cmpG; rw [if_neg (by rw [z.1]; decide)]); rw [e]; exact Or.inr ⟨rfl, z.2⟩)) ⟨⟨by omega, by omega⟩, hfa, Or.inl rfl⟩
set_option maxRecDepth 100000 in
set_option maxHeartbeats 4000000 in
theorem m_cmps0_1 (d : Nat) (z : Nat → Int) (zl : Nat → Int) (f : Nat → Int → Int) (fl : Nat → Int → Int) (tx : Nat) (D rr : Nat) (hS : ∀ (d : Nat) (z : Nat → Int) (zl : Nat → Int) (f : Nat → Int → Int) (fl : Nat → Int → Int) (tx : Nat)  (dp : Int) (n : Int) (a : Int) (bg : Int) (tb : Int → Int) (b : Int → Int) (lt : Int → Int) (hT : tOK n b) (hM : mOK n bg 160 tb b) (ha : 0 ≤ a ∧ a ≤ n) (hL : ∀ k : Int, 0 ≤ k → k < 128 → -1000000 ≤ lt k ∧ lt k ≤ 1000000) (hdp : 0 ≤ dp ∧ dp = 6 - (rr : Int)), Rx (d + (D + 2)) m_X12_sum 0 (am_ent [.ref 0] 5) [] (cmH (u1 (u1 (u1 (u1 (u1 z 8 bg) 9 n) 10 a) 11 (-1)) 12 dp) zl (uf (uf f 1 tb) 4 lt) fl 1) (fun rv h => ∃ r : Int, ∃ a' : Int, ∃ fa' : Int, ∃ dp' : Int, rv = some (.int (iz r)) ∧ h = cmH (u1 (u1 (u1 (u1 (u1 z 8 bg) 9 n) 10 a') 11 fa') 12 dp') zl (uf (uf f 1 tb) 4 lt) fl 1 ∧ mdR (sumR n b rr a) (ltL lt) dp r a' fa' dp' ∧ ((a ≤ a' ∧ a' ≤ n) ∧ (fa' = -1 ∨ (0 ≤ fa' ∧ fa' ≤ 160)) ∧ (-1000000 ≤ r ∧ r ≤ 1000000)))) (dp : Int) (n : Int) (a : Int) (bg : Int) (tb : Int → Int) (b : Int → Int) (lt : Int → Int) (hT : tOK n b) (hM : mOK n bg 160 tb b) (ha : 0 ≤ a ∧ a ≤ n) (hL : ∀ k : Int, 0 ≤ k → k < 128 → -1000000 ≤ lt k ∧ lt k ≤ 1000000) (hdp : 0 ≤ dp ∧ dp = 6 - (rr : Int)) : Rx (d + (D + 3)) m_X12_compares 0 (am_ent [.ref 0, .int (iz 0), .int (iz 0)] 6) [] (cmH (u1 (u1 (u1 (u1 (u1 z 8 bg) 9 n) 10 a) 11 (-1)) 12 dp) zl (uf (uf f 1 tb) 4 lt) fl 1) (fun rv h => ∃ r : Int, ∃ a' : Int, ∃ fa' : Int, ∃ dp' : Int, rv = some (.int (iz r)) ∧ h = cmH (u1 (u1 (u1 (u1 (u1 z 8 bg) 9 n) 10 a') 11 fa') 12 dp') zl (uf (uf f 1 tb) 4 lt) fl 1 ∧ mdR (cmpG n b (sumR n b rr) (sumR n b rr a)) (ltL lt) dp r a' fa' dp' ∧ ((a ≤ a' ∧ a' ≤ n) ∧ (fa' = -1 ∨ (0 ≤ fa' ∧ fa' ≤ 160)) ∧ (r = 0 ∨ r = 1))) := by
  obtain ⟨hT1, hT2, hT3⟩ := id hT
  have hbg := hM.1
  have hbz := hM.2.1
  have hrr : 0 ≤ (rr : Int) := by omega
  refine Rx.walk 0 (pc' := 0) (L' := [some (.ref 0), some (.int (iz 0)), some (.int (iz 0)), none, none, none]) (st' := []) (h' := cmH (u1 (u1 (u1 (u1 (u1 z 8 bg) 9 n) 10 a) 11 (-1)) 12 dp) zl (uf (uf f 1 tb) 4 lt) fl 1) rfl ?_
  refine Rx.walk 1 (pc' := 1) (L' := [some (.ref 0), some (.int (iz 0)), some (.int (iz 0)), none, none, none]) (st' := [.int (iz 0)]) (h' := cmH (u1 (u1 (u1 (u1 (u1 z 8 bg) 9 n) 10 a) 11 (-1)) 12 dp) zl (uf (uf f 1 tb) 4 lt) fl 1) rfl ?_
  refine Rx.eq1 rfl rfl ⟨by omega, by omega⟩ (fun b1 => ?_) (fun b1 => by omega)
  refine Rx.walk 1 (pc' := 9) (L' := [some (.ref 0), some (.int (iz 0)), some (.int (iz 0)), none, none, none]) (st' := [.ref 0]) (h' := cmH (u1 (u1 (u1 (u1 (u1 z 8 bg) 9 n) 10 a) 11 (-1)) 12 dp) zl (uf (uf f 1 tb) 4 lt) fl 1) rfl ?_
  refine Rx.callx (m' := m_X12_sum) (as := [.ref 0]) (rest := []) rfl (hS _ (u1 (u1 (u1 (u1 (u1 z 8 bg) 9 n) 10 a) 11 (-1)) 12 dp) zl (uf (uf f 1 tb) 4 lt) fl 1  dp n a bg tb b lt hT hM ha hL hdp) (fun v8 h9 q10 => ?_)
  obtain ⟨r_2, a_3, fa_4, dp_5, rfl, rfl, f6, f7⟩ := q10
  refine Rx.walk 0 (pc' := 12) (L' := [some (.ref 0), some (.int (iz 0)), some (.int (iz 0)), none, none, none]) (st' := [.int (iz r_2)]) (h' := cmH (u1 (u1 (u1 (u1 (u1 z 8 bg) 9 n) 10 a_3) 11 fa_4) 12 dp_5) zl (uf (uf f 1 tb) 4 lt) fl 1) rfl ?_
  obtain ⟨hqa, hqf, hqb⟩ := id f7
  have hqo := sumR_ok (n := n) (b := b) rr a ha.1 ha.2
  refine Rx.walk 1 (pc' := 13) (L' := [some (.ref 0), some (.int (iz 0)), some (.int (iz 0)), some (.int (iz r_2)), none, none]) (st' := []) (h' := cmH (u1 (u1 (u1 (u1 (u1 z 8 bg) 9 n) 10 a_3) 11 fa_4) 12 dp_5) zl (uf (uf f 1 tb) 4 lt) fl 1) rfl ?_
  refine m_cmp1_b _ (u1 (u1 (u1 (u1 (u1 z 8 bg) 9 n) 10 a_3) 11 fa_4) 12 dp_5) zl (uf (uf f 1 tb) 4 lt) fl 1 D rr hS 0 0 r_2 fa_4 dp_5 dp n a_3 bg tb b lt (sumR n b rr a) a none none hT hM hL hdp ⟨by omega, by omega, by omega⟩ hqf hqb f6 (fun z => by rcases f6 with y | y; exact absurd (z.symm.trans y.1) (by decide); (have := y.2; have := hqo.1; omega)) _ ?_ (0 + 1 : Int).toNat   (by omega) 
  intro r_11 a_12 fa_13 dp_14 f15 f16
  show (fun (rv : Option Value) (h : AmH) => ∃ r : Int, ∃ a' : Int, ∃ fa' : Int, ∃ dp' : Int, rv = some (.int (iz r)) ∧ h = cmH (u1 (u1 (u1 (u1 (u1 z 8 bg) 9 n) 10 a') 11 fa') 12 dp') zl (uf (uf f 1 tb) 4 lt) fl 1 ∧ mdR (cmpG n b (sumR n b rr) (sumR n b rr a)) (ltL lt) dp r a' fa' dp' ∧ ((a ≤ a' ∧ a' ≤ n) ∧ (fa' = -1 ∨ (0 ≤ fa' ∧ fa' ≤ 160)) ∧ (r = 0 ∨ r = 1))) (some (Value.int (iz r_11))) (cmH (u1 (u1 (u1 (u1 (u1 z 8 bg) 9 n) 10 a_12) 11 fa_13) 12 dp_14) zl (uf (uf f 1 tb) 4 lt) fl 1)
  exact ⟨_, _, _, _, rfl, rfl, f15, f16⟩
set_option maxRecDepth 100000 in
set_option maxHeartbeats 4000000 in
theorem m_cmps1_1 (d : Nat) (z : Nat → Int) (zl : Nat → Int) (f : Nat → Int → Int) (fl : Nat → Int → Int) (tx : Nat) (D rr : Nat) (hS : ∀ (d : Nat) (z : Nat → Int) (zl : Nat → Int) (f : Nat → Int → Int) (fl : Nat → Int → Int) (tx : Nat)  (dp : Int) (n : Int) (a : Int) (bg : Int) (tb : Int → Int) (b : Int → Int) (lt : Int → Int) (hT : tOK n b) (hM : mOK n bg 160 tb b) (ha : 0 ≤ a ∧ a ≤ n) (hL : ∀ k : Int, 0 ≤ k → k < 128 → -1000000 ≤ lt k ∧ lt k ≤ 1000000) (hdp : 0 ≤ dp ∧ dp = 6 - (rr : Int)), Rx (d + (D + 2)) m_X12_sum 0 (am_ent [.ref 0] 5) [] (cmH (u1 (u1 (u1 (u1 (u1 z 8 bg) 9 n) 10 a) 11 (-1)) 12 dp) zl (uf (uf f 1 tb) 4 lt) fl 1) (fun rv h => ∃ r : Int, ∃ a' : Int, ∃ fa' : Int, ∃ dp' : Int, rv = some (.int (iz r)) ∧ h = cmH (u1 (u1 (u1 (u1 (u1 z 8 bg) 9 n) 10 a') 11 fa') 12 dp') zl (uf (uf f 1 tb) 4 lt) fl 1 ∧ mdR (sumR n b rr a) (ltL lt) dp r a' fa' dp' ∧ ((a ≤ a' ∧ a' ≤ n) ∧ (fa' = -1 ∨ (0 ≤ fa' ∧ fa' ≤ 160)) ∧ (-1000000 ≤ r ∧ r ≤ 1000000)))) (dp : Int) (n : Int) (a : Int) (bg : Int) (tb : Int → Int) (b : Int → Int) (lt : Int → Int) (v : Int) (qq : RsT) (hT : tOK n b) (hM : mOK n bg 160 tb b) (ha : 0 ≤ a ∧ a ≤ n) (hL : ∀ k : Int, 0 ≤ k → k < 128 → -1000000 ≤ lt k ∧ lt k ≤ 1000000) (hdp : 0 ≤ dp ∧ dp = 6 - (rr : Int)) (hv : -1000000 ≤ v ∧ v ≤ 1000000) (hQ : qq.1 = true ∧ a = qq.2.1 ∧ v = qq.2.2.2 (ltL lt)) : Rx (d + (D + 3)) m_X12_compares 0 (am_ent [.ref 0, .int (iz 1), .int (iz v)] 6) [] (cmH (u1 (u1 (u1 (u1 (u1 z 8 bg) 9 n) 10 a) 11 (-1)) 12 dp) zl (uf (uf f 1 tb) 4 lt) fl 1) (fun rv h => ∃ r : Int, ∃ a' : Int, ∃ fa' : Int, ∃ dp' : Int, rv = some (.int (iz r)) ∧ h = cmH (u1 (u1 (u1 (u1 (u1 z 8 bg) 9 n) 10 a') 11 fa') 12 dp') zl (uf (uf f 1 tb) 4 lt) fl 1 ∧ mdR (cmpG n b (sumR n b rr) qq) (ltL lt) dp r a' fa' dp' ∧ ((a ≤ a' ∧ a' ≤ n) ∧ (fa' = -1 ∨ (0 ≤ fa' ∧ fa' ≤ 160)) ∧ (r = 0 ∨ r = 1))) := by
  obtain ⟨hT1, hT2, hT3⟩ := id hT
  have hbg := hM.1
  have hbz := hM.2.1
  have hrr : 0 ≤ (rr : Int) := by omega
  refine Rx.walk 0 (pc' := 0) (L' := [some (.ref 0), some (.int (iz 1)), some (.int (iz v)), none, none, none]) (st' := []) (h' := cmH (u1 (u1 (u1 (u1 (u1 z 8 bg) 9 n) 10 a) 11 (-1)) 12 dp) zl (uf (uf f 1 tb) 4 lt) fl 1) rfl ?_
  refine Rx.walk 1 (pc' := 1) (L' := [some (.ref 0), some (.int (iz 1)), some (.int (iz v)), none, none, none]) (st' := [.int (iz 1)]) (h' := cmH (u1 (u1 (u1 (u1 (u1 z 8 bg) 9 n) 10 a) 11 (-1)) 12 dp) zl (uf (uf f 1 tb) 4 lt) fl 1) rfl ?_
  refine Rx.eq1 rfl rfl ⟨by omega, by omega⟩ (fun b1 => by omega) (fun b1 => ?_)
  refine Rx.walk 3 (pc' := 13) (L' := [some (.ref 0), some (.int (iz 1)), some (.int (iz v)), some (.int (iz v)), none, none]) (st' := []) (h' := cmH (u1 (u1 (u1 (u1 (u1 z 8 bg) 9 n) 10 a) 11 (-1)) 12 dp) zl (uf (uf f 1 tb) 4 lt) fl 1) rfl ?_
  refine m_cmp1_b _ (u1 (u1 (u1 (u1 (u1 z 8 bg) 9 n) 10 a) 11 (-1)) 12 dp) zl (uf (uf f 1 tb) 4 lt) fl 1 D rr hS 1 v v (-1) dp dp n a bg tb b lt qq a none none hT hM hL hdp ⟨by omega, by omega, by omega⟩ (Or.inl rfl) hv (Or.inl ⟨hQ.1, rfl, hQ.2.1, rfl, hQ.2.2⟩) (fun z => absurd (z.symm.trans hQ.1) (by decide)) _ ?_ (0 + 1 : Int).toNat   (by omega) 
  intro r_2 a_3 fa_4 dp_5 f6 f7
  show (fun (rv : Option Value) (h : AmH) => ∃ r : Int, ∃ a' : Int, ∃ fa' : Int, ∃ dp' : Int, rv = some (.int (iz r)) ∧ h = cmH (u1 (u1 (u1 (u1 (u1 z 8 bg) 9 n) 10 a') 11 fa') 12 dp') zl (uf (uf f 1 tb) 4 lt) fl 1 ∧ mdR (cmpG n b (sumR n b rr) qq) (ltL lt) dp r a' fa' dp' ∧ ((a ≤ a' ∧ a' ≤ n) ∧ (fa' = -1 ∨ (0 ≤ fa' ∧ fa' ≤ 160)) ∧ (r = 0 ∨ r = 1))) (some (Value.int (iz r_2))) (cmH (u1 (u1 (u1 (u1 (u1 z 8 bg) 9 n) 10 a_3) 11 fa_4) 12 dp_5) zl (uf (uf f 1 tb) 4 lt) fl 1)
  exact ⟨_, _, _, _, rfl, rfl, f6, f7⟩
set_option maxRecDepth 100000 in
set_option maxHeartbeats 4000000 in
theorem m_cmp2_b (d : Nat) (z : Nat → Int) (zl : Nat → Int) (f : Nat → Int → Int) (fl : Nat → Int → Int) (tx : Nat) (D rr : Nat) (hS : ∀ (d : Nat) (z : Nat → Int) (zl : Nat → Int) (f : Nat → Int → Int) (fl : Nat → Int → Int) (tx : Nat)  (dp : Int) (n : Int) (a : Int) (bg : Int) (tb : Int → Int) (b : Int → Int) (lt : Int → Int) (hT : tOK n b) (hM : mOK n bg 640 tb b) (ha : 0 ≤ a ∧ a ≤ n) (hL : ∀ k : Int, 0 ≤ k → k < 128 → -1000000 ≤ lt k ∧ lt k ≤ 1000000) (hdp : 0 ≤ dp ∧ dp = 6 - (rr : Int)), Rx (d + (D + 2)) m_X12_sum 0 (am_ent [.ref 0] 5) [] (cmH (u1 (u1 (u1 (u1 (u1 z 8 bg) 9 n) 10 a) 11 (-1)) 12 dp) zl (uf (uf f 2 tb) 4 lt) fl 2) (fun rv h => ∃ r : Int, ∃ a' : Int, ∃ fa' : Int, ∃ dp' : Int, rv = some (.int (iz r)) ∧ h = cmH (u1 (u1 (u1 (u1 (u1 z 8 bg) 9 n) 10 a') 11 fa') 12 dp') zl (uf (uf f 2 tb) 4 lt) fl 2 ∧ mdR (sumR n b rr a) (ltL lt) dp r a' fa' dp' ∧ ((a ≤ a' ∧ a' ≤ n) ∧ (fa' = -1 ∨ (0 ≤ fa' ∧ fa' ≤ 160)) ∧ (-1000000 ≤ r ∧ r ≤ 1000000)))) (bgn : Int) (v2 : Int) (v : Int) (fa : Int) (dpv : Int) (dp : Int) (n : Int) (a : Int) (bg : Int) (tb : Int → Int) (b : Int → Int) (lt : Int → Int) (qq : RsT) (a0 : Int) (w4 : Option Value) (w5 : Option Value) (hT : tOK n b) (hM : mOK n bg 640 tb b) (hL : ∀ k : Int, 0 ≤ k → k < 128 → -1000000 ≤ lt k ∧ lt k ≤ 1000000) (hdp : 0 ≤ dp ∧ dp = 6 - (rr : Int)) (ha : 0 ≤ a ∧ a ≤ n ∧ a0 ≤ a) (hfa : fa = -1 ∨ (0 ≤ fa ∧ fa ≤ 160)) (hvb : -1000000 ≤ v ∧ v ≤ 1000000) (hR : mdR qq (ltL lt) dp v a fa dpv) (hfp : qq.1 = false → fa ≠ -1) (P : Option Value → AmH → Prop) (hx0 : ∀ (r : Int) (a' : Int) (fa' : Int) (dp' : Int), (mdR (cmpG n b (sumR n b rr) qq) (ltL lt) dp r a' fa' dp') → ((a0 ≤ a' ∧ a' ≤ n) ∧ (fa' = -1 ∨ (0 ≤ fa' ∧ fa' ≤ 160)) ∧ (r = 0 ∨ r = 1)) → P (some (.int (iz r))) (cmH (u1 (u1 (u1 (u1 (u1 z 8 bg) 9 n) 10 a') 11 fa') 12 dp') zl (uf (uf f 2 tb) 4 lt) fl 2)) : ∀ (kF : Nat), 0 < (kF : Int) → Rx (d + (D + 3)) m_X12_compares 13 [some (.ref 0), some (.int (iz bgn)), some (.int (iz v2)), some (.int (iz v)), w4, w5] [] (cmH (u1 (u1 (u1 (u1 (u1 z 8 bg) 9 n) 10 a) 11 fa) 12 dpv) zl (uf (uf f 2 tb) 4 lt) fl 2) P := by
  obtain ⟨hT1, hT2, hT3⟩ := id hT
  have hbg := hM.1
  have hbz := hM.2.1
  have hrr : 0 ≤ (rr : Int) := by omega
  intro kF
  induction kF with
  | zero =>
    intro   hk
    exfalso; omega
  | succ kF ih =>
    intro   hk
    refine Rx.walk 3 (pc' := 18) (L' := [some (.ref 0), some (.int (iz bgn)), some (.int (iz v2)), some (.int (iz v)), w4, w5]) (st' := [.int (iz (-1)), .int (iz fa)]) (h' := cmH (u1 (u1 (u1 (u1 (u1 z 8 bg) 9 n) 10 a) 11 fa) 12 dpv) zl (uf (uf f 2 tb) 4 lt) fl 2) rfl ?_
    refine Rx.eq2 rfl rfl ⟨by omega, by omega⟩ ⟨by omega, by omega⟩ (fun b1 => ?_) (fun b1 => ?_)
    · obtain rfl : fa = -1 := by omega
      obtain ⟨hok1, hok2, hok3, hok4⟩ : qq.1 = true ∧ a = qq.2.1 ∧ dpv = dp ∧ v = qq.2.2.2 (ltL lt) := by rcases hR with z | z; (exact ⟨z.1, z.2.2.1, z.2.2.2.1, z.2.2.2.2⟩); (exact absurd rfl (hfp z.1))
      refine Rx.walk 1 (pc' := 24) (L' := [some (.ref 0), some (.int (iz bgn)), some (.int (iz v2)), some (.int (iz v)), w4, w5]) (st' := [.ref 0]) (h' := cmH (u1 (u1 (u1 (u1 (u1 z 8 bg) 9 n) 10 a) 11 (-1)) 12 dpv) zl (uf (uf f 2 tb) 4 lt) fl 2) rfl ?_
      refine Rx.callx (m' := m_X12_look) (as := [.ref 0]) (rest := []) rfl (m_look2 _ (u1 (u1 (u1 (u1 (u1 z 8 bg) 9 n) 10 a) 11 (-1)) 12 dpv) zl (uf (uf f 2 tb) 4 lt) fl 2  n a bg (-1) tb b hT hM ⟨by omega, by omega⟩) (fun v8 h9 q10 => ?_)
      obtain ⟨r_2, a_3, rfl, rfl, f4, f5, f6, f7⟩ := q10
      refine Rx.walk 0 (pc' := 27) (L' := [some (.ref 0), some (.int (iz bgn)), some (.int (iz v2)), some (.int (iz v)), w4, w5]) (st' := [.int (iz r_2)]) (h' := cmH (u1 (u1 (u1 (u1 (u1 z 8 bg) 9 n) 10 a_3) 11 (-1)) 12 dpv) zl (uf (uf f 2 tb) 4 lt) fl 2) rfl ?_
      refine Rx.walk 2 (pc' := 31) (L' := [some (.ref 0), some (.int (iz bgn)), some (.int (iz v2)), some (.int (iz v)), some (.int (iz r_2)), w5]) (st' := [.int (iz r_2)]) (h' := cmH (u1 (u1 (u1 (u1 (u1 z 8 bg) 9 n) 10 a_3) 11 (-1)) 12 dpv) zl (uf (uf f 2 tb) 4 lt) fl 2) rfl ?_
      refine Rx.callx (m' := m_X12_isSign) (as := [.int (iz r_2)]) (rest := []) rfl (n_isSign _ (cmH (u1 (u1 (u1 (u1 (u1 z 8 bg) 9 n) 10 a_3) 11 (-1)) 12 dpv) zl (uf (uf f 2 tb) 4 lt) fl 2)  r_2 (by first | assumption | omega)) (fun v13 h14 q15 => ?_)
      obtain ⟨r_11, rfl, rfl, f12⟩ := q15
      refine Rx.walk 0 (pc' := 34) (L' := [some (.ref 0), some (.int (iz bgn)), some (.int (iz v2)), some (.int (iz v)), some (.int (iz r_2)), w5]) (st' := [.int (iz r_11)]) (h' := cmH (u1 (u1 (u1 (u1 (u1 z 8 bg) 9 n) 10 a_3) 11 (-1)) 12 dpv) zl (uf (uf f 2 tb) 4 lt) fl 2) rfl ?_
      refine Rx.ne1 rfl rfl ⟨by omega, by omega⟩ (fun b16 => ?_) (fun b16 => ?_)
      · have hcs : r_2 = 61 ∨ r_2 = 60 ∨ r_2 = 62 := by rcases f12 with z | z; exact z.2; (exfalso; omega)
        have hlt : a_3 < n := by rcases Int.lt_or_le a_3 n with q | q; exact q; (exfalso; have e9 := f5; rw [sg_ge q] at e9; omega)
        have hqo := sumR_ok (n := n) (b := b) rr (a_3 + 1) (by omega) (by omega)
        have ec : sg n b (sks n b qq.2.1) = r_2 := by rw [← hok2, ← f4]; exact f5.symm
        have hE2 : cmpG n b (sumR n b rr) qq = opN qq (sumR n b rr (a_3 + 1)) (cmpS r_2) := by unfold cmpG; rw [if_pos hok1, ec, if_neg (show ¬ cmpS r_2 = 0 by rcases hcs with z | z | z <;> rw [z] <;> decide), ← hok2, ← f4]
        refine Rx.walk 4 (pc' := 48) (L' := [some (.ref 0), some (.int (iz bgn)), some (.int (iz v2)), some (.int (iz v)), some (.int (iz r_2)), w5]) (st' := [.int (iz 1), .int (iz a_3), .ref 0]) (h' := cmH (u1 (u1 (u1 (u1 (u1 z 8 bg) 9 n) 10 a_3) 11 (-1)) 12 dpv) zl (uf (uf f 2 tb) 4 lt) fl 2) rfl ?_
        refine Rx.iadd rfl ?_
        refine Rx.walk 2 (pc' := 53) (L' := [some (.ref 0), some (.int (iz bgn)), some (.int (iz v2)), some (.int (iz v)), some (.int (iz r_2)), w5]) (st' := [.ref 0]) (h' := cmH (u1 (u1 (u1 (u1 (u1 z 8 bg) 9 n) 10 (a_3 + 1)) 11 (-1)) 12 dpv) zl (uf (uf f 2 tb) 4 lt) fl 2) rfl ?_
        refine Rx.callx (m' := m_X12_sum) (as := [.ref 0]) (rest := []) rfl (hS _ (u1 (u1 (u1 (u1 (u1 z 8 bg) 9 n) 10 (a_3 + 1)) 11 (-1)) 12 dpv) zl (uf (uf f 2 tb) 4 lt) fl 2  dpv n (a_3 + 1) bg tb b lt hT hM ⟨by omega, by omega⟩ hL ⟨by omega, by omega⟩) (fun v23 h24 q25 => ?_)
        obtain ⟨r_17, a_18, fa_19, dp_20, rfl, rfl, f21, f22⟩ := q25
        refine Rx.walk 0 (pc' := 56) (L' := [some (.ref 0), some (.int (iz bgn)), some (.int (iz v2)), some (.int (iz v)), some (.int (iz r_2)), w5]) (st' := [.int (iz r_17)]) (h' := cmH (u1 (u1 (u1 (u1 (u1 z 8 bg) 9 n) 10 a_18) 11 fa_19) 12 dp_20) zl (uf (uf f 2 tb) 4 lt) fl 2) rfl ?_
        obtain ⟨hqa, hqf, hqb⟩ := id f22
        refine Rx.walk 3 (pc' := 62) (L' := [some (.ref 0), some (.int (iz bgn)), some (.int (iz v2)), some (.int (iz v)), some (.int (iz r_2)), some (.int (iz r_17))]) (st' := [.int (iz 61), .int (iz r_2)]) (h' := cmH (u1 (u1 (u1 (u1 (u1 z 8 bg) 9 n) 10 a_18) 11 fa_19) 12 dp_20) zl (uf (uf f 2 tb) 4 lt) fl 2) rfl ?_
        refine Rx.ne2 rfl rfl ⟨by omega, by omega⟩ ⟨by omega, by omega⟩ (fun b26 => ?_) (fun b26 => ?_)
        · refine Rx.walk 2 (pc' := 83) (L' := [some (.ref 0), some (.int (iz bgn)), some (.int (iz v2)), some (.int (iz v)), some (.int (iz r_2)), some (.int (iz r_17))]) (st' := [.int (iz 60), .int (iz r_2)]) (h' := cmH (u1 (u1 (u1 (u1 (u1 z 8 bg) 9 n) 10 a_18) 11 fa_19) 12 dp_20) zl (uf (uf f 2 tb) 4 lt) fl 2) rfl ?_
          refine Rx.ne2 rfl rfl ⟨by omega, by omega⟩ ⟨by omega, by omega⟩ (fun b27 => ?_) (fun b27 => ?_)
          · refine Rx.walk 2 (pc' := 103) (L' := [some (.ref 0), some (.int (iz bgn)), some (.int (iz v2)), some (.int (iz v)), some (.int (iz r_2)), some (.int (iz r_17))]) (st' := [.int (iz r_17), .int (iz v)]) (h' := cmH (u1 (u1 (u1 (u1 (u1 z 8 bg) 9 n) 10 a_18) 11 fa_19) 12 dp_20) zl (uf (uf f 2 tb) 4 lt) fl 2) rfl ?_
            refine Rx.le2 rfl rfl ⟨by omega, by omega⟩ ⟨by omega, by omega⟩ (fun b28 => ?_) (fun b28 => ?_)
            · refine Rx.walk 1 (pc' := 111) (L' := [some (.ref 0), some (.int (iz bgn)), some (.int (iz v2)), some (.int (iz v)), some (.int (iz r_2)), some (.int (iz r_17))]) (st' := [.int (iz 0)]) (h' := cmH (u1 (u1 (u1 (u1 (u1 z 8 bg) 9 n) 10 a_18) 11 fa_19) 12 dp_20) zl (uf (uf f 2 tb) 4 lt) fl 2) rfl ?_
              refine Rx.ret rfl ?_
              exact hx0 _ _ _ _ (by rw [hE2]; exact mdR_op hok4 (by have z := f21; rw [hok3] at z; exact z) (fun _ => by rw [show cmpS r_2 = -7 from (by rw [show r_2 = 62 by omega]; rfl)]; show (0 : Int) = (if r_17 < v then 1 else 0); rw [if_neg (by omega)])) ⟨⟨by omega, by omega⟩, hqf, Or.inl rfl⟩
            · refine Rx.walk 2 (pc' := 111) (L' := [some (.ref 0), some (.int (iz bgn)), some (.int (iz v2)), some (.int (iz v)), some (.int (iz r_2)), some (.int (iz r_17))]) (st' := [.int (iz 1)]) (h' := cmH (u1 (u1 (u1 (u1 (u1 z 8 bg) 9 n) 10 a_18) 11 fa_19) 12 dp_20) zl (uf (uf f 2 tb) 4 lt) fl 2) rfl ?_
              refine Rx.ret rfl ?_
              exact hx0 _ _ _ _ (by rw [hE2]; exact mdR_op hok4 (by have z := f21; rw [hok3] at z; exact z) (fun _ => by rw [show cmpS r_2 = -7 from (by rw [show r_2 = 62 by omega]; rfl)]; show (1 : Int) = (if r_17 < v then 1 else 0); rw [if_pos (by omega)])) ⟨⟨by omega, by omega⟩, hqf, Or.inr rfl⟩
          · refine Rx.walk 2 (pc' := 89) (L' := [some (.ref 0), some (.int (iz bgn)), some (.int (iz v2)), some (.int (iz v)), some (.int (iz r_2)), some (.int (iz r_17))]) (st' := [.int (iz r_17), .int (iz v)]) (h' := cmH (u1 (u1 (u1 (u1 (u1 z 8 bg) 9 n) 10 a_18) 11 fa_19) 12 dp_20) zl (uf (uf f 2 tb) 4 lt) fl 2) rfl ?_
            refine Rx.ge2 rfl rfl ⟨by omega, by omega⟩ ⟨by omega, by omega⟩ (fun b29 => ?_) (fun b29 => ?_)
            · refine Rx.walk 2 (pc' := 111) (L' := [some (.ref 0), some (.int (iz bgn)), some (.int (iz v2)), some (.int (iz v)), some (.int (iz r_2)), some (.int (iz r_17))]) (st' := [.int (iz 0)]) (h' := cmH (u1 (u1 (u1 (u1 (u1 z 8 bg) 9 n) 10 a_18) 11 fa_19) 12 dp_20) zl (uf (uf f 2 tb) 4 lt) fl 2) rfl ?_
              refine Rx.ret rfl ?_
              exact hx0 _ _ _ _ (by rw [hE2]; exact mdR_op hok4 (by have z := f21; rw [hok3] at z; exact z) (fun _ => by rw [show cmpS r_2 = -6 from (by rw [show r_2 = 60 by omega]; rfl)]; show (0 : Int) = (if v < r_17 then 1 else 0); rw [if_neg (by omega)])) ⟨⟨by omega, by omega⟩, hqf, Or.inl rfl⟩
            · refine Rx.walk 2 (pc' := 111) (L' := [some (.ref 0), some (.int (iz bgn)), some (.int (iz v2)), some (.int (iz v)), some (.int (iz r_2)), some (.int (iz r_17))]) (st' := [.int (iz 1)]) (h' := cmH (u1 (u1 (u1 (u1 (u1 z 8 bg) 9 n) 10 a_18) 11 fa_19) 12 dp_20) zl (uf (uf f 2 tb) 4 lt) fl 2) rfl ?_
              refine Rx.ret rfl ?_
              exact hx0 _ _ _ _ (by rw [hE2]; exact mdR_op hok4 (by have z := f21; rw [hok3] at z; exact z) (fun _ => by rw [show cmpS r_2 = -6 from (by rw [show r_2 = 60 by omega]; rfl)]; show (1 : Int) = (if v < r_17 then 1 else 0); rw [if_pos (by omega)])) ⟨⟨by omega, by omega⟩, hqf, Or.inr rfl⟩
        · refine Rx.walk 2 (pc' := 68) (L' := [some (.ref 0), some (.int (iz bgn)), some (.int (iz v2)), some (.int (iz v)), some (.int (iz r_2)), some (.int (iz r_17))]) (st' := [.int (iz r_17), .int (iz v)]) (h' := cmH (u1 (u1 (u1 (u1 (u1 z 8 bg) 9 n) 10 a_18) 11 fa_19) 12 dp_20) zl (uf (uf f 2 tb) 4 lt) fl 2) rfl ?_
          refine Rx.ne2 rfl rfl ⟨by omega, by omega⟩ ⟨by omega, by omega⟩ (fun b30 => ?_) (fun b30 => ?_)
          · refine Rx.walk 2 (pc' := 111) (L' := [some (.ref 0), some (.int (iz bgn)), some (.int (iz v2)), some (.int (iz v)), some (.int (iz r_2)), some (.int (iz r_17))]) (st' := [.int (iz 0)]) (h' := cmH (u1 (u1 (u1 (u1 (u1 z 8 bg) 9 n) 10 a_18) 11 fa_19) 12 dp_20) zl (uf (uf f 2 tb) 4 lt) fl 2) rfl ?_
            refine Rx.ret rfl ?_
            exact hx0 _ _ _ _ (by rw [hE2]; exact mdR_op hok4 (by have z := f21; rw [hok3] at z; exact z) (fun _ => by rw [show cmpS r_2 = -5 from (by rw [show r_2 = 61 by omega]; rfl)]; show (0 : Int) = (if v = r_17 then 1 else 0); rw [if_neg (by omega)])) ⟨⟨by omega, by omega⟩, hqf, Or.inl rfl⟩
          · refine Rx.walk 2 (pc' := 111) (L' := [some (.ref 0), some (.int (iz bgn)), some (.int (iz v2)), some (.int (iz v)), some (.int (iz r_2)), some (.int (iz r_17))]) (st' := [.int (iz 1)]) (h' := cmH (u1 (u1 (u1 (u1 (u1 z 8 bg) 9 n) 10 a_18) 11 fa_19) 12 dp_20) zl (uf (uf f 2 tb) 4 lt) fl 2) rfl ?_
            refine Rx.ret rfl ?_
            exact hx0 _ _ _ _ (by rw [hE2]; exact mdR_op hok4 (by have z := f21; rw [hok3] at z; exact z) (fun _ => by rw [show cmpS r_2 = -5 from (by rw [show r_2 = 61 by omega]; rfl)]; show (1 : Int) = (if v = r_17 then 1 else 0); rw [if_pos (by omega)])) ⟨⟨by omega, by omega⟩, hqf, Or.inr rfl⟩
      · refine Rx.walk 1 (pc' := 38) (L' := [some (.ref 0), some (.int (iz bgn)), some (.int (iz v2)), some (.int (iz v)), some (.int (iz r_2)), w5]) (st' := [.ref 0]) (h' := cmH (u1 (u1 (u1 (u1 (u1 z 8 bg) 9 n) 10 a_3) 11 (-1)) 12 dpv) zl (uf (uf f 2 tb) 4 lt) fl 2) rfl ?_
        refine Rx.callx (m' := m_X12_fails) (as := [.ref 0]) (rest := []) rfl (m_fails _ (u1 (u1 (u1 (u1 (u1 z 8 bg) 9 n) 10 a_3) 11 (-1)) 12 dpv) zl (uf (uf f 2 tb) 4 lt) fl 2  a_3 (-1) (Or.inl rfl)) (fun v33 h34 q35 => ?_)
        obtain ⟨fa_31, rfl, rfl, f32⟩ := q35
        refine Rx.walk 0 (pc' := 41) (L' := [some (.ref 0), some (.int (iz bgn)), some (.int (iz v2)), some (.int (iz v)), some (.int (iz r_2)), w5]) (st' := [.int (iz 0)]) (h' := cmH (u1 (u1 (u1 (u1 (u1 z 8 bg) 9 n) 10 a_3) 11 fa_31) 12 dpv) zl (uf (uf f 2 tb) 4 lt) fl 2) rfl ?_
        refine Rx.ret rfl ?_
        exact hx0 _ _ _ _ (by have ec : sg n b (sks n b qq.2.1) = r_2 := (by rw [← hok2, ← f4]; exact f5.symm); have hc0 : cmpS r_2 = 0 := (by rcases f12 with z | z; (exfalso; omega); (unfold cmpS; rw [if_neg z.2.1, if_neg z.2.2.1, if_neg z.2.2.2])); have e : cmpG n b (sumR n b rr) qq = rsF (sks n b qq.2.1) := (by unfold cmpG; rw [if_pos hok1, ec, if_pos hc0]); rw [e]; exact Or.inr ⟨rfl, by rcases f32 with z | z; (exact z.2.trans (f4.trans (congrArg (sks n b) hok2))); exact absurd rfl z.1⟩) ⟨⟨by omega, by omega⟩, (by rcases f32 with z | z <;> omega), Or.inl rfl⟩
    · refine Rx.walk 1 (pc' := 22) (L' := [some (.ref 0), some (.int (iz bgn)), some (.int (iz v2)), some (.int (iz v)), w4, w5]) (st' := [.int (iz 0)]) (h' := cmH (u1 (u1 (u1 (u1 (u1 z 8 bg) 9 n) 10 a) 11 fa) 12 dpv) zl (uf (uf f 2 tb) 4 lt) fl 2) rfl ?_
      refine Rx.ret rfl ?_
      exact hx0 _ _ _ _ (by rcases hR with z | z; (exact absurd z.2.1 (by omega)); (have e : cmpG n b (sumR n b rr) qq = rsF qq.2.1 := (by unfold cmpG; rw [if_neg (by rw [z.1]; decide)]); rw [e]; exact Or.inr ⟨rfl, z.2⟩)) ⟨⟨by omega, by omega⟩, hfa, Or.inl rfl⟩
set_option maxRecDepth 100000 in
set_option maxHeartbeats 4000000 in
theorem m_cmps0_2 (d : Nat) (z : Nat → Int) (zl : Nat → Int) (f : Nat → Int → Int) (fl : Nat → Int → Int) (tx : Nat) (D rr : Nat) (hS : ∀ (d : Nat) (z : Nat → Int) (zl : Nat → Int) (f : Nat → Int → Int) (fl : Nat → Int → Int) (tx : Nat)  (dp : Int) (n : Int) (a : Int) (bg : Int) (tb : Int → Int) (b : Int → Int) (lt : Int → Int) (hT : tOK n b) (hM : mOK n bg 640 tb b) (ha : 0 ≤ a ∧ a ≤ n) (hL : ∀ k : Int, 0 ≤ k → k < 128 → -1000000 ≤ lt k ∧ lt k ≤ 1000000) (hdp : 0 ≤ dp ∧ dp = 6 - (rr : Int)), Rx (d + (D + 2)) m_X12_sum 0 (am_ent [.ref 0] 5) [] (cmH (u1 (u1 (u1 (u1 (u1 z 8 bg) 9 n) 10 a) 11 (-1)) 12 dp) zl (uf (uf f 2 tb) 4 lt) fl 2) (fun rv h => ∃ r : Int, ∃ a' : Int, ∃ fa' : Int, ∃ dp' : Int, rv = some (.int (iz r)) ∧ h = cmH (u1 (u1 (u1 (u1 (u1 z 8 bg) 9 n) 10 a') 11 fa') 12 dp') zl (uf (uf f 2 tb) 4 lt) fl 2 ∧ mdR (sumR n b rr a) (ltL lt) dp r a' fa' dp' ∧ ((a ≤ a' ∧ a' ≤ n) ∧ (fa' = -1 ∨ (0 ≤ fa' ∧ fa' ≤ 160)) ∧ (-1000000 ≤ r ∧ r ≤ 1000000)))) (dp : Int) (n : Int) (a : Int) (bg : Int) (tb : Int → Int) (b : Int → Int) (lt : Int → Int) (hT : tOK n b) (hM : mOK n bg 640 tb b) (ha : 0 ≤ a ∧ a ≤ n) (hL : ∀ k : Int, 0 ≤ k → k < 128 → -1000000 ≤ lt k ∧ lt k ≤ 1000000) (hdp : 0 ≤ dp ∧ dp = 6 - (rr : Int)) : Rx (d + (D + 3)) m_X12_compares 0 (am_ent [.ref 0, .int (iz 0), .int (iz 0)] 6) [] (cmH (u1 (u1 (u1 (u1 (u1 z 8 bg) 9 n) 10 a) 11 (-1)) 12 dp) zl (uf (uf f 2 tb) 4 lt) fl 2) (fun rv h => ∃ r : Int, ∃ a' : Int, ∃ fa' : Int, ∃ dp' : Int, rv = some (.int (iz r)) ∧ h = cmH (u1 (u1 (u1 (u1 (u1 z 8 bg) 9 n) 10 a') 11 fa') 12 dp') zl (uf (uf f 2 tb) 4 lt) fl 2 ∧ mdR (cmpG n b (sumR n b rr) (sumR n b rr a)) (ltL lt) dp r a' fa' dp' ∧ ((a ≤ a' ∧ a' ≤ n) ∧ (fa' = -1 ∨ (0 ≤ fa' ∧ fa' ≤ 160)) ∧ (r = 0 ∨ r = 1))) := by
  obtain ⟨hT1, hT2, hT3⟩ := id hT
  have hbg := hM.1
  have hbz := hM.2.1
  have hrr : 0 ≤ (rr : Int) := by omega
  refine Rx.walk 0 (pc' := 0) (L' := [some (.ref 0), some (.int (iz 0)), some (.int (iz 0)), none, none, none]) (st' := []) (h' := cmH (u1 (u1 (u1 (u1 (u1 z 8 bg) 9 n) 10 a) 11 (-1)) 12 dp) zl (uf (uf f 2 tb) 4 lt) fl 2) rfl ?_
  refine Rx.walk 1 (pc' := 1) (L' := [some (.ref 0), some (.int (iz 0)), some (.int (iz 0)), none, none, none]) (st' := [.int (iz 0)]) (h' := cmH (u1 (u1 (u1 (u1 (u1 z 8 bg) 9 n) 10 a) 11 (-1)) 12 dp) zl (uf (uf f 2 tb) 4 lt) fl 2) rfl ?_
  refine Rx.eq1 rfl rfl ⟨by omega, by omega⟩ (fun b1 => ?_) (fun b1 => by omega)
  refine Rx.walk 1 (pc' := 9) (L' := [some (.ref 0), some (.int (iz 0)), some (.int (iz 0)), none, none, none]) (st' := [.ref 0]) (h' := cmH (u1 (u1 (u1 (u1 (u1 z 8 bg) 9 n) 10 a) 11 (-1)) 12 dp) zl (uf (uf f 2 tb) 4 lt) fl 2) rfl ?_
  refine Rx.callx (m' := m_X12_sum) (as := [.ref 0]) (rest := []) rfl (hS _ (u1 (u1 (u1 (u1 (u1 z 8 bg) 9 n) 10 a) 11 (-1)) 12 dp) zl (uf (uf f 2 tb) 4 lt) fl 2  dp n a bg tb b lt hT hM ha hL hdp) (fun v8 h9 q10 => ?_)
  obtain ⟨r_2, a_3, fa_4, dp_5, rfl, rfl, f6, f7⟩ := q10
  refine Rx.walk 0 (pc' := 12) (L' := [some (.ref 0), some (.int (iz 0)), some (.int (iz 0)), none, none, none]) (st' := [.int (iz r_2)]) (h' := cmH (u1 (u1 (u1 (u1 (u1 z 8 bg) 9 n) 10 a_3) 11 fa_4) 12 dp_5) zl (uf (uf f 2 tb) 4 lt) fl 2) rfl ?_
  obtain ⟨hqa, hqf, hqb⟩ := id f7
  have hqo := sumR_ok (n := n) (b := b) rr a ha.1 ha.2
  refine Rx.walk 1 (pc' := 13) (L' := [some (.ref 0), some (.int (iz 0)), some (.int (iz 0)), some (.int (iz r_2)), none, none]) (st' := []) (h' := cmH (u1 (u1 (u1 (u1 (u1 z 8 bg) 9 n) 10 a_3) 11 fa_4) 12 dp_5) zl (uf (uf f 2 tb) 4 lt) fl 2) rfl ?_
  refine m_cmp2_b _ (u1 (u1 (u1 (u1 (u1 z 8 bg) 9 n) 10 a_3) 11 fa_4) 12 dp_5) zl (uf (uf f 2 tb) 4 lt) fl 2 D rr hS 0 0 r_2 fa_4 dp_5 dp n a_3 bg tb b lt (sumR n b rr a) a none none hT hM hL hdp ⟨by omega, by omega, by omega⟩ hqf hqb f6 (fun z => by rcases f6 with y | y; exact absurd (z.symm.trans y.1) (by decide); (have := y.2; have := hqo.1; omega)) _ ?_ (0 + 1 : Int).toNat   (by omega) 
  intro r_11 a_12 fa_13 dp_14 f15 f16
  show (fun (rv : Option Value) (h : AmH) => ∃ r : Int, ∃ a' : Int, ∃ fa' : Int, ∃ dp' : Int, rv = some (.int (iz r)) ∧ h = cmH (u1 (u1 (u1 (u1 (u1 z 8 bg) 9 n) 10 a') 11 fa') 12 dp') zl (uf (uf f 2 tb) 4 lt) fl 2 ∧ mdR (cmpG n b (sumR n b rr) (sumR n b rr a)) (ltL lt) dp r a' fa' dp' ∧ ((a ≤ a' ∧ a' ≤ n) ∧ (fa' = -1 ∨ (0 ≤ fa' ∧ fa' ≤ 160)) ∧ (r = 0 ∨ r = 1))) (some (Value.int (iz r_11))) (cmH (u1 (u1 (u1 (u1 (u1 z 8 bg) 9 n) 10 a_12) 11 fa_13) 12 dp_14) zl (uf (uf f 2 tb) 4 lt) fl 2)
  exact ⟨_, _, _, _, rfl, rfl, f15, f16⟩
set_option maxRecDepth 100000 in
set_option maxHeartbeats 4000000 in
theorem m_cmps1_2 (d : Nat) (z : Nat → Int) (zl : Nat → Int) (f : Nat → Int → Int) (fl : Nat → Int → Int) (tx : Nat) (D rr : Nat) (hS : ∀ (d : Nat) (z : Nat → Int) (zl : Nat → Int) (f : Nat → Int → Int) (fl : Nat → Int → Int) (tx : Nat)  (dp : Int) (n : Int) (a : Int) (bg : Int) (tb : Int → Int) (b : Int → Int) (lt : Int → Int) (hT : tOK n b) (hM : mOK n bg 640 tb b) (ha : 0 ≤ a ∧ a ≤ n) (hL : ∀ k : Int, 0 ≤ k → k < 128 → -1000000 ≤ lt k ∧ lt k ≤ 1000000) (hdp : 0 ≤ dp ∧ dp = 6 - (rr : Int)), Rx (d + (D + 2)) m_X12_sum 0 (am_ent [.ref 0] 5) [] (cmH (u1 (u1 (u1 (u1 (u1 z 8 bg) 9 n) 10 a) 11 (-1)) 12 dp) zl (uf (uf f 2 tb) 4 lt) fl 2) (fun rv h => ∃ r : Int, ∃ a' : Int, ∃ fa' : Int, ∃ dp' : Int, rv = some (.int (iz r)) ∧ h = cmH (u1 (u1 (u1 (u1 (u1 z 8 bg) 9 n) 10 a') 11 fa') 12 dp') zl (uf (uf f 2 tb) 4 lt) fl 2 ∧ mdR (sumR n b rr a) (ltL lt) dp r a' fa' dp' ∧ ((a ≤ a' ∧ a' ≤ n) ∧ (fa' = -1 ∨ (0 ≤ fa' ∧ fa' ≤ 160)) ∧ (-1000000 ≤ r ∧ r ≤ 1000000)))) (dp : Int) (n : Int) (a : Int) (bg : Int) (tb : Int → Int) (b : Int → Int) (lt : Int → Int) (v : Int) (qq : RsT) (hT : tOK n b) (hM : mOK n bg 640 tb b) (ha : 0 ≤ a ∧ a ≤ n) (hL : ∀ k : Int, 0 ≤ k → k < 128 → -1000000 ≤ lt k ∧ lt k ≤ 1000000) (hdp : 0 ≤ dp ∧ dp = 6 - (rr : Int)) (hv : -1000000 ≤ v ∧ v ≤ 1000000) (hQ : qq.1 = true ∧ a = qq.2.1 ∧ v = qq.2.2.2 (ltL lt)) : Rx (d + (D + 3)) m_X12_compares 0 (am_ent [.ref 0, .int (iz 1), .int (iz v)] 6) [] (cmH (u1 (u1 (u1 (u1 (u1 z 8 bg) 9 n) 10 a) 11 (-1)) 12 dp) zl (uf (uf f 2 tb) 4 lt) fl 2) (fun rv h => ∃ r : Int, ∃ a' : Int, ∃ fa' : Int, ∃ dp' : Int, rv = some (.int (iz r)) ∧ h = cmH (u1 (u1 (u1 (u1 (u1 z 8 bg) 9 n) 10 a') 11 fa') 12 dp') zl (uf (uf f 2 tb) 4 lt) fl 2 ∧ mdR (cmpG n b (sumR n b rr) qq) (ltL lt) dp r a' fa' dp' ∧ ((a ≤ a' ∧ a' ≤ n) ∧ (fa' = -1 ∨ (0 ≤ fa' ∧ fa' ≤ 160)) ∧ (r = 0 ∨ r = 1))) := by
  obtain ⟨hT1, hT2, hT3⟩ := id hT
  have hbg := hM.1
  have hbz := hM.2.1
  have hrr : 0 ≤ (rr : Int) := by omega
  refine Rx.walk 0 (pc' := 0) (L' := [some (.ref 0), some (.int (iz 1)), some (.int (iz v)), none, none, none]) (st' := []) (h' := cmH (u1 (u1 (u1 (u1 (u1 z 8 bg) 9 n) 10 a) 11 (-1)) 12 dp) zl (uf (uf f 2 tb) 4 lt) fl 2) rfl ?_
  refine Rx.walk 1 (pc' := 1) (L' := [some (.ref 0), some (.int (iz 1)), some (.int (iz v)), none, none, none]) (st' := [.int (iz 1)]) (h' := cmH (u1 (u1 (u1 (u1 (u1 z 8 bg) 9 n) 10 a) 11 (-1)) 12 dp) zl (uf (uf f 2 tb) 4 lt) fl 2) rfl ?_
  refine Rx.eq1 rfl rfl ⟨by omega, by omega⟩ (fun b1 => by omega) (fun b1 => ?_)
  refine Rx.walk 3 (pc' := 13) (L' := [some (.ref 0), some (.int (iz 1)), some (.int (iz v)), some (.int (iz v)), none, none]) (st' := []) (h' := cmH (u1 (u1 (u1 (u1 (u1 z 8 bg) 9 n) 10 a) 11 (-1)) 12 dp) zl (uf (uf f 2 tb) 4 lt) fl 2) rfl ?_
  refine m_cmp2_b _ (u1 (u1 (u1 (u1 (u1 z 8 bg) 9 n) 10 a) 11 (-1)) 12 dp) zl (uf (uf f 2 tb) 4 lt) fl 2 D rr hS 1 v v (-1) dp dp n a bg tb b lt qq a none none hT hM hL hdp ⟨by omega, by omega, by omega⟩ (Or.inl rfl) hv (Or.inl ⟨hQ.1, rfl, hQ.2.1, rfl, hQ.2.2⟩) (fun z => absurd (z.symm.trans hQ.1) (by decide)) _ ?_ (0 + 1 : Int).toNat   (by omega) 
  intro r_2 a_3 fa_4 dp_5 f6 f7
  show (fun (rv : Option Value) (h : AmH) => ∃ r : Int, ∃ a' : Int, ∃ fa' : Int, ∃ dp' : Int, rv = some (.int (iz r)) ∧ h = cmH (u1 (u1 (u1 (u1 (u1 z 8 bg) 9 n) 10 a') 11 fa') 12 dp') zl (uf (uf f 2 tb) 4 lt) fl 2 ∧ mdR (cmpG n b (sumR n b rr) qq) (ltL lt) dp r a' fa' dp' ∧ ((a ≤ a' ∧ a' ≤ n) ∧ (fa' = -1 ∨ (0 ≤ fa' ∧ fa' ≤ 160)) ∧ (r = 0 ∨ r = 1))) (some (Value.int (iz r_2))) (cmH (u1 (u1 (u1 (u1 (u1 z 8 bg) 9 n) 10 a_3) 11 fa_4) 12 dp_5) zl (uf (uf f 2 tb) 4 lt) fl 2)
  exact ⟨_, _, _, _, rfl, rfl, f6, f7⟩

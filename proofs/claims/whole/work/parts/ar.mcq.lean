/-! rules read by the model: what a condition guards (printed by wip/whole/genmcq.py) -/
set_option maxRecDepth 100000 in
set_option maxHeartbeats 4000000 in
theorem m_clQ71_1 (d : Nat) (z : Nat → Int) (zl : Nat → Int) (f : Nat → Int → Int) (fl : Nat → Int → Int) (tx : Nat)  (le : Int) (cn : Int) (v : Int) (fa : Int) (dpv : Int) (ans : Int) (wor : Int) (n : Int) (a : Int) (bg : Int) (tb : Int → Int) (b : Int → Int) (lt : Int → Int) (qq : RsT) (a0 : Int) (w4 : Option Value) (hT : tOK n b) (hM : mOK n bg 160 tb b) (hL : ∀ k : Int, 0 ≤ k → k < 128 → -1000000 ≤ lt k ∧ lt k ≤ 1000000) (ha : 0 ≤ a ∧ a ≤ n ∧ a0 ≤ a) (hle : le = 121) (hfa : fa = -1 ∨ (0 ≤ fa ∧ fa ≤ 160)) (hans : ans = 0 ∨ ans = 1) (hcn : cn = 0 ∨ cn = 1) (hR : mdR qq (ltL lt) 0 cn a fa dpv) (hfp : qq.1 = false → fa ≠ -1) (P : Option Value → AmH → Prop) (hx0 : ∀ (a' : Int) (fa' : Int) (dp' : Int) (ans' : Int) (wor' : Int), (((clQ n b qq).1 = true ∧ fa' = -1 ∧ a' = (clQ n b qq).2.1 ∧ dp' = 0 ∧ cn = qq.2.2.2 (ltL lt) ∧ ((ans = 0 ∧ cn ≠ 0 ∧ ans' = 1 ∧ wor' = (clQ n b qq).2.2.2 (ltL lt)) ∨ (¬ (ans = 0 ∧ cn ≠ 0) ∧ ans' = ans ∧ wor' = wor))) ∨ ((clQ n b qq).1 = false ∧ fa' = (clQ n b qq).2.1 ∧ ans' = ans ∧ wor' = wor)) → ((a0 ≤ a' ∧ a' ≤ n) ∧ (fa' = -1 ∨ (0 ≤ fa' ∧ fa' ≤ 160)) ∧ (ans' = 0 ∨ ans' = 1)) → P (none) (cmH (u1 (u1 (u1 (u1 (u1 (u1 (u1 (u1 z 8 bg) 9 n) 10 a') 11 fa') 12 dp') 13 121) 14 wor') 17 ans') zl (uf (uf f 1 tb) 4 lt) fl 1)) : ∀ (kF : Nat), 0 < (kF : Int) → Rx (d + 28) m_X12_clause 71 [some (.ref 0), some (.int (iz le)), some (.int (iz cn)), some (.int (iz v)), w4] [] (cmH (u1 (u1 (u1 (u1 (u1 (u1 (u1 (u1 z 8 bg) 9 n) 10 a) 11 fa) 12 dpv) 13 121) 14 wor) 17 ans) zl (uf (uf f 1 tb) 4 lt) fl 1) P := by
  obtain ⟨hT1, hT2, hT3⟩ := id hT
  have hbg := hM.1
  have hbz := hM.2.1
  intro kF
  induction kF with
  | zero =>
    intro   hk
    exfalso; omega
  | succ kF ih =>
    intro   hk
    refine Rx.walk 2 (pc' := 74) (L' := [some (.ref 0), some (.int (iz le)), some (.int (iz cn)), some (.int (iz v)), w4]) (st' := [.int (iz 63), .ref 0]) (h' := cmH (u1 (u1 (u1 (u1 (u1 (u1 (u1 (u1 z 8 bg) 9 n) 10 a) 11 fa) 12 dpv) 13 121) 14 wor) 17 ans) zl (uf (uf f 1 tb) 4 lt) fl 1) rfl ?_
    refine Rx.callx (m' := m_X12_takes) (as := [.ref 0, .int (iz 63)]) (rest := []) rfl (m_takes1 _ (u1 (u1 (u1 (u1 (u1 (u1 (u1 (u1 z 8 bg) 9 n) 10 a) 11 fa) 12 dpv) 13 121) 14 wor) 17 ans) zl (uf (uf f 1 tb) 4 lt) fl 1  63 n a bg fa tb b hT hM ⟨by omega, by omega⟩ (by first | assumption | omega) hfa) (fun v7 h8 q9 => ?_)
    obtain ⟨r_1, a_2, fa_3, rfl, rfl, f4, f5, f6⟩ := q9
    refine Rx.walk 0 (pc' := 77) (L' := [some (.ref 0), some (.int (iz le)), some (.int (iz cn)), some (.int (iz v)), w4]) (st' := [.int (iz r_1)]) (h' := cmH (u1 (u1 (u1 (u1 (u1 (u1 (u1 (u1 z 8 bg) 9 n) 10 a_2) 11 fa_3) 12 dpv) 13 121) 14 wor) 17 ans) zl (uf (uf f 1 tb) 4 lt) fl 1) rfl ?_
    refine Rx.ne1 rfl rfl ⟨by omega, by omega⟩ (fun b10 => ?_) (fun b10 => ?_)
    · refine Rx.walk 1 (pc' := 82) (L' := [some (.ref 0), some (.int (iz le)), some (.int (iz cn)), some (.int (iz v)), w4]) (st' := [.ref 0]) (h' := cmH (u1 (u1 (u1 (u1 (u1 (u1 (u1 (u1 z 8 bg) 9 n) 10 a_2) 11 fa_3) 12 dpv) 13 121) 14 wor) 17 ans) zl (uf (uf f 1 tb) 4 lt) fl 1) rfl ?_
      obtain ⟨ht1, ht2, ht3, ht4⟩ : fa = -1 ∧ fa_3 = -1 ∧ sg n b (sks n b a) = 63 ∧ a_2 = sks n b a + 1 := by rcases f4 with z | z | z; (exact ⟨z.1, z.2.2.1, z.2.2.2.1, z.2.2.2.2⟩); (exfalso; omega); (exfalso; omega)
      obtain rfl := ht2
      obtain ⟨hok1, hok2, hok3, hok4⟩ : qq.1 = true ∧ a = qq.2.1 ∧ dpv = 0 ∧ cn = qq.2.2.2 (ltL lt) := by rcases hR with z | z; (exact ⟨z.1, z.2.2.1, z.2.2.2.1, z.2.2.2.2⟩); (exact absurd ht1 (hfp z.1))
      have hso := sumR_ok (n := n) (b := b) 6 a_2 (by omega) (by omega)
      have hE : (clQ n b qq) = (if (sumR n b 6 a_2).1 = true then (true, (sumR n b 6 a_2).2.1, qq.2.2.1 ++ [-11] ++ (sumR n b 6 a_2).2.2.1 ++ [-12], (sumR n b 6 a_2).2.2.2) else rsF (sumR n b 6 a_2).2.1) := by unfold clQ; rw [if_pos hok1, ← hok2, if_pos ht3, ← ht4]
      refine Rx.callx (m' := m_X12_sum) (as := [.ref 0]) (rest := []) rfl (m_sum6_1 _ (u1 (u1 (u1 (u1 (u1 (u1 (u1 (u1 z 8 bg) 9 n) 10 a_2) 11 (-1)) 12 dpv) 13 121) 14 wor) 17 ans) zl (uf (uf f 1 tb) 4 lt) fl 1  dpv n a_2 bg tb b lt hT hM ⟨by omega, by omega⟩ hL (by omega)) (fun v17 h18 q19 => ?_)
      obtain ⟨r_11, a_12, fa_13, dp_14, rfl, rfl, f15, f16⟩ := q19
      refine Rx.walk 0 (pc' := 85) (L' := [some (.ref 0), some (.int (iz le)), some (.int (iz cn)), some (.int (iz v)), w4]) (st' := [.int (iz r_11)]) (h' := cmH (u1 (u1 (u1 (u1 (u1 (u1 (u1 (u1 z 8 bg) 9 n) 10 a_12) 11 fa_13) 12 dp_14) 13 121) 14 wor) 17 ans) zl (uf (uf f 1 tb) 4 lt) fl 1) rfl ?_
      obtain ⟨hqa, hqf, hqb⟩ := id f16
      refine Rx.walk 2 (pc' := 134) (L' := [some (.ref 0), some (.int (iz le)), some (.int (iz cn)), some (.int (iz r_11)), w4]) (st' := []) (h' := cmH (u1 (u1 (u1 (u1 (u1 (u1 (u1 (u1 z 8 bg) 9 n) 10 a_12) 11 fa_13) 12 dp_14) 13 121) 14 wor) 17 ans) zl (uf (uf f 1 tb) 4 lt) fl 1) rfl ?_
      refine m_clT1 _ (u1 (u1 (u1 (u1 (u1 (u1 (u1 (u1 z 8 bg) 9 n) 10 a_12) 11 fa_13) 12 dp_14) 13 121) 14 wor) 17 ans) zl (uf (uf f 1 tb) 4 lt) fl 1  le cn r_11 fa_13 dp_14 ans wor n a_12 bg tb b lt w4 hle hqf hans hcn _ ?_ (0 + 1 : Int).toNat   (by omega) 
      intro ans_20 wor_21 f22
      change P (none) (cmH (u1 (u1 (u1 (u1 (u1 (u1 (u1 (u1 z 8 bg) 9 n) 10 a_12) 11 fa_13) 12 dp_14) 13 121) 14 wor_21) 17 ans_20) zl (uf (uf f 1 tb) 4 lt) fl 1)
      exact hx0 _ _ _ _ _ (by rcases f15 with y | y; (have e := hE; rw [if_pos y.1] at e; rw [e]; refine Or.inl ⟨rfl, y.2.1, y.2.2.1, y.2.2.2.1.trans hok3, hok4, ?_⟩; rcases f22 with z | z; (exact Or.inl ⟨z.2.1, z.2.2.1, z.2.2.2.1, z.2.2.2.2.trans y.2.2.2.2⟩); (exact Or.inr ⟨fun x => z.1 ⟨y.2.1, x.1, x.2⟩, z.2.1, z.2.2⟩)); (have e := hE; rw [if_neg (by rw [y.1]; decide)] at e; rw [e]; refine Or.inr ⟨rfl, y.2, ?_⟩; rcases f22 with z | z; (exfalso; have := z.1; have := y.2; have := hso.1; omega); (exact z.2))) ⟨⟨by omega, by omega⟩, hqf, by rcases f22 with z | z <;> omega⟩
    · refine Rx.ret rfl ?_
      exact hx0 _ _ _ _ _ (Or.inr (by rcases f4 with z | z | z; (exfalso; omega); (rcases hR with y | y; (have e : (clQ n b qq) = rsF (sks n b qq.2.1) := (by unfold clQ; rw [if_pos y.1, if_neg (by rw [← y.2.2.1]; exact z.2.2.1)]); rw [e]; exact ⟨rfl, z.2.2.2.2.trans (congrArg (sks n b) y.2.2.1), rfl, rfl⟩); (exact absurd z.1 (hfp y.1))); (rcases hR with y | y; (exact absurd y.2.1 z.1); (have e : (clQ n b qq) = rsF qq.2.1 := (by unfold clQ; rw [if_neg (by rw [y.1]; decide)]); rw [e]; exact ⟨rfl, z.2.2.2.trans y.2, rfl, rfl⟩)))) ⟨⟨by omega, by omega⟩, f6, hans⟩
set_option maxRecDepth 100000 in
set_option maxHeartbeats 4000000 in
theorem m_clQ119_1 (d : Nat) (z : Nat → Int) (zl : Nat → Int) (f : Nat → Int → Int) (fl : Nat → Int → Int) (tx : Nat)  (le : Int) (cn : Int) (v : Int) (fa : Int) (dpv : Int) (ans : Int) (wor : Int) (n : Int) (a : Int) (bg : Int) (tb : Int → Int) (b : Int → Int) (lt : Int → Int) (qq : RsT) (a0 : Int) (w4 : Option Value) (hT : tOK n b) (hM : mOK n bg 160 tb b) (hL : ∀ k : Int, 0 ≤ k → k < 128 → -1000000 ≤ lt k ∧ lt k ≤ 1000000) (ha : 0 ≤ a ∧ a ≤ n ∧ a0 ≤ a) (hle : le = 121) (hfa : fa = -1 ∨ (0 ≤ fa ∧ fa ≤ 160)) (hans : ans = 0 ∨ ans = 1) (hcn : cn = 0 ∨ cn = 1) (hR : mdR qq (ltL lt) 0 cn a fa dpv) (hfp : qq.1 = false → fa ≠ -1) (P : Option Value → AmH → Prop) (hx0 : ∀ (a' : Int) (fa' : Int) (dp' : Int) (ans' : Int) (wor' : Int), (((clQ n b qq).1 = true ∧ fa' = -1 ∧ a' = (clQ n b qq).2.1 ∧ dp' = 0 ∧ cn = qq.2.2.2 (ltL lt) ∧ ((ans = 0 ∧ cn ≠ 0 ∧ ans' = 1 ∧ wor' = (clQ n b qq).2.2.2 (ltL lt)) ∨ (¬ (ans = 0 ∧ cn ≠ 0) ∧ ans' = ans ∧ wor' = wor))) ∨ ((clQ n b qq).1 = false ∧ fa' = (clQ n b qq).2.1 ∧ ans' = ans ∧ wor' = wor)) → ((a0 ≤ a' ∧ a' ≤ n) ∧ (fa' = -1 ∨ (0 ≤ fa' ∧ fa' ≤ 160)) ∧ (ans' = 0 ∨ ans' = 1)) → P (none) (cmH (u1 (u1 (u1 (u1 (u1 (u1 (u1 (u1 z 8 bg) 9 n) 10 a') 11 fa') 12 dp') 13 121) 14 wor') 17 ans') zl (uf (uf f 1 tb) 4 lt) fl 1)) : ∀ (kF : Nat), 0 < (kF : Int) → Rx (d + 28) m_X12_clause 119 [some (.ref 0), some (.int (iz le)), some (.int (iz cn)), some (.int (iz v)), w4] [] (cmH (u1 (u1 (u1 (u1 (u1 (u1 (u1 (u1 z 8 bg) 9 n) 10 a) 11 fa) 12 dpv) 13 121) 14 wor) 17 ans) zl (uf (uf f 1 tb) 4 lt) fl 1) P := by
  obtain ⟨hT1, hT2, hT3⟩ := id hT
  have hbg := hM.1
  have hbz := hM.2.1
  intro kF
  induction kF with
  | zero =>
    intro   hk
    exfalso; omega
  | succ kF ih =>
    intro   hk
    refine Rx.walk 2 (pc' := 122) (L' := [some (.ref 0), some (.int (iz le)), some (.int (iz cn)), some (.int (iz v)), w4]) (st' := [.int (iz 63), .ref 0]) (h' := cmH (u1 (u1 (u1 (u1 (u1 (u1 (u1 (u1 z 8 bg) 9 n) 10 a) 11 fa) 12 dpv) 13 121) 14 wor) 17 ans) zl (uf (uf f 1 tb) 4 lt) fl 1) rfl ?_
    refine Rx.callx (m' := m_X12_takes) (as := [.ref 0, .int (iz 63)]) (rest := []) rfl (m_takes1 _ (u1 (u1 (u1 (u1 (u1 (u1 (u1 (u1 z 8 bg) 9 n) 10 a) 11 fa) 12 dpv) 13 121) 14 wor) 17 ans) zl (uf (uf f 1 tb) 4 lt) fl 1  63 n a bg fa tb b hT hM ⟨by omega, by omega⟩ (by first | assumption | omega) hfa) (fun v7 h8 q9 => ?_)
    obtain ⟨r_1, a_2, fa_3, rfl, rfl, f4, f5, f6⟩ := q9
    refine Rx.walk 0 (pc' := 125) (L' := [some (.ref 0), some (.int (iz le)), some (.int (iz cn)), some (.int (iz v)), w4]) (st' := [.int (iz r_1)]) (h' := cmH (u1 (u1 (u1 (u1 (u1 (u1 (u1 (u1 z 8 bg) 9 n) 10 a_2) 11 fa_3) 12 dpv) 13 121) 14 wor) 17 ans) zl (uf (uf f 1 tb) 4 lt) fl 1) rfl ?_
    refine Rx.ne1 rfl rfl ⟨by omega, by omega⟩ (fun b10 => ?_) (fun b10 => ?_)
    · refine Rx.walk 1 (pc' := 130) (L' := [some (.ref 0), some (.int (iz le)), some (.int (iz cn)), some (.int (iz v)), w4]) (st' := [.ref 0]) (h' := cmH (u1 (u1 (u1 (u1 (u1 (u1 (u1 (u1 z 8 bg) 9 n) 10 a_2) 11 fa_3) 12 dpv) 13 121) 14 wor) 17 ans) zl (uf (uf f 1 tb) 4 lt) fl 1) rfl ?_
      obtain ⟨ht1, ht2, ht3, ht4⟩ : fa = -1 ∧ fa_3 = -1 ∧ sg n b (sks n b a) = 63 ∧ a_2 = sks n b a + 1 := by rcases f4 with z | z | z; (exact ⟨z.1, z.2.2.1, z.2.2.2.1, z.2.2.2.2⟩); (exfalso; omega); (exfalso; omega)
      obtain rfl := ht2
      obtain ⟨hok1, hok2, hok3, hok4⟩ : qq.1 = true ∧ a = qq.2.1 ∧ dpv = 0 ∧ cn = qq.2.2.2 (ltL lt) := by rcases hR with z | z; (exact ⟨z.1, z.2.2.1, z.2.2.2.1, z.2.2.2.2⟩); (exact absurd ht1 (hfp z.1))
      have hso := sumR_ok (n := n) (b := b) 6 a_2 (by omega) (by omega)
      have hE : (clQ n b qq) = (if (sumR n b 6 a_2).1 = true then (true, (sumR n b 6 a_2).2.1, qq.2.2.1 ++ [-11] ++ (sumR n b 6 a_2).2.2.1 ++ [-12], (sumR n b 6 a_2).2.2.2) else rsF (sumR n b 6 a_2).2.1) := by unfold clQ; rw [if_pos hok1, ← hok2, if_pos ht3, ← ht4]
      refine Rx.callx (m' := m_X12_sum) (as := [.ref 0]) (rest := []) rfl (m_sum6_1 _ (u1 (u1 (u1 (u1 (u1 (u1 (u1 (u1 z 8 bg) 9 n) 10 a_2) 11 (-1)) 12 dpv) 13 121) 14 wor) 17 ans) zl (uf (uf f 1 tb) 4 lt) fl 1  dpv n a_2 bg tb b lt hT hM ⟨by omega, by omega⟩ hL (by omega)) (fun v17 h18 q19 => ?_)
      obtain ⟨r_11, a_12, fa_13, dp_14, rfl, rfl, f15, f16⟩ := q19
      refine Rx.walk 0 (pc' := 133) (L' := [some (.ref 0), some (.int (iz le)), some (.int (iz cn)), some (.int (iz v)), w4]) (st' := [.int (iz r_11)]) (h' := cmH (u1 (u1 (u1 (u1 (u1 (u1 (u1 (u1 z 8 bg) 9 n) 10 a_12) 11 fa_13) 12 dp_14) 13 121) 14 wor) 17 ans) zl (uf (uf f 1 tb) 4 lt) fl 1) rfl ?_
      obtain ⟨hqa, hqf, hqb⟩ := id f16
      refine Rx.walk 1 (pc' := 134) (L' := [some (.ref 0), some (.int (iz le)), some (.int (iz cn)), some (.int (iz r_11)), w4]) (st' := []) (h' := cmH (u1 (u1 (u1 (u1 (u1 (u1 (u1 (u1 z 8 bg) 9 n) 10 a_12) 11 fa_13) 12 dp_14) 13 121) 14 wor) 17 ans) zl (uf (uf f 1 tb) 4 lt) fl 1) rfl ?_
      refine m_clT1 _ (u1 (u1 (u1 (u1 (u1 (u1 (u1 (u1 z 8 bg) 9 n) 10 a_12) 11 fa_13) 12 dp_14) 13 121) 14 wor) 17 ans) zl (uf (uf f 1 tb) 4 lt) fl 1  le cn r_11 fa_13 dp_14 ans wor n a_12 bg tb b lt w4 hle hqf hans hcn _ ?_ (0 + 1 : Int).toNat   (by omega) 
      intro ans_20 wor_21 f22
      change P (none) (cmH (u1 (u1 (u1 (u1 (u1 (u1 (u1 (u1 z 8 bg) 9 n) 10 a_12) 11 fa_13) 12 dp_14) 13 121) 14 wor_21) 17 ans_20) zl (uf (uf f 1 tb) 4 lt) fl 1)
      exact hx0 _ _ _ _ _ (by rcases f15 with y | y; (have e := hE; rw [if_pos y.1] at e; rw [e]; refine Or.inl ⟨rfl, y.2.1, y.2.2.1, y.2.2.2.1.trans hok3, hok4, ?_⟩; rcases f22 with z | z; (exact Or.inl ⟨z.2.1, z.2.2.1, z.2.2.2.1, z.2.2.2.2.trans y.2.2.2.2⟩); (exact Or.inr ⟨fun x => z.1 ⟨y.2.1, x.1, x.2⟩, z.2.1, z.2.2⟩)); (have e := hE; rw [if_neg (by rw [y.1]; decide)] at e; rw [e]; refine Or.inr ⟨rfl, y.2, ?_⟩; rcases f22 with z | z; (exfalso; have := z.1; have := y.2; have := hso.1; omega); (exact z.2))) ⟨⟨by omega, by omega⟩, hqf, by rcases f22 with z | z <;> omega⟩
    · refine Rx.ret rfl ?_
      exact hx0 _ _ _ _ _ (Or.inr (by rcases f4 with z | z | z; (exfalso; omega); (rcases hR with y | y; (have e : (clQ n b qq) = rsF (sks n b qq.2.1) := (by unfold clQ; rw [if_pos y.1, if_neg (by rw [← y.2.2.1]; exact z.2.2.1)]); rw [e]; exact ⟨rfl, z.2.2.2.2.trans (congrArg (sks n b) y.2.2.1), rfl, rfl⟩); (exact absurd z.1 (hfp y.1))); (rcases hR with y | y; (exact absurd y.2.1 z.1); (have e : (clQ n b qq) = rsF qq.2.1 := (by unfold clQ; rw [if_neg (by rw [y.1]; decide)]); rw [e]; exact ⟨rfl, z.2.2.2.trans y.2, rfl, rfl⟩)))) ⟨⟨by omega, by omega⟩, f6, hans⟩
set_option maxRecDepth 100000 in
set_option maxHeartbeats 4000000 in
theorem m_clQ71_2 (d : Nat) (z : Nat → Int) (zl : Nat → Int) (f : Nat → Int → Int) (fl : Nat → Int → Int) (tx : Nat)  (le : Int) (cn : Int) (v : Int) (fa : Int) (dpv : Int) (ans : Int) (wor : Int) (n : Int) (a : Int) (bg : Int) (tb : Int → Int) (b : Int → Int) (lt : Int → Int) (qq : RsT) (a0 : Int) (w4 : Option Value) (hT : tOK n b) (hM : mOK n bg 640 tb b) (hL : ∀ k : Int, 0 ≤ k → k < 128 → -1000000 ≤ lt k ∧ lt k ≤ 1000000) (ha : 0 ≤ a ∧ a ≤ n ∧ a0 ≤ a) (hle : le = 121) (hfa : fa = -1 ∨ (0 ≤ fa ∧ fa ≤ 160)) (hans : ans = 0 ∨ ans = 1) (hcn : cn = 0 ∨ cn = 1) (hR : mdR qq (ltL lt) 0 cn a fa dpv) (hfp : qq.1 = false → fa ≠ -1) (P : Option Value → AmH → Prop) (hx0 : ∀ (a' : Int) (fa' : Int) (dp' : Int) (ans' : Int) (wor' : Int), (((clQ n b qq).1 = true ∧ fa' = -1 ∧ a' = (clQ n b qq).2.1 ∧ dp' = 0 ∧ cn = qq.2.2.2 (ltL lt) ∧ ((ans = 0 ∧ cn ≠ 0 ∧ ans' = 1 ∧ wor' = (clQ n b qq).2.2.2 (ltL lt)) ∨ (¬ (ans = 0 ∧ cn ≠ 0) ∧ ans' = ans ∧ wor' = wor))) ∨ ((clQ n b qq).1 = false ∧ fa' = (clQ n b qq).2.1 ∧ ans' = ans ∧ wor' = wor)) → ((a0 ≤ a' ∧ a' ≤ n) ∧ (fa' = -1 ∨ (0 ≤ fa' ∧ fa' ≤ 160)) ∧ (ans' = 0 ∨ ans' = 1)) → P (none) (cmH (u1 (u1 (u1 (u1 (u1 (u1 (u1 (u1 z 8 bg) 9 n) 10 a') 11 fa') 12 dp') 13 121) 14 wor') 17 ans') zl (uf (uf f 2 tb) 4 lt) fl 2)) : ∀ (kF : Nat), 0 < (kF : Int) → Rx (d + 28) m_X12_clause 71 [some (.ref 0), some (.int (iz le)), some (.int (iz cn)), some (.int (iz v)), w4] [] (cmH (u1 (u1 (u1 (u1 (u1 (u1 (u1 (u1 z 8 bg) 9 n) 10 a) 11 fa) 12 dpv) 13 121) 14 wor) 17 ans) zl (uf (uf f 2 tb) 4 lt) fl 2) P := by
  obtain ⟨hT1, hT2, hT3⟩ := id hT
  have hbg := hM.1
  have hbz := hM.2.1
  intro kF
  induction kF with
  | zero =>
    intro   hk
    exfalso; omega
  | succ kF ih =>
    intro   hk
    refine Rx.walk 2 (pc' := 74) (L' := [some (.ref 0), some (.int (iz le)), some (.int (iz cn)), some (.int (iz v)), w4]) (st' := [.int (iz 63), .ref 0]) (h' := cmH (u1 (u1 (u1 (u1 (u1 (u1 (u1 (u1 z 8 bg) 9 n) 10 a) 11 fa) 12 dpv) 13 121) 14 wor) 17 ans) zl (uf (uf f 2 tb) 4 lt) fl 2) rfl ?_
    refine Rx.callx (m' := m_X12_takes) (as := [.ref 0, .int (iz 63)]) (rest := []) rfl (m_takes2 _ (u1 (u1 (u1 (u1 (u1 (u1 (u1 (u1 z 8 bg) 9 n) 10 a) 11 fa) 12 dpv) 13 121) 14 wor) 17 ans) zl (uf (uf f 2 tb) 4 lt) fl 2  63 n a bg fa tb b hT hM ⟨by omega, by omega⟩ (by first | assumption | omega) hfa) (fun v7 h8 q9 => ?_)
    obtain ⟨r_1, a_2, fa_3, rfl, rfl, f4, f5, f6⟩ := q9
    refine Rx.walk 0 (pc' := 77) (L' := [some (.ref 0), some (.int (iz le)), some (.int (iz cn)), some (.int (iz v)), w4]) (st' := [.int (iz r_1)]) (h' := cmH (u1 (u1 (u1 (u1 (u1 (u1 (u1 (u1 z 8 bg) 9 n) 10 a_2) 11 fa_3) 12 dpv) 13 121) 14 wor) 17 ans) zl (uf (uf f 2 tb) 4 lt) fl 2) rfl ?_
    refine Rx.ne1 rfl rfl ⟨by omega, by omega⟩ (fun b10 => ?_) (fun b10 => ?_)
    · refine Rx.walk 1 (pc' := 82) (L' := [some (.ref 0), some (.int (iz le)), some (.int (iz cn)), some (.int (iz v)), w4]) (st' := [.ref 0]) (h' := cmH (u1 (u1 (u1 (u1 (u1 (u1 (u1 (u1 z 8 bg) 9 n) 10 a_2) 11 fa_3) 12 dpv) 13 121) 14 wor) 17 ans) zl (uf (uf f 2 tb) 4 lt) fl 2) rfl ?_
      obtain ⟨ht1, ht2, ht3, ht4⟩ : fa = -1 ∧ fa_3 = -1 ∧ sg n b (sks n b a) = 63 ∧ a_2 = sks n b a + 1 := by rcases f4 with z | z | z; (exact ⟨z.1, z.2.2.1, z.2.2.2.1, z.2.2.2.2⟩); (exfalso; omega); (exfalso; omega)
      obtain rfl := ht2
      obtain ⟨hok1, hok2, hok3, hok4⟩ : qq.1 = true ∧ a = qq.2.1 ∧ dpv = 0 ∧ cn = qq.2.2.2 (ltL lt) := by rcases hR with z | z; (exact ⟨z.1, z.2.2.1, z.2.2.2.1, z.2.2.2.2⟩); (exact absurd ht1 (hfp z.1))
      have hso := sumR_ok (n := n) (b := b) 6 a_2 (by omega) (by omega)
      have hE : (clQ n b qq) = (if (sumR n b 6 a_2).1 = true then (true, (sumR n b 6 a_2).2.1, qq.2.2.1 ++ [-11] ++ (sumR n b 6 a_2).2.2.1 ++ [-12], (sumR n b 6 a_2).2.2.2) else rsF (sumR n b 6 a_2).2.1) := by unfold clQ; rw [if_pos hok1, ← hok2, if_pos ht3, ← ht4]
      refine Rx.callx (m' := m_X12_sum) (as := [.ref 0]) (rest := []) rfl (m_sum6_2 _ (u1 (u1 (u1 (u1 (u1 (u1 (u1 (u1 z 8 bg) 9 n) 10 a_2) 11 (-1)) 12 dpv) 13 121) 14 wor) 17 ans) zl (uf (uf f 2 tb) 4 lt) fl 2  dpv n a_2 bg tb b lt hT hM ⟨by omega, by omega⟩ hL (by omega)) (fun v17 h18 q19 => ?_)
      obtain ⟨r_11, a_12, fa_13, dp_14, rfl, rfl, f15, f16⟩ := q19
      refine Rx.walk 0 (pc' := 85) (L' := [some (.ref 0), some (.int (iz le)), some (.int (iz cn)), some (.int (iz v)), w4]) (st' := [.int (iz r_11)]) (h' := cmH (u1 (u1 (u1 (u1 (u1 (u1 (u1 (u1 z 8 bg) 9 n) 10 a_12) 11 fa_13) 12 dp_14) 13 121) 14 wor) 17 ans) zl (uf (uf f 2 tb) 4 lt) fl 2) rfl ?_
      obtain ⟨hqa, hqf, hqb⟩ := id f16
      refine Rx.walk 2 (pc' := 134) (L' := [some (.ref 0), some (.int (iz le)), some (.int (iz cn)), some (.int (iz r_11)), w4]) (st' := []) (h' := cmH (u1 (u1 (u1 (u1 (u1 (u1 (u1 (u1 z 8 bg) 9 n) 10 a_12) 11 fa_13) 12 dp_14) 13 121) 14 wor) 17 ans) zl (uf (uf f 2 tb) 4 lt) fl 2) rfl ?_
      refine m_clT2 _ (u1 (u1 (u1 (u1 (u1 (u1 (u1 (u1 z 8 bg) 9 n) 10 a_12) 11 fa_13) 12 dp_14) 13 121) 14 wor) 17 ans) zl (uf (uf f 2 tb) 4 lt) fl 2  le cn r_11 fa_13 dp_14 ans wor n a_12 bg tb b lt w4 hle hqf hans hcn _ ?_ (0 + 1 : Int).toNat   (by omega) 
      intro ans_20 wor_21 f22
      change P (none) (cmH (u1 (u1 (u1 (u1 (u1 (u1 (u1 (u1 z 8 bg) 9 n) 10 a_12) 11 fa_13) 12 dp_14) 13 121) 14 wor_21) 17 ans_20) zl (uf (uf f 2 tb) 4 lt) fl 2)
      exact hx0 _ _ _ _ _ (by rcases f15 with y | y; (have e := hE; rw [if_pos y.1] at e; rw [e]; refine Or.inl ⟨rfl, y.2.1, y.2.2.1, y.2.2.2.1.trans hok3, hok4, ?_⟩; rcases f22 with z | z; (exact Or.inl ⟨z.2.1, z.2.2.1, z.2.2.2.1, z.2.2.2.2.trans y.2.2.2.2⟩); (exact Or.inr ⟨fun x => z.1 ⟨y.2.1, x.1, x.2⟩, z.2.1, z.2.2⟩)); (have e := hE; rw [if_neg (by rw [y.1]; decide)] at e; rw [e]; refine Or.inr ⟨rfl, y.2, ?_⟩; rcases f22 with z | z; (exfalso; have := z.1; have := y.2; have := hso.1; omega); (exact z.2))) ⟨⟨by omega, by omega⟩, hqf, by rcases f22 with z | z <;> omega⟩
    · refine Rx.ret rfl ?_
      exact hx0 _ _ _ _ _ (Or.inr (by rcases f4 with z | z | z; (exfalso; omega); (rcases hR with y | y; (have e : (clQ n b qq) = rsF (sks n b qq.2.1) := (by unfold clQ; rw [if_pos y.1, if_neg (by rw [← y.2.2.1]; exact z.2.2.1)]); rw [e]; exact ⟨rfl, z.2.2.2.2.trans (congrArg (sks n b) y.2.2.1), rfl, rfl⟩); (exact absurd z.1 (hfp y.1))); (rcases hR with y | y; (exact absurd y.2.1 z.1); (have e : (clQ n b qq) = rsF qq.2.1 := (by unfold clQ; rw [if_neg (by rw [y.1]; decide)]); rw [e]; exact ⟨rfl, z.2.2.2.trans y.2, rfl, rfl⟩)))) ⟨⟨by omega, by omega⟩, f6, hans⟩
set_option maxRecDepth 100000 in
set_option maxHeartbeats 4000000 in
theorem m_clQ119_2 (d : Nat) (z : Nat → Int) (zl : Nat → Int) (f : Nat → Int → Int) (fl : Nat → Int → Int) (tx : Nat)  (le : Int) (cn : Int) (v : Int) (fa : Int) (dpv : Int) (ans : Int) (wor : Int) (n : Int) (a : Int) (bg : Int) (tb : Int → Int) (b : Int → Int) (lt : Int → Int) (qq : RsT) (a0 : Int) (w4 : Option Value) (hT : tOK n b) (hM : mOK n bg 640 tb b) (hL : ∀ k : Int, 0 ≤ k → k < 128 → -1000000 ≤ lt k ∧ lt k ≤ 1000000) (ha : 0 ≤ a ∧ a ≤ n ∧ a0 ≤ a) (hle : le = 121) (hfa : fa = -1 ∨ (0 ≤ fa ∧ fa ≤ 160)) (hans : ans = 0 ∨ ans = 1) (hcn : cn = 0 ∨ cn = 1) (hR : mdR qq (ltL lt) 0 cn a fa dpv) (hfp : qq.1 = false → fa ≠ -1) (P : Option Value → AmH → Prop) (hx0 : ∀ (a' : Int) (fa' : Int) (dp' : Int) (ans' : Int) (wor' : Int), (((clQ n b qq).1 = true ∧ fa' = -1 ∧ a' = (clQ n b qq).2.1 ∧ dp' = 0 ∧ cn = qq.2.2.2 (ltL lt) ∧ ((ans = 0 ∧ cn ≠ 0 ∧ ans' = 1 ∧ wor' = (clQ n b qq).2.2.2 (ltL lt)) ∨ (¬ (ans = 0 ∧ cn ≠ 0) ∧ ans' = ans ∧ wor' = wor))) ∨ ((clQ n b qq).1 = false ∧ fa' = (clQ n b qq).2.1 ∧ ans' = ans ∧ wor' = wor)) → ((a0 ≤ a' ∧ a' ≤ n) ∧ (fa' = -1 ∨ (0 ≤ fa' ∧ fa' ≤ 160)) ∧ (ans' = 0 ∨ ans' = 1)) → P (none) (cmH (u1 (u1 (u1 (u1 (u1 (u1 (u1 (u1 z 8 bg) 9 n) 10 a') 11 fa') 12 dp') 13 121) 14 wor') 17 ans') zl (uf (uf f 2 tb) 4 lt) fl 2)) : ∀ (kF : Nat), 0 < (kF : Int) → Rx (d + 28) m_X12_clause 119 [some (.ref 0), some (.int (iz le)), some (.int (iz cn)), some (.int (iz v)), w4] [] (cmH (u1 (u1 (u1 (u1 (u1 (u1 (u1 (u1 z 8 bg) 9 n) 10 a) 11 fa) 12 dpv) 13 121) 14 wor) 17 ans) zl (uf (uf f 2 tb) 4 lt) fl 2) P := by
  obtain ⟨hT1, hT2, hT3⟩ := id hT
  have hbg := hM.1
  have hbz := hM.2.1
  intro kF
  induction kF with
  | zero =>
    intro   hk
    exfalso; omega
  | succ kF ih =>
    intro   hk
    refine Rx.walk 2 (pc' := 122) (L' := [some (.ref 0), some (.int (iz le)), some (.int (iz cn)), some (.int (iz v)), w4]) (st' := [.int (iz 63), .ref 0]) (h' := cmH (u1 (u1 (u1 (u1 (u1 (u1 (u1 (u1 z 8 bg) 9 n) 10 a) 11 fa) 12 dpv) 13 121) 14 wor) 17 ans) zl (uf (uf f 2 tb) 4 lt) fl 2) rfl ?_
    refine Rx.callx (m' := m_X12_takes) (as := [.ref 0, .int (iz 63)]) (rest := []) rfl (m_takes2 _ (u1 (u1 (u1 (u1 (u1 (u1 (u1 (u1 z 8 bg) 9 n) 10 a) 11 fa) 12 dpv) 13 121) 14 wor) 17 ans) zl (uf (uf f 2 tb) 4 lt) fl 2  63 n a bg fa tb b hT hM ⟨by omega, by omega⟩ (by first | assumption | omega) hfa) (fun v7 h8 q9 => ?_)
    obtain ⟨r_1, a_2, fa_3, rfl, rfl, f4, f5, f6⟩ := q9
    refine Rx.walk 0 (pc' := 125) (L' := [some (.ref 0), some (.int (iz le)), some (.int (iz cn)), some (.int (iz v)), w4]) (st' := [.int (iz r_1)]) (h' := cmH (u1 (u1 (u1 (u1 (u1 (u1 (u1 (u1 z 8 bg) 9 n) 10 a_2) 11 fa_3) 12 dpv) 13 121) 14 wor) 17 ans) zl (uf (uf f 2 tb) 4 lt) fl 2) rfl ?_
    refine Rx.ne1 rfl rfl ⟨by omega, by omega⟩ (fun b10 => ?_) (fun b10 => ?_)
    · refine Rx.walk 1 (pc' := 130) (L' := [some (.ref 0), some (.int (iz le)), some (.int (iz cn)), some (.int (iz v)), w4]) (st' := [.ref 0]) (h' := cmH (u1 (u1 (u1 (u1 (u1 (u1 (u1 (u1 z 8 bg) 9 n) 10 a_2) 11 fa_3) 12 dpv) 13 121) 14 wor) 17 ans) zl (uf (uf f 2 tb) 4 lt) fl 2) rfl ?_
      obtain ⟨ht1, ht2, ht3, ht4⟩ : fa = -1 ∧ fa_3 = -1 ∧ sg n b (sks n b a) = 63 ∧ a_2 = sks n b a + 1 := by rcases f4 with z | z | z; (exact ⟨z.1, z.2.2.1, z.2.2.2.1, z.2.2.2.2⟩); (exfalso; omega); (exfalso; omega)
      obtain rfl := ht2
      obtain ⟨hok1, hok2, hok3, hok4⟩ : qq.1 = true ∧ a = qq.2.1 ∧ dpv = 0 ∧ cn = qq.2.2.2 (ltL lt) := by rcases hR with z | z; (exact ⟨z.1, z.2.2.1, z.2.2.2.1, z.2.2.2.2⟩); (exact absurd ht1 (hfp z.1))
      have hso := sumR_ok (n := n) (b := b) 6 a_2 (by omega) (by omega)
      have hE : (clQ n b qq) = (if (sumR n b 6 a_2).1 = true then (true, (sumR n b 6 a_2).2.1, qq.2.2.1 ++ [-11] ++ (sumR n b 6 a_2).2.2.1 ++ [-12], (sumR n b 6 a_2).2.2.2) else rsF (sumR n b 6 a_2).2.1) := by unfold clQ; rw [if_pos hok1, ← hok2, if_pos ht3, ← ht4]
      refine Rx.callx (m' := m_X12_sum) (as := [.ref 0]) (rest := []) rfl (m_sum6_2 _ (u1 (u1 (u1 (u1 (u1 (u1 (u1 (u1 z 8 bg) 9 n) 10 a_2) 11 (-1)) 12 dpv) 13 121) 14 wor) 17 ans) zl (uf (uf f 2 tb) 4 lt) fl 2  dpv n a_2 bg tb b lt hT hM ⟨by omega, by omega⟩ hL (by omega)) (fun v17 h18 q19 => ?_)
      obtain ⟨r_11, a_12, fa_13, dp_14, rfl, rfl, f15, f16⟩ := q19
      refine Rx.walk 0 (pc' := 133) (L' := [some (.ref 0), some (.int (iz le)), some (.int (iz cn)), some (.int (iz v)), w4]) (st' := [.int (iz r_11)]) (h' := cmH (u1 (u1 (u1 (u1 (u1 (u1 (u1 (u1 z 8 bg) 9 n) 10 a_12) 11 fa_13) 12 dp_14) 13 121) 14 wor) 17 ans) zl (uf (uf f 2 tb) 4 lt) fl 2) rfl ?_
      obtain ⟨hqa, hqf, hqb⟩ := id f16
      refine Rx.walk 1 (pc' := 134) (L' := [some (.ref 0), some (.int (iz le)), some (.int (iz cn)), some (.int (iz r_11)), w4]) (st' := []) (h' := cmH (u1 (u1 (u1 (u1 (u1 (u1 (u1 (u1 z 8 bg) 9 n) 10 a_12) 11 fa_13) 12 dp_14) 13 121) 14 wor) 17 ans) zl (uf (uf f 2 tb) 4 lt) fl 2) rfl ?_
      refine m_clT2 _ (u1 (u1 (u1 (u1 (u1 (u1 (u1 (u1 z 8 bg) 9 n) 10 a_12) 11 fa_13) 12 dp_14) 13 121) 14 wor) 17 ans) zl (uf (uf f 2 tb) 4 lt) fl 2  le cn r_11 fa_13 dp_14 ans wor n a_12 bg tb b lt w4 hle hqf hans hcn _ ?_ (0 + 1 : Int).toNat   (by omega) 
      intro ans_20 wor_21 f22
      change P (none) (cmH (u1 (u1 (u1 (u1 (u1 (u1 (u1 (u1 z 8 bg) 9 n) 10 a_12) 11 fa_13) 12 dp_14) 13 121) 14 wor_21) 17 ans_20) zl (uf (uf f 2 tb) 4 lt) fl 2)
      exact hx0 _ _ _ _ _ (by rcases f15 with y | y; (have e := hE; rw [if_pos y.1] at e; rw [e]; refine Or.inl ⟨rfl, y.2.1, y.2.2.1, y.2.2.2.1.trans hok3, hok4, ?_⟩; rcases f22 with z | z; (exact Or.inl ⟨z.2.1, z.2.2.1, z.2.2.2.1, z.2.2.2.2.trans y.2.2.2.2⟩); (exact Or.inr ⟨fun x => z.1 ⟨y.2.1, x.1, x.2⟩, z.2.1, z.2.2⟩)); (have e := hE; rw [if_neg (by rw [y.1]; decide)] at e; rw [e]; refine Or.inr ⟨rfl, y.2, ?_⟩; rcases f22 with z | z; (exfalso; have := z.1; have := y.2; have := hso.1; omega); (exact z.2))) ⟨⟨by omega, by omega⟩, hqf, by rcases f22 with z | z <;> omega⟩
    · refine Rx.ret rfl ?_
      exact hx0 _ _ _ _ _ (Or.inr (by rcases f4 with z | z | z; (exfalso; omega); (rcases hR with y | y; (have e : (clQ n b qq) = rsF (sks n b qq.2.1) := (by unfold clQ; rw [if_pos y.1, if_neg (by rw [← y.2.2.1]; exact z.2.2.1)]); rw [e]; exact ⟨rfl, z.2.2.2.2.trans (congrArg (sks n b) y.2.2.1), rfl, rfl⟩); (exact absurd z.1 (hfp y.1))); (rcases hR with y | y; (exact absurd y.2.1 z.1); (have e : (clQ n b qq) = rsF qq.2.1 := (by unfold clQ; rw [if_neg (by rw [y.1]; decide)]); rw [e]; exact ⟨rfl, z.2.2.2.trans y.2, rfl, rfl⟩)))) ⟨⟨by omega, by omega⟩, f6, hans⟩

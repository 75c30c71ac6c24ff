/-! customer, gives of the model (printed by wip/whole/gengft.py) -/
set_option maxRecDepth 100000 in
set_option maxHeartbeats 4000000 in
theorem m_customer (d : Nat) (z : Nat → Int) (zl : Nat → Int) (f : Nat → Int → Int) (fl : Nat → Int → Int) (tx : Nat)  (ci : Int) (k : Int) (K : Int) (M : Int) (pu : Int → Int) (prr : Int → Int) (hc : bI ci) (hk : bI k) (hK : 0 ≤ K ∧ K ≤ 4) (hM : 0 ≤ M ∧ M ≤ 4) : Rx (d + 1) m_X12_customer 0 (am_ent [.ref 0, .int (iz ci), .int (iz k)] 3) [] (cmH (u1 (u1 z 21 K) 28 M) zl (uf (uf f 8 prr) 9 pu) fl tx) (fun rv h => ∃ r : Int, rv = some (.int (iz r)) ∧ h = cmH (u1 (u1 (u1 z 0 0) 21 K) 28 M) zl (uf (uf f 8 prr) 9 pu) fl tx ∧ (((¬ (0 ≤ ci ∧ ci < M) ∨ (k ≠ -1 ∧ ¬ (0 ≤ k ∧ k < K))) ∧ r = -1) ∨ (0 ≤ ci ∧ ci < M ∧ ((k = -1 ∧ r = prr ci) ∨ (0 ≤ k ∧ k < K ∧ r = (fun k => pu (4 * ci + k)) k))))) := by
  obtain ⟨hc1, hc2⟩ := id hc
  obtain ⟨hk1, hk2⟩ := id hk
  refine Rx.walk 0 (pc' := 0) (L' := [some (.ref 0), some (.int (iz ci)), some (.int (iz k))]) (st' := []) (h' := cmH (u1 (u1 z 21 K) 28 M) zl (uf (uf f 8 prr) 9 pu) fl tx) rfl ?_
  refine Rx.walk 5 (pc' := 7) (L' := [some (.ref 0), some (.int (iz ci)), some (.int (iz k))]) (st' := [.int (iz ci), .ref 0]) (h' := cmH (u1 (u1 (u1 z 0 0) 21 K) 28 M) zl (uf (uf f 8 prr) 9 pu) fl tx) rfl ?_
  refine Rx.callx (m' := m_X12_isCustomer) (as := [.ref 0, .int (iz ci)]) (rest := []) rfl (m_isCust _ (u1 (u1 (u1 z 0 0) 21 K) 28 M) zl (uf (uf f 8 prr) 9 pu) fl tx  ci M (by first | assumption | omega) hc) (fun v3 h4 q5 => ?_)
  obtain ⟨r_1, rfl, rfl, f2⟩ := q5
  refine Rx.walk 0 (pc' := 10) (L' := [some (.ref 0), some (.int (iz ci)), some (.int (iz k))]) (st' := [.int (iz r_1)]) (h' := cmH (u1 (u1 (u1 z 0 0) 21 K) 28 M) zl (uf (uf f 8 prr) 9 pu) fl tx) rfl ?_
  refine Rx.eq1 rfl rfl ⟨by omega, by omega⟩ (fun b6 => ?_) (fun b6 => ?_)
  · refine Rx.walk 1 (pc' := 27) (L' := [some (.ref 0), some (.int (iz ci)), some (.int (iz k))]) (st' := [.int (iz (-1))]) (h' := cmH (u1 (u1 (u1 z 0 0) 21 K) 28 M) zl (uf (uf f 8 prr) 9 pu) fl tx) rfl ?_
    refine Rx.ret rfl ?_
    exact ⟨_, rfl, rfl, Or.inl ⟨by omega, rfl⟩⟩
  · refine Rx.walk 2 (pc' := 15) (L' := [some (.ref 0), some (.int (iz ci)), some (.int (iz k))]) (st' := [.int (iz (-1)), .int (iz k)]) (h' := cmH (u1 (u1 (u1 z 0 0) 21 K) 28 M) zl (uf (uf f 8 prr) 9 pu) fl tx) rfl ?_
    refine Rx.eq2 rfl rfl ⟨by omega, by omega⟩ ⟨by omega, by omega⟩ (fun b7 => ?_) (fun b7 => ?_)
    · refine Rx.walk 2 (pc' := 30) (L' := [some (.ref 0), some (.int (iz ci)), some (.int (iz k))]) (st' := [.int (iz (-1)), .int (iz k)]) (h' := cmH (u1 (u1 (u1 z 0 0) 21 K) 28 M) zl (uf (uf f 8 prr) 9 pu) fl tx) rfl ?_
      refine Rx.ne2 rfl rfl ⟨by omega, by omega⟩ ⟨by omega, by omega⟩ (fun b8 => ?_) (fun b8 => ?_)
      · refine Rx.walk 4 (pc' := 48) (L' := [some (.ref 0), some (.int (iz ci)), some (.int (iz k))]) (st' := [.int (iz ci), .int (iz 4), .ref 9]) (h' := cmH (u1 (u1 (u1 z 0 0) 21 K) 28 M) zl (uf (uf f 8 prr) 9 pu) fl tx) rfl ?_
        refine Rx.imul rfl ?_
        refine Rx.walk 1 (pc' := 50) (L' := [some (.ref 0), some (.int (iz ci)), some (.int (iz k))]) (st' := [.int (iz k), .int (iz (4 * ci)), .ref 9]) (h' := cmH (u1 (u1 (u1 z 0 0) 21 K) 28 M) zl (uf (uf f 8 prr) 9 pu) fl tx) rfl ?_
        refine Rx.iadd rfl ?_
        refine Rx.ial (g := pu) rfl rfl (by omega) (by omega) (by omega) ?_
        refine Rx.ret rfl ?_
        exact ⟨_, rfl, rfl, Or.inr ⟨by omega, by omega, Or.inr ⟨by omega, by omega, rfl⟩⟩⟩
      · refine Rx.walk 3 (pc' := 38) (L' := [some (.ref 0), some (.int (iz ci)), some (.int (iz k))]) (st' := [.int (iz ci), .ref 8]) (h' := cmH (u1 (u1 (u1 z 0 0) 21 K) 28 M) zl (uf (uf f 8 prr) 9 pu) fl tx) rfl ?_
        refine Rx.ial (g := prr) rfl rfl (by omega) (by omega) (by omega) ?_
        refine Rx.walk 1 (pc' := 52) (L' := [some (.ref 0), some (.int (iz ci)), some (.int (iz k))]) (st' := [.int (iz (prr ci))]) (h' := cmH (u1 (u1 (u1 z 0 0) 21 K) 28 M) zl (uf (uf f 8 prr) 9 pu) fl tx) rfl ?_
        refine Rx.ret rfl ?_
        exact ⟨_, rfl, rfl, Or.inr ⟨by omega, by omega, Or.inl ⟨by omega, rfl⟩⟩⟩
    · refine Rx.walk 2 (pc' := 20) (L' := [some (.ref 0), some (.int (iz ci)), some (.int (iz k))]) (st' := [.int (iz k), .ref 0]) (h' := cmH (u1 (u1 (u1 z 0 0) 21 K) 28 M) zl (uf (uf f 8 prr) 9 pu) fl tx) rfl ?_
      refine Rx.callx (m' := m_X12_isKind) (as := [.ref 0, .int (iz k)]) (rest := []) rfl (m_isKind _ (u1 (u1 (u1 z 0 0) 21 K) 28 M) zl (uf (uf f 8 prr) 9 pu) fl tx  k K (by first | assumption | omega) hk) (fun v11 h12 q13 => ?_)
      obtain ⟨r_9, rfl, rfl, f10⟩ := q13
      refine Rx.walk 0 (pc' := 23) (L' := [some (.ref 0), some (.int (iz ci)), some (.int (iz k))]) (st' := [.int (iz r_9)]) (h' := cmH (u1 (u1 (u1 z 0 0) 21 K) 28 M) zl (uf (uf f 8 prr) 9 pu) fl tx) rfl ?_
      refine Rx.ne1 rfl rfl ⟨by omega, by omega⟩ (fun b14 => ?_) (fun b14 => ?_)
      · refine Rx.walk 2 (pc' := 30) (L' := [some (.ref 0), some (.int (iz ci)), some (.int (iz k))]) (st' := [.int (iz (-1)), .int (iz k)]) (h' := cmH (u1 (u1 (u1 z 0 0) 21 K) 28 M) zl (uf (uf f 8 prr) 9 pu) fl tx) rfl ?_
        refine Rx.ne2 rfl rfl ⟨by omega, by omega⟩ ⟨by omega, by omega⟩ (fun b15 => ?_) (fun b15 => ?_)
        · refine Rx.walk 4 (pc' := 48) (L' := [some (.ref 0), some (.int (iz ci)), some (.int (iz k))]) (st' := [.int (iz ci), .int (iz 4), .ref 9]) (h' := cmH (u1 (u1 (u1 z 0 0) 21 K) 28 M) zl (uf (uf f 8 prr) 9 pu) fl tx) rfl ?_
          refine Rx.imul rfl ?_
          refine Rx.walk 1 (pc' := 50) (L' := [some (.ref 0), some (.int (iz ci)), some (.int (iz k))]) (st' := [.int (iz k), .int (iz (4 * ci)), .ref 9]) (h' := cmH (u1 (u1 (u1 z 0 0) 21 K) 28 M) zl (uf (uf f 8 prr) 9 pu) fl tx) rfl ?_
          refine Rx.iadd rfl ?_
          refine Rx.ial (g := pu) rfl rfl (by omega) (by omega) (by omega) ?_
          refine Rx.ret rfl ?_
          exact ⟨_, rfl, rfl, Or.inr ⟨by omega, by omega, Or.inr ⟨by omega, by omega, rfl⟩⟩⟩
        · refine Rx.walk 3 (pc' := 38) (L' := [some (.ref 0), some (.int (iz ci)), some (.int (iz k))]) (st' := [.int (iz ci), .ref 8]) (h' := cmH (u1 (u1 (u1 z 0 0) 21 K) 28 M) zl (uf (uf f 8 prr) 9 pu) fl tx) rfl ?_
          refine Rx.ial (g := prr) rfl rfl (by omega) (by omega) (by omega) ?_
          refine Rx.walk 1 (pc' := 52) (L' := [some (.ref 0), some (.int (iz ci)), some (.int (iz k))]) (st' := [.int (iz (prr ci))]) (h' := cmH (u1 (u1 (u1 z 0 0) 21 K) 28 M) zl (uf (uf f 8 prr) 9 pu) fl tx) rfl ?_
          refine Rx.ret rfl ?_
          exact ⟨_, rfl, rfl, Or.inr ⟨by omega, by omega, Or.inl ⟨by omega, rfl⟩⟩⟩
      · refine Rx.walk 1 (pc' := 27) (L' := [some (.ref 0), some (.int (iz ci)), some (.int (iz k))]) (st' := [.int (iz (-1))]) (h' := cmH (u1 (u1 (u1 z 0 0) 21 K) 28 M) zl (uf (uf f 8 prr) 9 pu) fl tx) rfl ?_
        refine Rx.ret rfl ?_
        exact ⟨_, rfl, rfl, Or.inl ⟨by omega, rfl⟩⟩
theorem sG_iu2 {gv : Int → Int} {k n : Int} (h : 0 ≤ k) : sG (iu gv k n) (k + 1).toNat = sG gv k.toNat + n := by
  rw [show (k + 1).toNat = k.toNat + 1 by omega]
  show sG (iu gv k n) k.toNat + iu gv k n (k.toNat : Int) = _
  rw [Int.toNat_of_nonneg h, iu_at, sG_congr (gv := iu gv k n) (gv' := gv) (fun i a b => iu_ne _ _ (by omega))]
theorem cdG_s (g b : Int → Int) {k : Int} (h : 0 ≤ k) : cdG g b (k + 1).toNat ↔ (b k < g k ∨ (g k = b k ∧ cdG g b k.toNat)) := by
  rw [show (k + 1).toNat = k.toNat + 1 by omega]
  show (b (k.toNat : Int) < g (k.toNat : Int) ∨ (g (k.toNat : Int) = b (k.toNat : Int) ∧ cdG g b k.toNat)) ↔ _
  rw [Int.toNat_of_nonneg h]
/-- the best gift so far -/
def gsI (w : Int → Int) (K : Int) (S : List Int → Prop) (gm gw : Int) (be : Int → Int) : Prop := (gm = -1 ∧ ∀ l, ¬ S l) ∨ (0 ≤ gm ∧ bsH w S (hG be K.toNat) ∧ gm = sG be K.toNat ∧ gw = sW be (fun j => w (j + 1)) K.toNat ∧ (gw ≤ 10000 ∧ 0 ≤ gw ∧ gm ≤ 100) ∧ ∀ k : Int, 0 ≤ k → k < K → 0 ≤ be k ∧ be k ≤ 4)
theorem gsI_c {w : Int → Int} {K gm gw : Int} {S S' : List Int → Prop} {be : Int → Int} (h : gsI w K S gm gw be) (e : ∀ l, S l ↔ S' l) : gsI w K S' gm gw be := by
  have : S = S' := funext fun l => propext (e l)
  rw [← this]; exact h
/-- the gifts that go on from a beginning -/
def gxS (w : Int → Int) (K pr : Int) (cn ta : Int → Int) (kd : Int) (l : List Int) : Prop := ∃ gv : Int → Int, (∀ j : Int, 0 ≤ j → j < kd → gv j = ta j) ∧ (∀ j : Int, kd ≤ j → j < K → 0 ≤ gv j ∧ gv j ≤ cn j) ∧ pr ≤ sW gv (fun k => w (k + 1)) K.toNat ∧ l = hG gv K.toNat
theorem gxS_n {w : Int → Int} {K pr : Int} {cn ta : Int → Int} {kd n : Int} (h0 : 0 ≤ kd) (l : List Int) : gxS w K pr cn (iu ta kd n) (kd + 1) l ↔ ∃ gv : Int → Int, ((∀ j : Int, 0 ≤ j → j < kd → gv j = ta j) ∧ gv kd = n) ∧ (∀ j : Int, kd + 1 ≤ j → j < K → 0 ≤ gv j ∧ gv j ≤ cn j) ∧ pr ≤ sW gv (fun k => w (k + 1)) K.toNat ∧ l = hG gv K.toNat := by
  constructor
  · rintro ⟨gv, a, b, c⟩
    refine ⟨gv, ⟨fun j j0 j1 => ?_, ?_⟩, b, c⟩
    · rw [a j j0 (by omega), iu_ne _ _ (by omega)]
    · rw [a kd h0 (by omega), iu_at]
  · rintro ⟨gv, ⟨a1, a2⟩, b, c⟩
    refine ⟨gv, fun j j0 j1 => ?_, b, c⟩
    rcases (show j < kd ∨ j = kd by omega) with q | q
    · rw [a1 j j0 q, iu_ne _ _ (by omega)]
    · subst q; rw [a2, iu_at]
/-- those by a first count below n -/
def gxN (w : Int → Int) (K pr : Int) (cn ta : Int → Int) (kd n : Int) (l : List Int) : Prop := ∃ gv : Int → Int, (∀ j : Int, 0 ≤ j → j < kd → gv j = ta j) ∧ (0 ≤ gv kd ∧ gv kd < n) ∧ (∀ j : Int, kd + 1 ≤ j → j < K → 0 ≤ gv j ∧ gv j ≤ cn j) ∧ pr ≤ sW gv (fun k => w (k + 1)) K.toNat ∧ l = hG gv K.toNat
theorem gxN_s {w : Int → Int} {K pr : Int} {cn ta : Int → Int} {kd n : Int} (h0 : 0 ≤ kd) (n0 : 0 ≤ n) (l : List Int) : gxN w K pr cn ta kd (n + 1) l ↔ gxN w K pr cn ta kd n l ∨ gxS w K pr cn (iu ta kd n) (kd + 1) l := by
  rw [gxS_n h0]
  constructor
  · rintro ⟨gv, a, b, c⟩
    rcases (show gv kd < n ∨ gv kd = n by omega) with q | q
    · exact Or.inl ⟨gv, a, ⟨b.1, q⟩, c⟩
    · exact Or.inr ⟨gv, ⟨a, q⟩, c⟩
  · rintro (⟨gv, a, b, c⟩ | ⟨gv, ⟨a, q⟩, c⟩)
    · exact ⟨gv, a, ⟨b.1, by omega⟩, c⟩
    · exact ⟨gv, a, ⟨by omega, by omega⟩, c⟩
theorem gxN_e {w : Int → Int} {K pr : Int} {cn ta : Int → Int} {kd n : Int} (h1 : kd < K) (hn : n = cn kd + 1) (l : List Int) : gxS w K pr cn ta kd l ↔ gxN w K pr cn ta kd n l := by
  constructor
  · rintro ⟨gv, a, b, c⟩
    have := b kd (by omega) h1
    exact ⟨gv, a, ⟨this.1, by omega⟩, fun j j0 j1 => b j (by omega) j1, c⟩
  · rintro ⟨gv, a, b, d, c⟩
    refine ⟨gv, a, fun j j0 j1 => ?_, c⟩
    rcases (show kd + 1 ≤ j ∨ j = kd by omega) with q | q
    · exact d j q j1
    · subst q; exact ⟨b.1, by omega⟩
theorem gxS_K {w : Int → Int} {K pr : Int} {cn ta : Int → Int} (hK : 0 ≤ K) (l : List Int) : gxS w K pr cn ta K l ↔ pr ≤ sW ta (fun k => w (k + 1)) K.toNat ∧ l = hG ta K.toNat := by
  constructor
  · rintro ⟨gv, a, b, c, e⟩
    rw [sW_congr (gv := gv) (gv' := ta) (fun j j0 j1 => a j j0 (by omega))] at c
    rw [hG_congr (gv := gv) (gv' := ta) (fun j j0 j1 => a j j0 (by omega))] at e
    exact ⟨c, e⟩
  · rintro ⟨c, e⟩
    exact ⟨ta, fun _ _ _ => rfl, fun j j0 j1 => by omega, c, e⟩
theorem gxS_t {w : Int → Int} {K pr : Int} {cn ta ta' : Int → Int} {kd : Int} (h : ∀ j : Int, 0 ≤ j → j < kd → ta' j = ta j) (l : List Int) : gxS w K pr cn ta' kd l ↔ gxS w K pr cn ta kd l := by
  constructor
  · rintro ⟨gv, a, b⟩
    exact ⟨gv, fun j j0 j1 => (a j j0 j1).trans (h j j0 j1), b⟩
  · rintro ⟨gv, a, b⟩
    exact ⟨gv, fun j j0 j1 => (a j j0 j1).trans (h j j0 j1).symm, b⟩
set_option maxRecDepth 100000 in
set_option maxHeartbeats 4000000 in
theorem m_better_l (d : Nat) (z : Nat → Int) (zl : Nat → Int) (f : Nat → Int → Int) (fl : Nat → Int → Int) (tx : Nat)  (c : Int) (wo : Int) (mn : Int) (K : Int) (gw : Int) (gm : Int) (be : Int → Int) (ta : Int → Int) (hK : 1 ≤ K ∧ K ≤ 4) (hwo : 0 ≤ wo ∧ wo ≤ 10000) (hmn : 0 ≤ mn ∧ mn ≤ 100) (hgg : -1 ≤ gm ∧ gm ≤ 100 ∧ (gm ≠ -1 → 0 ≤ gw ∧ gw ≤ 10000)) (hta : ∀ k : Int, 0 ≤ k → k < K → 0 ≤ ta k ∧ ta k ≤ 4) (hbe : gm ≠ -1 → ∀ k : Int, 0 ≤ k → k < K → 0 ≤ be k ∧ be k ≤ 4) (hgm : gm ≠ -1) (P : Option Value → AmH → Prop) (hx0 : ∀ (r : Int), ((r = 1 ∧ cdG ta be K.toNat) ∨ (r = 0 ∧ ¬ cdG ta be K.toNat)) → P (some (.int (iz r))) (cmH (u1 (u1 (u1 z 21 K) 48 gw) 49 gm) zl (uf (uf f 23 be) 24 ta) fl tx)) : ∀ (kF : Nat) (k : Int), (-1 ≤ k) → (k < K) → (cdG ta be K.toNat ↔ cdG ta be (k + 1).toNat) → (k + 1) < (kF : Int) → Rx (d) m_X12_isBetterGift 62 [some (.ref 0), some (.int (iz c)), some (.int (iz wo)), some (.int (iz mn)), some (.ref 24), some (.int (iz k))] [] (cmH (u1 (u1 (u1 z 21 K) 48 gw) 49 gm) zl (uf (uf f 23 be) 24 ta) fl tx) P := by
  intro kF
  induction kF with
  | zero =>
    intro k k0 k1 hE hk
    exfalso; omega
  | succ kF ih =>
    intro k k0 k1 hE hk
    refine Rx.walk 1 (pc' := 64) (L' := [some (.ref 0), some (.int (iz c)), some (.int (iz wo)), some (.int (iz mn)), some (.ref 24), some (.int (iz k))]) (st' := [.int (iz k)]) (h' := cmH (u1 (u1 (u1 z 21 K) 48 gw) 49 gm) zl (uf (uf f 23 be) 24 ta) fl tx) rfl ?_
    refine Rx.lt1 rfl rfl ⟨by omega, by omega⟩ (fun b1 => ?_) (fun b1 => ?_)
    · refine Rx.walk 1 (pc' := 110) (L' := [some (.ref 0), some (.int (iz c)), some (.int (iz wo)), some (.int (iz mn)), some (.ref 24), some (.int (iz k))]) (st' := [.int (iz 0)]) (h' := cmH (u1 (u1 (u1 z 21 K) 48 gw) 49 gm) zl (uf (uf f 23 be) 24 ta) fl tx) rfl ?_
      refine Rx.ret rfl ?_
      exact hx0 _ (Or.inr ⟨rfl, by rw [hE, show (k + 1).toNat = 0 by omega]; exact id⟩)
    · refine Rx.walk 2 (pc' := 71) (L' := [some (.ref 0), some (.int (iz c)), some (.int (iz wo)), some (.int (iz mn)), some (.ref 24), some (.int (iz k))]) (st' := [.int (iz k), .ref 24]) (h' := cmH (u1 (u1 (u1 z 21 K) 48 gw) 49 gm) zl (uf (uf f 23 be) 24 ta) fl tx) rfl ?_
      refine Rx.ial (g := ta) rfl rfl (by omega) (by omega) (by omega) ?_
      have y1 := hta k (by omega) k1
      refine Rx.walk 3 (pc' := 78) (L' := [some (.ref 0), some (.int (iz c)), some (.int (iz wo)), some (.int (iz mn)), some (.ref 24), some (.int (iz k))]) (st' := [.int (iz k), .ref 23, .int (iz (ta k))]) (h' := cmH (u1 (u1 (u1 z 21 K) 48 gw) 49 gm) zl (uf (uf f 23 be) 24 ta) fl tx) rfl ?_
      refine Rx.ial (g := be) rfl rfl (by omega) (by omega) (by omega) ?_
      have y2 := hbe hgm k (by omega) k1
      refine Rx.eq2 rfl rfl ⟨by omega, by omega⟩ ⟨by omega, by omega⟩ (fun b2 => ?_) (fun b2 => ?_)
      · refine Rx.iinc (b := -1) rfl rfl rfl ?_
        refine Rx.walk 0 (pc' := 106) (L' := [some (.ref 0), some (.int (iz c)), some (.int (iz wo)), some (.int (iz mn)), some (.ref 24), some (.int (iz (k + (-1))))]) (st' := []) (h' := cmH (u1 (u1 (u1 z 21 K) 48 gw) 49 gm) zl (uf (uf f 23 be) 24 ta) fl tx) rfl ?_
        refine Rx.walk 1 (pc' := 62) (L' := [some (.ref 0), some (.int (iz c)), some (.int (iz wo)), some (.int (iz mn)), some (.ref 24), some (.int (iz (k + (-1))))]) (st' := []) (h' := cmH (u1 (u1 (u1 z 21 K) 48 gw) 49 gm) zl (uf (uf f 23 be) 24 ta) fl tx) rfl ?_
        exact ih (k + (-1)) (by first | assumption | omega) (by first | assumption | omega) (by rw [hE, cdG_s ta be (by omega), show k + -1 + 1 = k by omega]; exact ⟨fun q => q.elim (fun q => by omega) (fun q => q.2), fun q => Or.inr ⟨by omega, q⟩⟩) (by first | assumption | omega) 
      · refine Rx.walk 2 (pc' := 86) (L' := [some (.ref 0), some (.int (iz c)), some (.int (iz wo)), some (.int (iz mn)), some (.ref 24), some (.int (iz k))]) (st' := [.int (iz k), .ref 24]) (h' := cmH (u1 (u1 (u1 z 21 K) 48 gw) 49 gm) zl (uf (uf f 23 be) 24 ta) fl tx) rfl ?_
        refine Rx.ial (g := ta) rfl rfl (by omega) (by omega) (by omega) ?_
        have y3 := hta k (by omega) k1
        refine Rx.walk 3 (pc' := 93) (L' := [some (.ref 0), some (.int (iz c)), some (.int (iz wo)), some (.int (iz mn)), some (.ref 24), some (.int (iz k))]) (st' := [.int (iz k), .ref 23, .int (iz (ta k))]) (h' := cmH (u1 (u1 (u1 z 21 K) 48 gw) 49 gm) zl (uf (uf f 23 be) 24 ta) fl tx) rfl ?_
        refine Rx.ial (g := be) rfl rfl (by omega) (by omega) (by omega) ?_
        have y4 := hbe hgm k (by omega) k1
        refine Rx.le2 rfl rfl ⟨by omega, by omega⟩ ⟨by omega, by omega⟩ (fun b3 => ?_) (fun b3 => ?_)
        · refine Rx.walk 1 (pc' := 102) (L' := [some (.ref 0), some (.int (iz c)), some (.int (iz wo)), some (.int (iz mn)), some (.ref 24), some (.int (iz k))]) (st' := [.int (iz 0)]) (h' := cmH (u1 (u1 (u1 z 21 K) 48 gw) 49 gm) zl (uf (uf f 23 be) 24 ta) fl tx) rfl ?_
          refine Rx.ret rfl ?_
          exact hx0 _ (Or.inr ⟨rfl, by rw [hE, cdG_s ta be (by omega)]; rintro (q | ⟨q, -⟩) <;> omega⟩)
        · refine Rx.walk 2 (pc' := 102) (L' := [some (.ref 0), some (.int (iz c)), some (.int (iz wo)), some (.int (iz mn)), some (.ref 24), some (.int (iz k))]) (st' := [.int (iz 1)]) (h' := cmH (u1 (u1 (u1 z 21 K) 48 gw) 49 gm) zl (uf (uf f 23 be) 24 ta) fl tx) rfl ?_
          refine Rx.ret rfl ?_
          exact hx0 _ (Or.inl ⟨rfl, by rw [hE, cdG_s ta be (by omega)]; exact Or.inl (by omega)⟩)
set_option maxRecDepth 100000 in
set_option maxHeartbeats 4000000 in
theorem m_better (d : Nat) (z : Nat → Int) (zl : Nat → Int) (f : Nat → Int → Int) (fl : Nat → Int → Int) (tx : Nat)  (c : Int) (wo : Int) (mn : Int) (K : Int) (gw : Int) (gm : Int) (be : Int → Int) (ta : Int → Int) (hK : 1 ≤ K ∧ K ≤ 4) (hwo : 0 ≤ wo ∧ wo ≤ 10000) (hmn : 0 ≤ mn ∧ mn ≤ 100) (hgg : -1 ≤ gm ∧ gm ≤ 100 ∧ (gm ≠ -1 → 0 ≤ gw ∧ gw ≤ 10000)) (hta : ∀ k : Int, 0 ≤ k → k < K → 0 ≤ ta k ∧ ta k ≤ 4) (hbe : gm ≠ -1 → ∀ k : Int, 0 ≤ k → k < K → 0 ≤ be k ∧ be k ≤ 4) : Rx (d) m_X12_isBetterGift 0 (am_ent [.ref 0, .int (iz c), .int (iz wo), .int (iz mn), .ref 24] 6) [] (cmH (u1 (u1 (u1 z 21 K) 48 gw) 49 gm) zl (uf (uf f 23 be) 24 ta) fl tx) (fun rv h => ∃ r : Int, rv = some (.int (iz r)) ∧ h = cmH (u1 (u1 (u1 z 21 K) 48 gw) 49 gm) zl (uf (uf f 23 be) 24 ta) fl tx ∧ ((r = 1 ∧ (gm = -1 ∨ wo < gw ∨ (wo = gw ∧ (mn < gm ∨ (mn = gm ∧ cdG ta be K.toNat))))) ∨ (r = 0 ∧ ¬ (gm = -1 ∨ wo < gw ∨ (wo = gw ∧ (mn < gm ∨ (mn = gm ∧ cdG ta be K.toNat))))))) := by
  obtain ⟨hg1, hg2, hg3⟩ := id hgg
  refine Rx.walk 0 (pc' := 0) (L' := [some (.ref 0), some (.int (iz c)), some (.int (iz wo)), some (.int (iz mn)), some (.ref 24), none]) (st' := []) (h' := cmH (u1 (u1 (u1 z 21 K) 48 gw) 49 gm) zl (uf (uf f 23 be) 24 ta) fl tx) rfl ?_
  refine Rx.walk 3 (pc' := 5) (L' := [some (.ref 0), some (.int (iz c)), some (.int (iz wo)), some (.int (iz mn)), some (.ref 24), none]) (st' := [.int (iz (-1)), .int (iz gm)]) (h' := cmH (u1 (u1 (u1 z 21 K) 48 gw) 49 gm) zl (uf (uf f 23 be) 24 ta) fl tx) rfl ?_
  refine Rx.ne2 rfl rfl ⟨by omega, by omega⟩ ⟨by omega, by omega⟩ (fun b1 => ?_) (fun b1 => ?_)
  · have hgq := hg3 (by omega)
    refine Rx.walk 3 (pc' := 15) (L' := [some (.ref 0), some (.int (iz c)), some (.int (iz wo)), some (.int (iz mn)), some (.ref 24), none]) (st' := [.int (iz gw), .int (iz wo)]) (h' := cmH (u1 (u1 (u1 z 21 K) 48 gw) 49 gm) zl (uf (uf f 23 be) 24 ta) fl tx) rfl ?_
    refine Rx.eq2 rfl rfl ⟨by omega, by omega⟩ ⟨by omega, by omega⟩ (fun b2 => ?_) (fun b2 => ?_)
    · refine Rx.walk 3 (pc' := 37) (L' := [some (.ref 0), some (.int (iz c)), some (.int (iz wo)), some (.int (iz mn)), some (.ref 24), none]) (st' := [.int (iz gm), .int (iz mn)]) (h' := cmH (u1 (u1 (u1 z 21 K) 48 gw) 49 gm) zl (uf (uf f 23 be) 24 ta) fl tx) rfl ?_
      refine Rx.eq2 rfl rfl ⟨by omega, by omega⟩ ⟨by omega, by omega⟩ (fun b3 => ?_) (fun b3 => ?_)
      · refine Rx.walk 3 (pc' := 59) (L' := [some (.ref 0), some (.int (iz c)), some (.int (iz wo)), some (.int (iz mn)), some (.ref 24), none]) (st' := [.int (iz 1), .int (iz K)]) (h' := cmH (u1 (u1 (u1 z 21 K) 48 gw) 49 gm) zl (uf (uf f 23 be) 24 ta) fl tx) rfl ?_
        refine Rx.isub rfl ?_
        refine Rx.walk 1 (pc' := 62) (L' := [some (.ref 0), some (.int (iz c)), some (.int (iz wo)), some (.int (iz mn)), some (.ref 24), some (.int (iz (K - 1)))]) (st' := []) (h' := cmH (u1 (u1 (u1 z 21 K) 48 gw) 49 gm) zl (uf (uf f 23 be) 24 ta) fl tx) rfl ?_
        refine m_better_l _ (u1 (u1 (u1 z 21 K) 48 gw) 49 gm) zl (uf (uf f 23 be) 24 ta) fl tx  c wo mn K gw gm be ta hK hwo hmn hgg hta hbe (by omega) _ ?_ (((K - 1) + 1) + 1 : Int).toNat (K - 1) (by first | assumption | omega) (by first | assumption | omega) (by rw [show K - 1 + 1 = K by omega]) (by omega) 
        intro r_4 f5
        show (fun (rv : Option Value) (h : AmH) => ∃ r : Int, rv = some (.int (iz r)) ∧ h = cmH (u1 (u1 (u1 z 21 K) 48 gw) 49 gm) zl (uf (uf f 23 be) 24 ta) fl tx ∧ ((r = 1 ∧ (gm = -1 ∨ wo < gw ∨ (wo = gw ∧ (mn < gm ∨ (mn = gm ∧ cdG ta be K.toNat))))) ∨ (r = 0 ∧ ¬ (gm = -1 ∨ wo < gw ∨ (wo = gw ∧ (mn < gm ∨ (mn = gm ∧ cdG ta be K.toNat))))))) (some (Value.int (iz r_4))) (cmH (u1 (u1 (u1 z 21 K) 48 gw) 49 gm) zl (uf (uf f 23 be) 24 ta) fl tx)
        refine ⟨_, rfl, rfl, ?_⟩
        rcases f5 with ⟨q1, q2⟩ | ⟨q1, q2⟩
        · exact Or.inl ⟨q1, Or.inr (Or.inr ⟨by omega, Or.inr ⟨by omega, q2⟩⟩)⟩
        · refine Or.inr ⟨q1, ?_⟩
          rintro (q | q | ⟨q, z | ⟨-, z⟩⟩)
          · omega
          · omega
          · omega
          · exact q2 z
      · refine Rx.walk 3 (pc' := 45) (L' := [some (.ref 0), some (.int (iz c)), some (.int (iz wo)), some (.int (iz mn)), some (.ref 24), none]) (st' := [.int (iz gm), .int (iz mn)]) (h' := cmH (u1 (u1 (u1 z 21 K) 48 gw) 49 gm) zl (uf (uf f 23 be) 24 ta) fl tx) rfl ?_
        refine Rx.ge2 rfl rfl ⟨by omega, by omega⟩ ⟨by omega, by omega⟩ (fun b6 => ?_) (fun b6 => ?_)
        · refine Rx.walk 1 (pc' := 53) (L' := [some (.ref 0), some (.int (iz c)), some (.int (iz wo)), some (.int (iz mn)), some (.ref 24), none]) (st' := [.int (iz 0)]) (h' := cmH (u1 (u1 (u1 z 21 K) 48 gw) 49 gm) zl (uf (uf f 23 be) 24 ta) fl tx) rfl ?_
          refine Rx.ret rfl ?_
          refine ⟨_, rfl, rfl, Or.inr ⟨rfl, ?_⟩⟩
          rintro (q | q | ⟨q, z | ⟨z, -⟩⟩) <;> omega
        · refine Rx.walk 2 (pc' := 53) (L' := [some (.ref 0), some (.int (iz c)), some (.int (iz wo)), some (.int (iz mn)), some (.ref 24), none]) (st' := [.int (iz 1)]) (h' := cmH (u1 (u1 (u1 z 21 K) 48 gw) 49 gm) zl (uf (uf f 23 be) 24 ta) fl tx) rfl ?_
          refine Rx.ret rfl ?_
          exact ⟨_, rfl, rfl, Or.inl ⟨rfl, Or.inr (Or.inr ⟨by omega, Or.inl (by omega)⟩)⟩⟩
    · refine Rx.walk 3 (pc' := 23) (L' := [some (.ref 0), some (.int (iz c)), some (.int (iz wo)), some (.int (iz mn)), some (.ref 24), none]) (st' := [.int (iz gw), .int (iz wo)]) (h' := cmH (u1 (u1 (u1 z 21 K) 48 gw) 49 gm) zl (uf (uf f 23 be) 24 ta) fl tx) rfl ?_
      refine Rx.ge2 rfl rfl ⟨by omega, by omega⟩ ⟨by omega, by omega⟩ (fun b7 => ?_) (fun b7 => ?_)
      · refine Rx.walk 1 (pc' := 31) (L' := [some (.ref 0), some (.int (iz c)), some (.int (iz wo)), some (.int (iz mn)), some (.ref 24), none]) (st' := [.int (iz 0)]) (h' := cmH (u1 (u1 (u1 z 21 K) 48 gw) 49 gm) zl (uf (uf f 23 be) 24 ta) fl tx) rfl ?_
        refine Rx.ret rfl ?_
        refine ⟨_, rfl, rfl, Or.inr ⟨rfl, ?_⟩⟩
        rintro (q | q | ⟨q, z | ⟨z, -⟩⟩) <;> omega
      · refine Rx.walk 2 (pc' := 31) (L' := [some (.ref 0), some (.int (iz c)), some (.int (iz wo)), some (.int (iz mn)), some (.ref 24), none]) (st' := [.int (iz 1)]) (h' := cmH (u1 (u1 (u1 z 21 K) 48 gw) 49 gm) zl (uf (uf f 23 be) 24 ta) fl tx) rfl ?_
        refine Rx.ret rfl ?_
        exact ⟨_, rfl, rfl, Or.inl ⟨rfl, Or.inr (Or.inl (by omega))⟩⟩
  · refine Rx.walk 1 (pc' := 9) (L' := [some (.ref 0), some (.int (iz c)), some (.int (iz wo)), some (.int (iz mn)), some (.ref 24), none]) (st' := [.int (iz 1)]) (h' := cmH (u1 (u1 (u1 z 21 K) 48 gw) 49 gm) zl (uf (uf f 23 be) 24 ta) fl tx) rfl ?_
    refine Rx.ret rfl ?_
    exact ⟨_, rfl, rfl, Or.inl ⟨rfl, Or.inl (by omega)⟩⟩
set_option maxRecDepth 100000 in
set_option maxHeartbeats 4000000 in
theorem m_goGift_c (d : Nat) (z : Nat → Int) (zl : Nat → Int) (f : Nat → Int → Int) (fl : Nat → Int → Int) (tx : Nat)  (c : Int) (kd : Int) (wo : Int) (mn : Int) (K : Int) (ta : Int → Int) (hK : 1 ≤ K ∧ K ≤ 4) (hta : ∀ k : Int, 0 ≤ k → k < K → 0 ≤ ta k ∧ ta k ≤ 4) (P : Option Value → AmH → Prop) (hx0 : ∀ (be' : Int → Int), (∀ j : Int, 0 ≤ j → j < K → be' j = ta j) → P (none) (cmH (u1 z 21 K) zl (uf (uf f 23 be') 24 ta) fl tx)) : ∀ (kF : Nat) (k : Int) (be : Int → Int), (0 ≤ k) → (k ≤ K) → (∀ j : Int, 0 ≤ j → j < k → be j = ta j) → (K - k) < (kF : Int) → Rx (d) m_X12_goGift 48 [some (.ref 0), some (.int (iz c)), some (.int (iz kd)), some (.int (iz wo)), some (.int (iz mn)), some (.int (iz k))] [] (cmH (u1 z 21 K) zl (uf (uf f 23 be) 24 ta) fl tx) P := by
  intro kF
  induction kF with
  | zero =>
    intro k be k0 k1 hj hk
    exfalso; omega
  | succ kF ih =>
    intro k be k0 k1 hj hk
    refine Rx.walk 3 (pc' := 54) (L' := [some (.ref 0), some (.int (iz c)), some (.int (iz kd)), some (.int (iz wo)), some (.int (iz mn)), some (.int (iz k))]) (st' := [.int (iz K), .int (iz k)]) (h' := cmH (u1 z 21 K) zl (uf (uf f 23 be) 24 ta) fl tx) rfl ?_
    refine Rx.ge2 rfl rfl ⟨by omega, by omega⟩ ⟨by omega, by omega⟩ (fun b1 => ?_) (fun b1 => ?_)
    · refine Rx.ret rfl ?_
      exact hx0 _ (by rw [show k = K by omega] at hj; exact hj)
    · refine Rx.walk 6 (pc' := 69) (L' := [some (.ref 0), some (.int (iz c)), some (.int (iz kd)), some (.int (iz wo)), some (.int (iz mn)), some (.int (iz k))]) (st' := [.int (iz k), .ref 24, .int (iz k), .ref 23]) (h' := cmH (u1 z 21 K) zl (uf (uf f 23 be) 24 ta) fl tx) rfl ?_
      refine Rx.ial (g := ta) rfl rfl (by omega) (by omega) (by omega) ?_
      have y := hta k k0 (by omega)
      refine Rx.ias (g := be) (h' := cmH (u1 z 21 K) zl (uf (uf f 23 (iu be k (ta k))) 24 ta) fl tx) rfl rfl (by omega) (by omega) (by omega) rfl ?_
      refine Rx.iinc (b := 1) rfl rfl rfl ?_
      refine Rx.walk 0 (pc' := 74) (L' := [some (.ref 0), some (.int (iz c)), some (.int (iz kd)), some (.int (iz wo)), some (.int (iz mn)), some (.int (iz (k + 1)))]) (st' := []) (h' := cmH (u1 z 21 K) zl (uf (uf f 23 (iu be k (ta k))) 24 ta) fl tx) rfl ?_
      refine Rx.walk 1 (pc' := 48) (L' := [some (.ref 0), some (.int (iz c)), some (.int (iz kd)), some (.int (iz wo)), some (.int (iz mn)), some (.int (iz (k + 1)))]) (st' := []) (h' := cmH (u1 z 21 K) zl (uf (uf f 23 (iu be k (ta k))) 24 ta) fl tx) rfl ?_
      exact ih (k + 1) (iu be k (ta k)) (by first | assumption | omega) (by first | assumption | omega) (fun j a b => by by_cases e : j = k; (rw [e, iu_at]); (rw [iu_ne _ _ e]; exact hj j a (by omega))) (by first | assumption | omega) 
set_option maxRecDepth 100000 in
set_option maxHeartbeats 4000000 in
theorem m_goGift0 (d : Nat) (z : Nat → Int) (zl : Nat → Int) (f : Nat → Int → Int) (fl : Nat → Int → Int) (tx : Nat)  (c : Int) (kd : Int) (wo : Int) (mn : Int) (K : Int) (va : Int → Int) (prr : Int → Int) (pu : Int → Int) (w : Int → Int) (S : List Int → Prop) (gw : Int) (gm : Int) (be : Int → Int) (ta : Int → Int) (hc : 0 ≤ c ∧ c ≤ 4) (hK : 1 ≤ K ∧ K ≤ 4) (hva : ∀ k : Int, 0 ≤ k → k < K → va k = w (k + 1)) (hw : wOK w) (hcn : ∀ k : Int, 0 ≤ k → k < K → 0 ≤ pu (4 * c + k) ∧ pu (4 * c + k) ≤ 4) (hpr : 1 ≤ prr c ∧ prr c ≤ 99) (hkd : 0 ≤ kd ∧ kd + 0 = K) (hwo : wo = sW ta (fun j => w (j + 1)) kd.toNat) (hmn : mn = sG ta kd.toNat) (hwb : 0 ≤ wo ∧ wo ≤ 396 * kd) (hmb : 0 ≤ mn ∧ mn ≤ 4 * kd) (hta : ∀ k : Int, 0 ≤ k → k < kd → 0 ≤ ta k ∧ ta k ≤ 4) (hS : gsI w K S gm gw be) : Rx (d + 1) m_X12_goGift 0 (am_ent [.ref 0, .int (iz c), .int (iz kd), .int (iz wo), .int (iz mn)] 6) [] (cmH (u1 (u1 (u1 z 21 K) 48 gw) 49 gm) zl (uf (uf (uf (uf (uf f 5 va) 8 prr) 9 pu) 23 be) 24 ta) fl tx) (fun rv h => ∃ gw' : Int, ∃ gm' : Int, ∃ be' : Int → Int, ∃ ta' : Int → Int, rv = none ∧ h = cmH (u1 (u1 (u1 z 21 K) 48 gw') 49 gm') zl (uf (uf (uf (uf (uf f 5 va) 8 prr) 9 pu) 23 be') 24 ta') fl tx ∧ (gsI w K (fun l => S l ∨ gxS w K (prr c) (fun k => pu (4 * c + k)) ta kd l) gm' gw' be') ∧ (∀ k : Int, 0 ≤ k → k < kd → ta' k = ta k)) := by
  have hgb : -1 ≤ gm ∧ gm ≤ 100 ∧ (gm ≠ -1 → 0 ≤ gw ∧ gw ≤ 10000) := by rcases hS with q | q; (have := q.1; exact ⟨by omega, by omega, fun z => absurd q.1 z⟩); (have := q.2.2.2.2.1; have := q.1; exact ⟨by omega, by omega, fun _ => ⟨by omega, by omega⟩⟩)
  obtain ⟨hg1, hg2, hg3⟩ := id hgb
  refine Rx.walk 0 (pc' := 0) (L' := [some (.ref 0), some (.int (iz c)), some (.int (iz kd)), some (.int (iz wo)), some (.int (iz mn)), none]) (st' := []) (h' := cmH (u1 (u1 (u1 z 21 K) 48 gw) 49 gm) zl (uf (uf (uf (uf (uf f 5 va) 8 prr) 9 pu) 23 be) 24 ta) fl tx) rfl ?_
  refine Rx.walk 3 (pc' := 5) (L' := [some (.ref 0), some (.int (iz c)), some (.int (iz kd)), some (.int (iz wo)), some (.int (iz mn)), none]) (st' := [.int (iz K), .int (iz kd)]) (h' := cmH (u1 (u1 (u1 z 21 K) 48 gw) 49 gm) zl (uf (uf (uf (uf (uf f 5 va) 8 prr) 9 pu) 23 be) 24 ta) fl tx) rfl ?_
  refine Rx.ne2 rfl rfl ⟨by omega, by omega⟩ ⟨by omega, by omega⟩ (fun b1 => by omega) (fun b1 => ?_)
  refine Rx.walk 4 (pc' := 14) (L' := [some (.ref 0), some (.int (iz c)), some (.int (iz kd)), some (.int (iz wo)), some (.int (iz mn)), none]) (st' := [.int (iz c), .ref 8, .int (iz wo)]) (h' := cmH (u1 (u1 (u1 z 21 K) 48 gw) 49 gm) zl (uf (uf (uf (uf (uf f 5 va) 8 prr) 9 pu) 23 be) 24 ta) fl tx) rfl ?_
  refine Rx.ial (g := prr) rfl rfl (by omega) (by omega) (by omega) ?_
  refine Rx.lt2 rfl rfl ⟨by omega, by omega⟩ ⟨by omega, by omega⟩ (fun b2 => ?_) (fun b2 => ?_)
  · refine Rx.ret rfl ?_
    obtain rfl : kd = K := by omega
    exact ⟨_, _, _, _, rfl, rfl, gsI_c hS (fun l => by rw [gxS_K (by omega), ← hwo]; exact ⟨Or.inl, fun q => q.elim id (fun q => by omega)⟩), fun _ _ _ => rfl⟩
  · refine Rx.walk 6 (pc' := 27) (L' := [some (.ref 0), some (.int (iz c)), some (.int (iz kd)), some (.int (iz wo)), some (.int (iz mn)), none]) (st' := [.ref 24, .int (iz mn), .int (iz wo), .int (iz c), .ref 0]) (h' := cmH (u1 (u1 (u1 z 21 K) 48 gw) 49 gm) zl (uf (uf (uf (uf (uf f 5 va) 8 prr) 9 pu) 23 be) 24 ta) fl tx) rfl ?_
    refine Rx.callx (m' := m_X12_isBetterGift) (as := [.ref 0, .int (iz c), .int (iz wo), .int (iz mn), .ref 24]) (rest := []) rfl (m_better _ (u1 (u1 (u1 z 21 K) 48 gw) 49 gm) zl (uf (uf (uf (uf (uf f 5 va) 8 prr) 9 pu) 23 be) 24 ta) fl tx  c wo mn K gw gm be ta (by first | assumption | omega) ⟨by omega, by omega⟩ ⟨by omega, by omega⟩ hgb (fun k a b => hta k a (by omega)) (fun q => by rcases hS with z | z; exact absurd z.1 q; exact z.2.2.2.2.2)) (fun v5 h6 q7 => ?_)
    obtain ⟨r_3, rfl, rfl, f4⟩ := q7
    refine Rx.walk 0 (pc' := 30) (L' := [some (.ref 0), some (.int (iz c)), some (.int (iz kd)), some (.int (iz wo)), some (.int (iz mn)), none]) (st' := [.int (iz r_3)]) (h' := cmH (u1 (u1 (u1 z 21 K) 48 gw) 49 gm) zl (uf (uf (uf (uf (uf f 5 va) 8 prr) 9 pu) 23 be) 24 ta) fl tx) rfl ?_
    refine Rx.ne1 rfl rfl ⟨by omega, by omega⟩ (fun b8 => ?_) (fun b8 => ?_)
    · refine Rx.walk 8 (pc' := 48) (L' := [some (.ref 0), some (.int (iz c)), some (.int (iz kd)), some (.int (iz wo)), some (.int (iz mn)), some (.int (iz 0))]) (st' := []) (h' := cmH (u1 (u1 (u1 z 21 K) 48 wo) 49 mn) zl (uf (uf (uf (uf (uf f 5 va) 8 prr) 9 pu) 23 be) 24 ta) fl tx) rfl ?_
      refine m_goGift_c _ (u1 (u1 (u1 z 21 K) 48 wo) 49 mn) zl (uf (uf (uf (uf (uf f 5 va) 8 prr) 9 pu) 23 be) 24 ta) fl tx  c kd wo mn K ta hK (fun k a b => hta k a (by omega)) _ ?_ ((K - 0) + 1 : Int).toNat 0 be (by first | assumption | omega) (by first | assumption | omega) (fun j a b => by omega) (by omega) 
      intro be_9 f10
      show (fun (rv : Option Value) (h : AmH) => ∃ gw' : Int, ∃ gm' : Int, ∃ be' : Int → Int, ∃ ta' : Int → Int, rv = none ∧ h = cmH (u1 (u1 (u1 z 21 K) 48 gw') 49 gm') zl (uf (uf (uf (uf (uf f 5 va) 8 prr) 9 pu) 23 be') 24 ta') fl tx ∧ (gsI w K (fun l => S l ∨ gxS w K (prr c) (fun k => pu (4 * c + k)) ta kd l) gm' gw' be') ∧ (∀ k : Int, 0 ≤ k → k < kd → ta' k = ta k)) (none) (cmH (u1 (u1 (u1 z 21 K) 48 wo) 49 mn) zl (uf (uf (uf (uf (uf f 5 va) 8 prr) 9 pu) 23 be_9) 24 ta) fl tx)
      obtain rfl : kd = K := by omega
      have hyb := (show _ from by rcases f4 with q | q; exact q.2; (exfalso; omega) : (gm = -1 ∨ wo < gw ∨ (wo = gw ∧ (mn < gm ∨ (mn = gm ∧ cdG ta be kd.toNat)))))
      have eh : hG be_9 kd.toNat = hG ta kd.toNat := hG_congr (fun j a b => f10 j a (by omega))
      have e1 : sG be_9 kd.toNat = sG ta kd.toNat := sG_congr (fun j a b => f10 j a (by omega))
      have e2 : sW be_9 (fun j => w (j + 1)) kd.toNat = sW ta (fun j => w (j + 1)) kd.toNat := sW_congr (fun j a b => f10 j a (by omega))
      refine ⟨_, _, _, _, rfl, rfl, Or.inr ⟨by omega, ?_, by rw [e1]; exact hmn, by rw [e2]; exact hwo, ⟨by omega, by omega, by omega⟩, fun k a b => by rw [f10 k a b]; exact hta k a b⟩, fun _ _ _ => rfl⟩
      rw [eh]
      refine bsH_c (S := fun x => S x ∨ x = hG ta kd.toNat) ?_ (fun l => by rw [gxS_K (by omega), ← hwo]; exact ⟨fun q => q.imp id (fun q => ⟨by omega, q⟩), fun q => q.imp id (fun q => q.2)⟩)
      rcases hS with ⟨z1, z2⟩ | ⟨z1, z2, z3, z4, z5, z6⟩
      · exact bsH_1 z2
      · refine bsH_n z2 ?_
        rw [betL_cnt (fun i a b => ⟨(hta i a (by omega)).1, (z6 i a (by omega)).1⟩), ← hwo, ← hmn, ← z3, ← z4]
        exact hyb.elim (fun q => by omega) id
    · refine Rx.ret rfl ?_
      obtain rfl : kd = K := by omega
      refine ⟨_, _, _, _, rfl, rfl, ?_, fun _ _ _ => rfl⟩
      have hnb := (show ¬ _ from by rcases f4 with q | q; (exfalso; omega); exact q.2)
      rcases hS with ⟨z1, z2⟩ | ⟨z1, z2, z3, z4, z5, z6⟩
      · exact absurd (Or.inl z1) hnb
      · refine Or.inr ⟨z1, bsH_c (bsH_k (l := hG ta kd.toNat) z2 ?_) (fun l => ?_), z3, z4, z5, z6⟩
        · rw [betL_cnt (fun i a b => ⟨(hta i a (by omega)).1, (z6 i a (by omega)).1⟩), ← hwo, ← hmn, ← z3, ← z4]
          exact fun q => hnb (Or.inr q)
        · rw [gxS_K (by omega), ← hwo]; exact ⟨fun q => q.imp id (fun q => ⟨by omega, q⟩), fun q => q.imp id (fun q => q.2)⟩
set_option maxRecDepth 100000 in
set_option maxHeartbeats 4000000 in
theorem m_goGift1_l (d : Nat) (z : Nat → Int) (zl : Nat → Int) (f : Nat → Int → Int) (fl : Nat → Int → Int) (tx : Nat)  (c : Int) (kd : Int) (wo : Int) (mn : Int) (K : Int) (va : Int → Int) (prr : Int → Int) (pu : Int → Int) (w : Int → Int) (S : List Int → Prop) (ta0 : Int → Int) (hc : 0 ≤ c ∧ c ≤ 4) (hK : 1 ≤ K ∧ K ≤ 4) (hva : ∀ k : Int, 0 ≤ k → k < K → va k = w (k + 1)) (hw : wOK w) (hcn : ∀ k : Int, 0 ≤ k → k < K → 0 ≤ pu (4 * c + k) ∧ pu (4 * c + k) ≤ 4) (hpr : 1 ≤ prr c ∧ prr c ≤ 99) (hkd : 0 ≤ kd ∧ kd + 1 = K) (hwo : wo = sW ta0 (fun j => w (j + 1)) kd.toNat) (hmn : mn = sG ta0 kd.toNat) (hwb : 0 ≤ wo ∧ wo ≤ 396 * kd) (hmb : 0 ≤ mn ∧ mn ≤ 4 * kd) (hta : ∀ k : Int, 0 ≤ k → k < kd → 0 ≤ ta0 k ∧ ta0 k ≤ 4) (P : Option Value → AmH → Prop) (hx0 : ∀ (gw' : Int) (gm' : Int) (be' : Int → Int) (ta' : Int → Int), (gsI w K (fun l => S l ∨ gxS w K (prr c) (fun k => pu (4 * c + k)) ta0 kd l) gm' gw' be') → (∀ k : Int, 0 ≤ k → k < kd → ta' k = ta0 k) → P (none) (cmH (u1 (u1 (u1 z 21 K) 48 gw') 49 gm') zl (uf (uf (uf (uf (uf f 5 va) 8 prr) 9 pu) 23 be') 24 ta') fl tx)) : ∀ (kF : Nat) (n : Int) (gw : Int) (gm : Int) (be : Int → Int) (ta : Int → Int), (0 ≤ n) → (n ≤ pu (4 * c + kd) + 1) → (gsI w K (fun l => S l ∨ gxN w K (prr c) (fun k => pu (4 * c + k)) ta0 kd n l) gm gw be) → (∀ k : Int, 0 ≤ k → k < kd → ta k = ta0 k) → (pu (4 * c + kd) + 1 - n) < (kF : Int) → Rx (d + 2) m_X12_goGift 81 [some (.ref 0), some (.int (iz c)), some (.int (iz kd)), some (.int (iz wo)), some (.int (iz mn)), some (.int (iz n))] [] (cmH (u1 (u1 (u1 z 21 K) 48 gw) 49 gm) zl (uf (uf (uf (uf (uf f 5 va) 8 prr) 9 pu) 23 be) 24 ta) fl tx) P := by
  intro kF
  induction kF with
  | zero =>
    intro n gw gm be ta n0 n1 hS hT hk
    exfalso; omega
  | succ kF ih =>
    intro n gw gm be ta n0 n1 hS hT hk
    have hcb := hcn kd hkd.1 (by omega)
    have hvk := hva kd hkd.1 (by omega)
    have hwk := hw.2 (kd + 1) (by omega) (by omega)
    rw [← hvk] at hwk
    have hnv : 0 ≤ n * va kd ∧ n * va kd ≤ 99 * n := ⟨Int.mul_nonneg n0 hwk.1, by have := Int.mul_le_mul_of_nonneg_left hwk.2 n0; omega⟩
    refine Rx.walk 5 (pc' := 89) (L' := [some (.ref 0), some (.int (iz c)), some (.int (iz kd)), some (.int (iz wo)), some (.int (iz mn)), some (.int (iz n))]) (st' := [.int (iz c), .int (iz 4), .ref 9, .int (iz n)]) (h' := cmH (u1 (u1 (u1 z 21 K) 48 gw) 49 gm) zl (uf (uf (uf (uf (uf f 5 va) 8 prr) 9 pu) 23 be) 24 ta) fl tx) rfl ?_
    refine Rx.imul rfl ?_
    refine Rx.walk 1 (pc' := 91) (L' := [some (.ref 0), some (.int (iz c)), some (.int (iz kd)), some (.int (iz wo)), some (.int (iz mn)), some (.int (iz n))]) (st' := [.int (iz kd), .int (iz (4 * c)), .ref 9, .int (iz n)]) (h' := cmH (u1 (u1 (u1 z 21 K) 48 gw) 49 gm) zl (uf (uf (uf (uf (uf f 5 va) 8 prr) 9 pu) 23 be) 24 ta) fl tx) rfl ?_
    refine Rx.iadd rfl ?_
    refine Rx.ial (g := pu) rfl rfl (by omega) (by omega) (by omega) ?_
    refine Rx.gt2 rfl rfl ⟨by omega, by omega⟩ ⟨by omega, by omega⟩ (fun b1 => ?_) (fun b1 => ?_)
    · refine Rx.ret rfl ?_
      exact hx0 _ _ _ _ (gsI_c hS (fun l => or_congr Iff.rfl (gxN_e (by omega) (by show n = pu (4 * c + kd) + 1; omega) l).symm)) hT
    · refine Rx.walk 4 (pc' := 103) (L' := [some (.ref 0), some (.int (iz c)), some (.int (iz kd)), some (.int (iz wo)), some (.int (iz mn)), some (.int (iz n))]) (st' := [.int (iz n), .int (iz kd), .ref 24]) (h' := cmH (u1 (u1 (u1 z 21 K) 48 gw) 49 gm) zl (uf (uf (uf (uf (uf f 5 va) 8 prr) 9 pu) 23 be) 24 ta) fl tx) rfl ?_
      refine Rx.ias (g := ta) (h' := cmH (u1 (u1 (u1 z 21 K) 48 gw) 49 gm) zl (uf (uf (uf (uf (uf f 5 va) 8 prr) 9 pu) 23 be) 24 (iu ta kd n)) fl tx) rfl rfl (by omega) (by omega) (by omega) rfl ?_
      refine Rx.walk 4 (pc' := 108) (L' := [some (.ref 0), some (.int (iz c)), some (.int (iz kd)), some (.int (iz wo)), some (.int (iz mn)), some (.int (iz n))]) (st' := [.int (iz 1), .int (iz kd), .int (iz c), .ref 0]) (h' := cmH (u1 (u1 (u1 z 21 K) 48 gw) 49 gm) zl (uf (uf (uf (uf (uf f 5 va) 8 prr) 9 pu) 23 be) 24 (iu ta kd n)) fl tx) rfl ?_
      refine Rx.iadd rfl ?_
      refine Rx.walk 5 (pc' := 117) (L' := [some (.ref 0), some (.int (iz c)), some (.int (iz kd)), some (.int (iz wo)), some (.int (iz mn)), some (.int (iz n))]) (st' := [.int (iz kd), .ref 5, .int (iz n), .int (iz wo), .int (iz (kd + 1)), .int (iz c), .ref 0]) (h' := cmH (u1 (u1 (u1 z 21 K) 48 gw) 49 gm) zl (uf (uf (uf (uf (uf f 5 va) 8 prr) 9 pu) 23 be) 24 (iu ta kd n)) fl tx) rfl ?_
      refine Rx.ial (g := va) rfl rfl (by omega) (by omega) (by omega) ?_
      refine Rx.imul rfl ?_
      refine Rx.iadd rfl ?_
      refine Rx.walk 2 (pc' := 124) (L' := [some (.ref 0), some (.int (iz c)), some (.int (iz kd)), some (.int (iz wo)), some (.int (iz mn)), some (.int (iz n))]) (st' := [.int (iz n), .int (iz mn), .int (iz (wo + (n * (va kd)))), .int (iz (kd + 1)), .int (iz c), .ref 0]) (h' := cmH (u1 (u1 (u1 z 21 K) 48 gw) 49 gm) zl (uf (uf (uf (uf (uf f 5 va) 8 prr) 9 pu) 23 be) 24 (iu ta kd n)) fl tx) rfl ?_
      refine Rx.iadd rfl ?_
      refine Rx.callx (m' := m_X12_goGift) (as := [.ref 0, .int (iz c), .int (iz (kd + 1)), .int (iz (wo + (n * (va kd)))), .int (iz (mn + n))]) (rest := []) rfl (m_goGift0 _ (u1 (u1 (u1 z 21 K) 48 gw) 49 gm) zl (uf (uf (uf (uf (uf f 5 va) 8 prr) 9 pu) 23 be) 24 (iu ta kd n)) fl tx  c (kd + 1) (wo + (n * (va kd))) (mn + n) K va prr pu w (fun l => S l ∨ gxN w K (prr c) (fun k => pu (4 * c + k)) ta0 kd n l) gw gm be (iu ta kd n) (by first | assumption | omega) (by first | assumption | omega) hva (by first | assumption | omega) hcn (by first | assumption | omega) ⟨by omega, by omega⟩ (by rw [sW_iu hkd.1, hvk, hwo, sW_congr (gv := ta) (gv' := ta0) (fun j a b => hT j a (by omega))]) (by rw [sG_iu2 hkd.1, hmn, sG_congr (gv := ta) (gv' := ta0) (fun j a b => hT j a (by omega))]) ⟨by omega, by omega⟩ ⟨by omega, by omega⟩ (fun k a b => by rcases (show k < kd ∨ k = kd by omega) with q | q; (rw [iu_ne _ _ (by omega), hT k a q]; exact hta k a q); (rw [q, iu_at]; omega)) hS) (fun v8 h9 q10 => ?_)
      obtain ⟨gw_2, gm_3, be_4, ta_5, rfl, rfl, f6, f7⟩ := q10
      refine Rx.walk 0 (pc' := 128) (L' := [some (.ref 0), some (.int (iz c)), some (.int (iz kd)), some (.int (iz wo)), some (.int (iz mn)), some (.int (iz n))]) (st' := []) (h' := cmH (u1 (u1 (u1 z 21 K) 48 gw_2) 49 gm_3) zl (uf (uf (uf (uf (uf f 5 va) 8 prr) 9 pu) 23 be_4) 24 ta_5) fl tx) rfl ?_
      refine Rx.iinc (b := 1) rfl rfl rfl ?_
      refine Rx.walk 0 (pc' := 131) (L' := [some (.ref 0), some (.int (iz c)), some (.int (iz kd)), some (.int (iz wo)), some (.int (iz mn)), some (.int (iz (n + 1)))]) (st' := []) (h' := cmH (u1 (u1 (u1 z 21 K) 48 gw_2) 49 gm_3) zl (uf (uf (uf (uf (uf f 5 va) 8 prr) 9 pu) 23 be_4) 24 ta_5) fl tx) rfl ?_
      refine Rx.walk 1 (pc' := 81) (L' := [some (.ref 0), some (.int (iz c)), some (.int (iz kd)), some (.int (iz wo)), some (.int (iz mn)), some (.int (iz (n + 1)))]) (st' := []) (h' := cmH (u1 (u1 (u1 z 21 K) 48 gw_2) 49 gm_3) zl (uf (uf (uf (uf (uf f 5 va) 8 prr) 9 pu) 23 be_4) 24 ta_5) fl tx) rfl ?_
      exact ih (n + 1) gw_2 gm_3 be_4 ta_5 (by first | assumption | omega) (by first | assumption | omega) (gsI_c f6 (fun l => by show (_ ∨ _) ∨ _ ↔ _ ∨ _; rw [gxN_s hkd.1 n0, or_assoc, gxS_t (ta := iu ta0 kd n) (ta' := iu ta kd n) (fun j a b => by rcases (show j < kd ∨ j = kd by omega) with q | q; (rw [iu_ne _ _ (by omega), iu_ne _ _ (by omega)]; exact hT j a q); (rw [q, iu_at, iu_at]))])) (fun k a b => by rw [f7 k a (by omega), iu_ne _ _ (by omega)]; exact hT k a b) (by first | assumption | omega) 
set_option maxRecDepth 100000 in
set_option maxHeartbeats 4000000 in
theorem m_goGift1 (d : Nat) (z : Nat → Int) (zl : Nat → Int) (f : Nat → Int → Int) (fl : Nat → Int → Int) (tx : Nat)  (c : Int) (kd : Int) (wo : Int) (mn : Int) (K : Int) (va : Int → Int) (prr : Int → Int) (pu : Int → Int) (w : Int → Int) (S : List Int → Prop) (gw : Int) (gm : Int) (be : Int → Int) (ta : Int → Int) (hc : 0 ≤ c ∧ c ≤ 4) (hK : 1 ≤ K ∧ K ≤ 4) (hva : ∀ k : Int, 0 ≤ k → k < K → va k = w (k + 1)) (hw : wOK w) (hcn : ∀ k : Int, 0 ≤ k → k < K → 0 ≤ pu (4 * c + k) ∧ pu (4 * c + k) ≤ 4) (hpr : 1 ≤ prr c ∧ prr c ≤ 99) (hkd : 0 ≤ kd ∧ kd + 1 = K) (hwo : wo = sW ta (fun j => w (j + 1)) kd.toNat) (hmn : mn = sG ta kd.toNat) (hwb : 0 ≤ wo ∧ wo ≤ 396 * kd) (hmb : 0 ≤ mn ∧ mn ≤ 4 * kd) (hta : ∀ k : Int, 0 ≤ k → k < kd → 0 ≤ ta k ∧ ta k ≤ 4) (hS : gsI w K S gm gw be) : Rx (d + 2) m_X12_goGift 0 (am_ent [.ref 0, .int (iz c), .int (iz kd), .int (iz wo), .int (iz mn)] 6) [] (cmH (u1 (u1 (u1 z 21 K) 48 gw) 49 gm) zl (uf (uf (uf (uf (uf f 5 va) 8 prr) 9 pu) 23 be) 24 ta) fl tx) (fun rv h => ∃ gw' : Int, ∃ gm' : Int, ∃ be' : Int → Int, ∃ ta' : Int → Int, rv = none ∧ h = cmH (u1 (u1 (u1 z 21 K) 48 gw') 49 gm') zl (uf (uf (uf (uf (uf f 5 va) 8 prr) 9 pu) 23 be') 24 ta') fl tx ∧ (gsI w K (fun l => S l ∨ gxS w K (prr c) (fun k => pu (4 * c + k)) ta kd l) gm' gw' be') ∧ (∀ k : Int, 0 ≤ k → k < kd → ta' k = ta k)) := by
  have hcb := hcn kd hkd.1 (by omega)
  refine Rx.walk 0 (pc' := 0) (L' := [some (.ref 0), some (.int (iz c)), some (.int (iz kd)), some (.int (iz wo)), some (.int (iz mn)), none]) (st' := []) (h' := cmH (u1 (u1 (u1 z 21 K) 48 gw) 49 gm) zl (uf (uf (uf (uf (uf f 5 va) 8 prr) 9 pu) 23 be) 24 ta) fl tx) rfl ?_
  refine Rx.walk 3 (pc' := 5) (L' := [some (.ref 0), some (.int (iz c)), some (.int (iz kd)), some (.int (iz wo)), some (.int (iz mn)), none]) (st' := [.int (iz K), .int (iz kd)]) (h' := cmH (u1 (u1 (u1 z 21 K) 48 gw) 49 gm) zl (uf (uf (uf (uf (uf f 5 va) 8 prr) 9 pu) 23 be) 24 ta) fl tx) rfl ?_
  refine Rx.ne2 rfl rfl ⟨by omega, by omega⟩ ⟨by omega, by omega⟩ (fun b1 => ?_) (fun b1 => by omega)
  refine Rx.walk 2 (pc' := 81) (L' := [some (.ref 0), some (.int (iz c)), some (.int (iz kd)), some (.int (iz wo)), some (.int (iz mn)), some (.int (iz 0))]) (st' := []) (h' := cmH (u1 (u1 (u1 z 21 K) 48 gw) 49 gm) zl (uf (uf (uf (uf (uf f 5 va) 8 prr) 9 pu) 23 be) 24 ta) fl tx) rfl ?_
  refine m_goGift1_l _ (u1 (u1 (u1 z 21 K) 48 gw) 49 gm) zl (uf (uf (uf (uf (uf f 5 va) 8 prr) 9 pu) 23 be) 24 ta) fl tx  c kd wo mn K va prr pu w S ta hc hK hva hw hcn hpr hkd hwo hmn hwb hmb hta _ ?_ ((pu (4 * c + kd) + 1 - 0) + 1 : Int).toNat 0 gw gm be ta (by first | assumption | omega) (by first | assumption | omega) (gsI_c hS (fun l => ⟨Or.inl, fun q => q.elim id (fun ⟨gv, _, b, _⟩ => by omega)⟩)) (fun _ _ _ => rfl) (by omega) 
  intro gw_2 gm_3 be_4 ta_5 f6 f7
  show (fun (rv : Option Value) (h : AmH) => ∃ gw' : Int, ∃ gm' : Int, ∃ be' : Int → Int, ∃ ta' : Int → Int, rv = none ∧ h = cmH (u1 (u1 (u1 z 21 K) 48 gw') 49 gm') zl (uf (uf (uf (uf (uf f 5 va) 8 prr) 9 pu) 23 be') 24 ta') fl tx ∧ (gsI w K (fun l => S l ∨ gxS w K (prr c) (fun k => pu (4 * c + k)) ta kd l) gm' gw' be') ∧ (∀ k : Int, 0 ≤ k → k < kd → ta' k = ta k)) (none) (cmH (u1 (u1 (u1 z 21 K) 48 gw_2) 49 gm_3) zl (uf (uf (uf (uf (uf f 5 va) 8 prr) 9 pu) 23 be_4) 24 ta_5) fl tx)
  exact ⟨_, _, _, _, rfl, rfl, f6, f7⟩
set_option maxRecDepth 100000 in
set_option maxHeartbeats 4000000 in
theorem m_goGift2_l (d : Nat) (z : Nat → Int) (zl : Nat → Int) (f : Nat → Int → Int) (fl : Nat → Int → Int) (tx : Nat)  (c : Int) (kd : Int) (wo : Int) (mn : Int) (K : Int) (va : Int → Int) (prr : Int → Int) (pu : Int → Int) (w : Int → Int) (S : List Int → Prop) (ta0 : Int → Int) (hc : 0 ≤ c ∧ c ≤ 4) (hK : 1 ≤ K ∧ K ≤ 4) (hva : ∀ k : Int, 0 ≤ k → k < K → va k = w (k + 1)) (hw : wOK w) (hcn : ∀ k : Int, 0 ≤ k → k < K → 0 ≤ pu (4 * c + k) ∧ pu (4 * c + k) ≤ 4) (hpr : 1 ≤ prr c ∧ prr c ≤ 99) (hkd : 0 ≤ kd ∧ kd + 2 = K) (hwo : wo = sW ta0 (fun j => w (j + 1)) kd.toNat) (hmn : mn = sG ta0 kd.toNat) (hwb : 0 ≤ wo ∧ wo ≤ 396 * kd) (hmb : 0 ≤ mn ∧ mn ≤ 4 * kd) (hta : ∀ k : Int, 0 ≤ k → k < kd → 0 ≤ ta0 k ∧ ta0 k ≤ 4) (P : Option Value → AmH → Prop) (hx0 : ∀ (gw' : Int) (gm' : Int) (be' : Int → Int) (ta' : Int → Int), (gsI w K (fun l => S l ∨ gxS w K (prr c) (fun k => pu (4 * c + k)) ta0 kd l) gm' gw' be') → (∀ k : Int, 0 ≤ k → k < kd → ta' k = ta0 k) → P (none) (cmH (u1 (u1 (u1 z 21 K) 48 gw') 49 gm') zl (uf (uf (uf (uf (uf f 5 va) 8 prr) 9 pu) 23 be') 24 ta') fl tx)) : ∀ (kF : Nat) (n : Int) (gw : Int) (gm : Int) (be : Int → Int) (ta : Int → Int), (0 ≤ n) → (n ≤ pu (4 * c + kd) + 1) → (gsI w K (fun l => S l ∨ gxN w K (prr c) (fun k => pu (4 * c + k)) ta0 kd n l) gm gw be) → (∀ k : Int, 0 ≤ k → k < kd → ta k = ta0 k) → (pu (4 * c + kd) + 1 - n) < (kF : Int) → Rx (d + 3) m_X12_goGift 81 [some (.ref 0), some (.int (iz c)), some (.int (iz kd)), some (.int (iz wo)), some (.int (iz mn)), some (.int (iz n))] [] (cmH (u1 (u1 (u1 z 21 K) 48 gw) 49 gm) zl (uf (uf (uf (uf (uf f 5 va) 8 prr) 9 pu) 23 be) 24 ta) fl tx) P := by
  intro kF
  induction kF with
  | zero =>
    intro n gw gm be ta n0 n1 hS hT hk
    exfalso; omega
  | succ kF ih =>
    intro n gw gm be ta n0 n1 hS hT hk
    have hcb := hcn kd hkd.1 (by omega)
    have hvk := hva kd hkd.1 (by omega)
    have hwk := hw.2 (kd + 1) (by omega) (by omega)
    rw [← hvk] at hwk
    have hnv : 0 ≤ n * va kd ∧ n * va kd ≤ 99 * n := ⟨Int.mul_nonneg n0 hwk.1, by have := Int.mul_le_mul_of_nonneg_left hwk.2 n0; omega⟩
    refine Rx.walk 5 (pc' := 89) (L' := [some (.ref 0), some (.int (iz c)), some (.int (iz kd)), some (.int (iz wo)), some (.int (iz mn)), some (.int (iz n))]) (st' := [.int (iz c), .int (iz 4), .ref 9, .int (iz n)]) (h' := cmH (u1 (u1 (u1 z 21 K) 48 gw) 49 gm) zl (uf (uf (uf (uf (uf f 5 va) 8 prr) 9 pu) 23 be) 24 ta) fl tx) rfl ?_
    refine Rx.imul rfl ?_
    refine Rx.walk 1 (pc' := 91) (L' := [some (.ref 0), some (.int (iz c)), some (.int (iz kd)), some (.int (iz wo)), some (.int (iz mn)), some (.int (iz n))]) (st' := [.int (iz kd), .int (iz (4 * c)), .ref 9, .int (iz n)]) (h' := cmH (u1 (u1 (u1 z 21 K) 48 gw) 49 gm) zl (uf (uf (uf (uf (uf f 5 va) 8 prr) 9 pu) 23 be) 24 ta) fl tx) rfl ?_
    refine Rx.iadd rfl ?_
    refine Rx.ial (g := pu) rfl rfl (by omega) (by omega) (by omega) ?_
    refine Rx.gt2 rfl rfl ⟨by omega, by omega⟩ ⟨by omega, by omega⟩ (fun b1 => ?_) (fun b1 => ?_)
    · refine Rx.ret rfl ?_
      exact hx0 _ _ _ _ (gsI_c hS (fun l => or_congr Iff.rfl (gxN_e (by omega) (by show n = pu (4 * c + kd) + 1; omega) l).symm)) hT
    · refine Rx.walk 4 (pc' := 103) (L' := [some (.ref 0), some (.int (iz c)), some (.int (iz kd)), some (.int (iz wo)), some (.int (iz mn)), some (.int (iz n))]) (st' := [.int (iz n), .int (iz kd), .ref 24]) (h' := cmH (u1 (u1 (u1 z 21 K) 48 gw) 49 gm) zl (uf (uf (uf (uf (uf f 5 va) 8 prr) 9 pu) 23 be) 24 ta) fl tx) rfl ?_
      refine Rx.ias (g := ta) (h' := cmH (u1 (u1 (u1 z 21 K) 48 gw) 49 gm) zl (uf (uf (uf (uf (uf f 5 va) 8 prr) 9 pu) 23 be) 24 (iu ta kd n)) fl tx) rfl rfl (by omega) (by omega) (by omega) rfl ?_
      refine Rx.walk 4 (pc' := 108) (L' := [some (.ref 0), some (.int (iz c)), some (.int (iz kd)), some (.int (iz wo)), some (.int (iz mn)), some (.int (iz n))]) (st' := [.int (iz 1), .int (iz kd), .int (iz c), .ref 0]) (h' := cmH (u1 (u1 (u1 z 21 K) 48 gw) 49 gm) zl (uf (uf (uf (uf (uf f 5 va) 8 prr) 9 pu) 23 be) 24 (iu ta kd n)) fl tx) rfl ?_
      refine Rx.iadd rfl ?_
      refine Rx.walk 5 (pc' := 117) (L' := [some (.ref 0), some (.int (iz c)), some (.int (iz kd)), some (.int (iz wo)), some (.int (iz mn)), some (.int (iz n))]) (st' := [.int (iz kd), .ref 5, .int (iz n), .int (iz wo), .int (iz (kd + 1)), .int (iz c), .ref 0]) (h' := cmH (u1 (u1 (u1 z 21 K) 48 gw) 49 gm) zl (uf (uf (uf (uf (uf f 5 va) 8 prr) 9 pu) 23 be) 24 (iu ta kd n)) fl tx) rfl ?_
      refine Rx.ial (g := va) rfl rfl (by omega) (by omega) (by omega) ?_
      refine Rx.imul rfl ?_
      refine Rx.iadd rfl ?_
      refine Rx.walk 2 (pc' := 124) (L' := [some (.ref 0), some (.int (iz c)), some (.int (iz kd)), some (.int (iz wo)), some (.int (iz mn)), some (.int (iz n))]) (st' := [.int (iz n), .int (iz mn), .int (iz (wo + (n * (va kd)))), .int (iz (kd + 1)), .int (iz c), .ref 0]) (h' := cmH (u1 (u1 (u1 z 21 K) 48 gw) 49 gm) zl (uf (uf (uf (uf (uf f 5 va) 8 prr) 9 pu) 23 be) 24 (iu ta kd n)) fl tx) rfl ?_
      refine Rx.iadd rfl ?_
      refine Rx.callx (m' := m_X12_goGift) (as := [.ref 0, .int (iz c), .int (iz (kd + 1)), .int (iz (wo + (n * (va kd)))), .int (iz (mn + n))]) (rest := []) rfl (m_goGift1 _ (u1 (u1 (u1 z 21 K) 48 gw) 49 gm) zl (uf (uf (uf (uf (uf f 5 va) 8 prr) 9 pu) 23 be) 24 (iu ta kd n)) fl tx  c (kd + 1) (wo + (n * (va kd))) (mn + n) K va prr pu w (fun l => S l ∨ gxN w K (prr c) (fun k => pu (4 * c + k)) ta0 kd n l) gw gm be (iu ta kd n) (by first | assumption | omega) (by first | assumption | omega) hva (by first | assumption | omega) hcn (by first | assumption | omega) ⟨by omega, by omega⟩ (by rw [sW_iu hkd.1, hvk, hwo, sW_congr (gv := ta) (gv' := ta0) (fun j a b => hT j a (by omega))]) (by rw [sG_iu2 hkd.1, hmn, sG_congr (gv := ta) (gv' := ta0) (fun j a b => hT j a (by omega))]) ⟨by omega, by omega⟩ ⟨by omega, by omega⟩ (fun k a b => by rcases (show k < kd ∨ k = kd by omega) with q | q; (rw [iu_ne _ _ (by omega), hT k a q]; exact hta k a q); (rw [q, iu_at]; omega)) hS) (fun v8 h9 q10 => ?_)
      obtain ⟨gw_2, gm_3, be_4, ta_5, rfl, rfl, f6, f7⟩ := q10
      refine Rx.walk 0 (pc' := 128) (L' := [some (.ref 0), some (.int (iz c)), some (.int (iz kd)), some (.int (iz wo)), some (.int (iz mn)), some (.int (iz n))]) (st' := []) (h' := cmH (u1 (u1 (u1 z 21 K) 48 gw_2) 49 gm_3) zl (uf (uf (uf (uf (uf f 5 va) 8 prr) 9 pu) 23 be_4) 24 ta_5) fl tx) rfl ?_
      refine Rx.iinc (b := 1) rfl rfl rfl ?_
      refine Rx.walk 0 (pc' := 131) (L' := [some (.ref 0), some (.int (iz c)), some (.int (iz kd)), some (.int (iz wo)), some (.int (iz mn)), some (.int (iz (n + 1)))]) (st' := []) (h' := cmH (u1 (u1 (u1 z 21 K) 48 gw_2) 49 gm_3) zl (uf (uf (uf (uf (uf f 5 va) 8 prr) 9 pu) 23 be_4) 24 ta_5) fl tx) rfl ?_
      refine Rx.walk 1 (pc' := 81) (L' := [some (.ref 0), some (.int (iz c)), some (.int (iz kd)), some (.int (iz wo)), some (.int (iz mn)), some (.int (iz (n + 1)))]) (st' := []) (h' := cmH (u1 (u1 (u1 z 21 K) 48 gw_2) 49 gm_3) zl (uf (uf (uf (uf (uf f 5 va) 8 prr) 9 pu) 23 be_4) 24 ta_5) fl tx) rfl ?_
      exact ih (n + 1) gw_2 gm_3 be_4 ta_5 (by first | assumption | omega) (by first | assumption | omega) (gsI_c f6 (fun l => by show (_ ∨ _) ∨ _ ↔ _ ∨ _; rw [gxN_s hkd.1 n0, or_assoc, gxS_t (ta := iu ta0 kd n) (ta' := iu ta kd n) (fun j a b => by rcases (show j < kd ∨ j = kd by omega) with q | q; (rw [iu_ne _ _ (by omega), iu_ne _ _ (by omega)]; exact hT j a q); (rw [q, iu_at, iu_at]))])) (fun k a b => by rw [f7 k a (by omega), iu_ne _ _ (by omega)]; exact hT k a b) (by first | assumption | omega) 
set_option maxRecDepth 100000 in
set_option maxHeartbeats 4000000 in
theorem m_goGift2 (d : Nat) (z : Nat → Int) (zl : Nat → Int) (f : Nat → Int → Int) (fl : Nat → Int → Int) (tx : Nat)  (c : Int) (kd : Int) (wo : Int) (mn : Int) (K : Int) (va : Int → Int) (prr : Int → Int) (pu : Int → Int) (w : Int → Int) (S : List Int → Prop) (gw : Int) (gm : Int) (be : Int → Int) (ta : Int → Int) (hc : 0 ≤ c ∧ c ≤ 4) (hK : 1 ≤ K ∧ K ≤ 4) (hva : ∀ k : Int, 0 ≤ k → k < K → va k = w (k + 1)) (hw : wOK w) (hcn : ∀ k : Int, 0 ≤ k → k < K → 0 ≤ pu (4 * c + k) ∧ pu (4 * c + k) ≤ 4) (hpr : 1 ≤ prr c ∧ prr c ≤ 99) (hkd : 0 ≤ kd ∧ kd + 2 = K) (hwo : wo = sW ta (fun j => w (j + 1)) kd.toNat) (hmn : mn = sG ta kd.toNat) (hwb : 0 ≤ wo ∧ wo ≤ 396 * kd) (hmb : 0 ≤ mn ∧ mn ≤ 4 * kd) (hta : ∀ k : Int, 0 ≤ k → k < kd → 0 ≤ ta k ∧ ta k ≤ 4) (hS : gsI w K S gm gw be) : Rx (d + 3) m_X12_goGift 0 (am_ent [.ref 0, .int (iz c), .int (iz kd), .int (iz wo), .int (iz mn)] 6) [] (cmH (u1 (u1 (u1 z 21 K) 48 gw) 49 gm) zl (uf (uf (uf (uf (uf f 5 va) 8 prr) 9 pu) 23 be) 24 ta) fl tx) (fun rv h => ∃ gw' : Int, ∃ gm' : Int, ∃ be' : Int → Int, ∃ ta' : Int → Int, rv = none ∧ h = cmH (u1 (u1 (u1 z 21 K) 48 gw') 49 gm') zl (uf (uf (uf (uf (uf f 5 va) 8 prr) 9 pu) 23 be') 24 ta') fl tx ∧ (gsI w K (fun l => S l ∨ gxS w K (prr c) (fun k => pu (4 * c + k)) ta kd l) gm' gw' be') ∧ (∀ k : Int, 0 ≤ k → k < kd → ta' k = ta k)) := by
  have hcb := hcn kd hkd.1 (by omega)
  refine Rx.walk 0 (pc' := 0) (L' := [some (.ref 0), some (.int (iz c)), some (.int (iz kd)), some (.int (iz wo)), some (.int (iz mn)), none]) (st' := []) (h' := cmH (u1 (u1 (u1 z 21 K) 48 gw) 49 gm) zl (uf (uf (uf (uf (uf f 5 va) 8 prr) 9 pu) 23 be) 24 ta) fl tx) rfl ?_
  refine Rx.walk 3 (pc' := 5) (L' := [some (.ref 0), some (.int (iz c)), some (.int (iz kd)), some (.int (iz wo)), some (.int (iz mn)), none]) (st' := [.int (iz K), .int (iz kd)]) (h' := cmH (u1 (u1 (u1 z 21 K) 48 gw) 49 gm) zl (uf (uf (uf (uf (uf f 5 va) 8 prr) 9 pu) 23 be) 24 ta) fl tx) rfl ?_
  refine Rx.ne2 rfl rfl ⟨by omega, by omega⟩ ⟨by omega, by omega⟩ (fun b1 => ?_) (fun b1 => by omega)
  refine Rx.walk 2 (pc' := 81) (L' := [some (.ref 0), some (.int (iz c)), some (.int (iz kd)), some (.int (iz wo)), some (.int (iz mn)), some (.int (iz 0))]) (st' := []) (h' := cmH (u1 (u1 (u1 z 21 K) 48 gw) 49 gm) zl (uf (uf (uf (uf (uf f 5 va) 8 prr) 9 pu) 23 be) 24 ta) fl tx) rfl ?_
  refine m_goGift2_l _ (u1 (u1 (u1 z 21 K) 48 gw) 49 gm) zl (uf (uf (uf (uf (uf f 5 va) 8 prr) 9 pu) 23 be) 24 ta) fl tx  c kd wo mn K va prr pu w S ta hc hK hva hw hcn hpr hkd hwo hmn hwb hmb hta _ ?_ ((pu (4 * c + kd) + 1 - 0) + 1 : Int).toNat 0 gw gm be ta (by first | assumption | omega) (by first | assumption | omega) (gsI_c hS (fun l => ⟨Or.inl, fun q => q.elim id (fun ⟨gv, _, b, _⟩ => by omega)⟩)) (fun _ _ _ => rfl) (by omega) 
  intro gw_2 gm_3 be_4 ta_5 f6 f7
  show (fun (rv : Option Value) (h : AmH) => ∃ gw' : Int, ∃ gm' : Int, ∃ be' : Int → Int, ∃ ta' : Int → Int, rv = none ∧ h = cmH (u1 (u1 (u1 z 21 K) 48 gw') 49 gm') zl (uf (uf (uf (uf (uf f 5 va) 8 prr) 9 pu) 23 be') 24 ta') fl tx ∧ (gsI w K (fun l => S l ∨ gxS w K (prr c) (fun k => pu (4 * c + k)) ta kd l) gm' gw' be') ∧ (∀ k : Int, 0 ≤ k → k < kd → ta' k = ta k)) (none) (cmH (u1 (u1 (u1 z 21 K) 48 gw_2) 49 gm_3) zl (uf (uf (uf (uf (uf f 5 va) 8 prr) 9 pu) 23 be_4) 24 ta_5) fl tx)
  exact ⟨_, _, _, _, rfl, rfl, f6, f7⟩
set_option maxRecDepth 100000 in
set_option maxHeartbeats 4000000 in
theorem m_goGift3_l (d : Nat) (z : Nat → Int) (zl : Nat → Int) (f : Nat → Int → Int) (fl : Nat → Int → Int) (tx : Nat)  (c : Int) (kd : Int) (wo : Int) (mn : Int) (K : Int) (va : Int → Int) (prr : Int → Int) (pu : Int → Int) (w : Int → Int) (S : List Int → Prop) (ta0 : Int → Int) (hc : 0 ≤ c ∧ c ≤ 4) (hK : 1 ≤ K ∧ K ≤ 4) (hva : ∀ k : Int, 0 ≤ k → k < K → va k = w (k + 1)) (hw : wOK w) (hcn : ∀ k : Int, 0 ≤ k → k < K → 0 ≤ pu (4 * c + k) ∧ pu (4 * c + k) ≤ 4) (hpr : 1 ≤ prr c ∧ prr c ≤ 99) (hkd : 0 ≤ kd ∧ kd + 3 = K) (hwo : wo = sW ta0 (fun j => w (j + 1)) kd.toNat) (hmn : mn = sG ta0 kd.toNat) (hwb : 0 ≤ wo ∧ wo ≤ 396 * kd) (hmb : 0 ≤ mn ∧ mn ≤ 4 * kd) (hta : ∀ k : Int, 0 ≤ k → k < kd → 0 ≤ ta0 k ∧ ta0 k ≤ 4) (P : Option Value → AmH → Prop) (hx0 : ∀ (gw' : Int) (gm' : Int) (be' : Int → Int) (ta' : Int → Int), (gsI w K (fun l => S l ∨ gxS w K (prr c) (fun k => pu (4 * c + k)) ta0 kd l) gm' gw' be') → (∀ k : Int, 0 ≤ k → k < kd → ta' k = ta0 k) → P (none) (cmH (u1 (u1 (u1 z 21 K) 48 gw') 49 gm') zl (uf (uf (uf (uf (uf f 5 va) 8 prr) 9 pu) 23 be') 24 ta') fl tx)) : ∀ (kF : Nat) (n : Int) (gw : Int) (gm : Int) (be : Int → Int) (ta : Int → Int), (0 ≤ n) → (n ≤ pu (4 * c + kd) + 1) → (gsI w K (fun l => S l ∨ gxN w K (prr c) (fun k => pu (4 * c + k)) ta0 kd n l) gm gw be) → (∀ k : Int, 0 ≤ k → k < kd → ta k = ta0 k) → (pu (4 * c + kd) + 1 - n) < (kF : Int) → Rx (d + 4) m_X12_goGift 81 [some (.ref 0), some (.int (iz c)), some (.int (iz kd)), some (.int (iz wo)), some (.int (iz mn)), some (.int (iz n))] [] (cmH (u1 (u1 (u1 z 21 K) 48 gw) 49 gm) zl (uf (uf (uf (uf (uf f 5 va) 8 prr) 9 pu) 23 be) 24 ta) fl tx) P := by
  intro kF
  induction kF with
  | zero =>
    intro n gw gm be ta n0 n1 hS hT hk
    exfalso; omega
  | succ kF ih =>
    intro n gw gm be ta n0 n1 hS hT hk
    have hcb := hcn kd hkd.1 (by omega)
    have hvk := hva kd hkd.1 (by omega)
    have hwk := hw.2 (kd + 1) (by omega) (by omega)
    rw [← hvk] at hwk
    have hnv : 0 ≤ n * va kd ∧ n * va kd ≤ 99 * n := ⟨Int.mul_nonneg n0 hwk.1, by have := Int.mul_le_mul_of_nonneg_left hwk.2 n0; omega⟩
    refine Rx.walk 5 (pc' := 89) (L' := [some (.ref 0), some (.int (iz c)), some (.int (iz kd)), some (.int (iz wo)), some (.int (iz mn)), some (.int (iz n))]) (st' := [.int (iz c), .int (iz 4), .ref 9, .int (iz n)]) (h' := cmH (u1 (u1 (u1 z 21 K) 48 gw) 49 gm) zl (uf (uf (uf (uf (uf f 5 va) 8 prr) 9 pu) 23 be) 24 ta) fl tx) rfl ?_
    refine Rx.imul rfl ?_
    refine Rx.walk 1 (pc' := 91) (L' := [some (.ref 0), some (.int (iz c)), some (.int (iz kd)), some (.int (iz wo)), some (.int (iz mn)), some (.int (iz n))]) (st' := [.int (iz kd), .int (iz (4 * c)), .ref 9, .int (iz n)]) (h' := cmH (u1 (u1 (u1 z 21 K) 48 gw) 49 gm) zl (uf (uf (uf (uf (uf f 5 va) 8 prr) 9 pu) 23 be) 24 ta) fl tx) rfl ?_
    refine Rx.iadd rfl ?_
    refine Rx.ial (g := pu) rfl rfl (by omega) (by omega) (by omega) ?_
    refine Rx.gt2 rfl rfl ⟨by omega, by omega⟩ ⟨by omega, by omega⟩ (fun b1 => ?_) (fun b1 => ?_)
    · refine Rx.ret rfl ?_
      exact hx0 _ _ _ _ (gsI_c hS (fun l => or_congr Iff.rfl (gxN_e (by omega) (by show n = pu (4 * c + kd) + 1; omega) l).symm)) hT
    · refine Rx.walk 4 (pc' := 103) (L' := [some (.ref 0), some (.int (iz c)), some (.int (iz kd)), some (.int (iz wo)), some (.int (iz mn)), some (.int (iz n))]) (st' := [.int (iz n), .int (iz kd), .ref 24]) (h' := cmH (u1 (u1 (u1 z 21 K) 48 gw) 49 gm) zl (uf (uf (uf (uf (uf f 5 va) 8 prr) 9 pu) 23 be) 24 ta) fl tx) rfl ?_
      refine Rx.ias (g := ta) (h' := cmH (u1 (u1 (u1 z 21 K) 48 gw) 49 gm) zl (uf (uf (uf (uf (uf f 5 va) 8 prr) 9 pu) 23 be) 24 (iu ta kd n)) fl tx) rfl rfl (by omega) (by omega) (by omega) rfl ?_
      refine Rx.walk 4 (pc' := 108) (L' := [some (.ref 0), some (.int (iz c)), some (.int (iz kd)), some (.int (iz wo)), some (.int (iz mn)), some (.int (iz n))]) (st' := [.int (iz 1), .int (iz kd), .int (iz c), .ref 0]) (h' := cmH (u1 (u1 (u1 z 21 K) 48 gw) 49 gm) zl (uf (uf (uf (uf (uf f 5 va) 8 prr) 9 pu) 23 be) 24 (iu ta kd n)) fl tx) rfl ?_
      refine Rx.iadd rfl ?_
      refine Rx.walk 5 (pc' := 117) (L' := [some (.ref 0), some (.int (iz c)), some (.int (iz kd)), some (.int (iz wo)), some (.int (iz mn)), some (.int (iz n))]) (st' := [.int (iz kd), .ref 5, .int (iz n), .int (iz wo), .int (iz (kd + 1)), .int (iz c), .ref 0]) (h' := cmH (u1 (u1 (u1 z 21 K) 48 gw) 49 gm) zl (uf (uf (uf (uf (uf f 5 va) 8 prr) 9 pu) 23 be) 24 (iu ta kd n)) fl tx) rfl ?_
      refine Rx.ial (g := va) rfl rfl (by omega) (by omega) (by omega) ?_
      refine Rx.imul rfl ?_
      refine Rx.iadd rfl ?_
      refine Rx.walk 2 (pc' := 124) (L' := [some (.ref 0), some (.int (iz c)), some (.int (iz kd)), some (.int (iz wo)), some (.int (iz mn)), some (.int (iz n))]) (st' := [.int (iz n), .int (iz mn), .int (iz (wo + (n * (va kd)))), .int (iz (kd + 1)), .int (iz c), .ref 0]) (h' := cmH (u1 (u1 (u1 z 21 K) 48 gw) 49 gm) zl (uf (uf (uf (uf (uf f 5 va) 8 prr) 9 pu) 23 be) 24 (iu ta kd n)) fl tx) rfl ?_
      refine Rx.iadd rfl ?_
      refine Rx.callx (m' := m_X12_goGift) (as := [.ref 0, .int (iz c), .int (iz (kd + 1)), .int (iz (wo + (n * (va kd)))), .int (iz (mn + n))]) (rest := []) rfl (m_goGift2 _ (u1 (u1 (u1 z 21 K) 48 gw) 49 gm) zl (uf (uf (uf (uf (uf f 5 va) 8 prr) 9 pu) 23 be) 24 (iu ta kd n)) fl tx  c (kd + 1) (wo + (n * (va kd))) (mn + n) K va prr pu w (fun l => S l ∨ gxN w K (prr c) (fun k => pu (4 * c + k)) ta0 kd n l) gw gm be (iu ta kd n) (by first | assumption | omega) (by first | assumption | omega) hva (by first | assumption | omega) hcn (by first | assumption | omega) ⟨by omega, by omega⟩ (by rw [sW_iu hkd.1, hvk, hwo, sW_congr (gv := ta) (gv' := ta0) (fun j a b => hT j a (by omega))]) (by rw [sG_iu2 hkd.1, hmn, sG_congr (gv := ta) (gv' := ta0) (fun j a b => hT j a (by omega))]) ⟨by omega, by omega⟩ ⟨by omega, by omega⟩ (fun k a b => by rcases (show k < kd ∨ k = kd by omega) with q | q; (rw [iu_ne _ _ (by omega), hT k a q]; exact hta k a q); (rw [q, iu_at]; omega)) hS) (fun v8 h9 q10 => ?_)
      obtain ⟨gw_2, gm_3, be_4, ta_5, rfl, rfl, f6, f7⟩ := q10
      refine Rx.walk 0 (pc' := 128) (L' := [some (.ref 0), some (.int (iz c)), some (.int (iz kd)), some (.int (iz wo)), some (.int (iz mn)), some (.int (iz n))]) (st' := []) (h' := cmH (u1 (u1 (u1 z 21 K) 48 gw_2) 49 gm_3) zl (uf (uf (uf (uf (uf f 5 va) 8 prr) 9 pu) 23 be_4) 24 ta_5) fl tx) rfl ?_
      refine Rx.iinc (b := 1) rfl rfl rfl ?_
      refine Rx.walk 0 (pc' := 131) (L' := [some (.ref 0), some (.int (iz c)), some (.int (iz kd)), some (.int (iz wo)), some (.int (iz mn)), some (.int (iz (n + 1)))]) (st' := []) (h' := cmH (u1 (u1 (u1 z 21 K) 48 gw_2) 49 gm_3) zl (uf (uf (uf (uf (uf f 5 va) 8 prr) 9 pu) 23 be_4) 24 ta_5) fl tx) rfl ?_
      refine Rx.walk 1 (pc' := 81) (L' := [some (.ref 0), some (.int (iz c)), some (.int (iz kd)), some (.int (iz wo)), some (.int (iz mn)), some (.int (iz (n + 1)))]) (st' := []) (h' := cmH (u1 (u1 (u1 z 21 K) 48 gw_2) 49 gm_3) zl (uf (uf (uf (uf (uf f 5 va) 8 prr) 9 pu) 23 be_4) 24 ta_5) fl tx) rfl ?_
      exact ih (n + 1) gw_2 gm_3 be_4 ta_5 (by first | assumption | omega) (by first | assumption | omega) (gsI_c f6 (fun l => by show (_ ∨ _) ∨ _ ↔ _ ∨ _; rw [gxN_s hkd.1 n0, or_assoc, gxS_t (ta := iu ta0 kd n) (ta' := iu ta kd n) (fun j a b => by rcases (show j < kd ∨ j = kd by omega) with q | q; (rw [iu_ne _ _ (by omega), iu_ne _ _ (by omega)]; exact hT j a q); (rw [q, iu_at, iu_at]))])) (fun k a b => by rw [f7 k a (by omega), iu_ne _ _ (by omega)]; exact hT k a b) (by first | assumption | omega) 
set_option maxRecDepth 100000 in
set_option maxHeartbeats 4000000 in
theorem m_goGift3 (d : Nat) (z : Nat → Int) (zl : Nat → Int) (f : Nat → Int → Int) (fl : Nat → Int → Int) (tx : Nat)  (c : Int) (kd : Int) (wo : Int) (mn : Int) (K : Int) (va : Int → Int) (prr : Int → Int) (pu : Int → Int) (w : Int → Int) (S : List Int → Prop) (gw : Int) (gm : Int) (be : Int → Int) (ta : Int → Int) (hc : 0 ≤ c ∧ c ≤ 4) (hK : 1 ≤ K ∧ K ≤ 4) (hva : ∀ k : Int, 0 ≤ k → k < K → va k = w (k + 1)) (hw : wOK w) (hcn : ∀ k : Int, 0 ≤ k → k < K → 0 ≤ pu (4 * c + k) ∧ pu (4 * c + k) ≤ 4) (hpr : 1 ≤ prr c ∧ prr c ≤ 99) (hkd : 0 ≤ kd ∧ kd + 3 = K) (hwo : wo = sW ta (fun j => w (j + 1)) kd.toNat) (hmn : mn = sG ta kd.toNat) (hwb : 0 ≤ wo ∧ wo ≤ 396 * kd) (hmb : 0 ≤ mn ∧ mn ≤ 4 * kd) (hta : ∀ k : Int, 0 ≤ k → k < kd → 0 ≤ ta k ∧ ta k ≤ 4) (hS : gsI w K S gm gw be) : Rx (d + 4) m_X12_goGift 0 (am_ent [.ref 0, .int (iz c), .int (iz kd), .int (iz wo), .int (iz mn)] 6) [] (cmH (u1 (u1 (u1 z 21 K) 48 gw) 49 gm) zl (uf (uf (uf (uf (uf f 5 va) 8 prr) 9 pu) 23 be) 24 ta) fl tx) (fun rv h => ∃ gw' : Int, ∃ gm' : Int, ∃ be' : Int → Int, ∃ ta' : Int → Int, rv = none ∧ h = cmH (u1 (u1 (u1 z 21 K) 48 gw') 49 gm') zl (uf (uf (uf (uf (uf f 5 va) 8 prr) 9 pu) 23 be') 24 ta') fl tx ∧ (gsI w K (fun l => S l ∨ gxS w K (prr c) (fun k => pu (4 * c + k)) ta kd l) gm' gw' be') ∧ (∀ k : Int, 0 ≤ k → k < kd → ta' k = ta k)) := by
  have hcb := hcn kd hkd.1 (by omega)
  refine Rx.walk 0 (pc' := 0) (L' := [some (.ref 0), some (.int (iz c)), some (.int (iz kd)), some (.int (iz wo)), some (.int (iz mn)), none]) (st' := []) (h' := cmH (u1 (u1 (u1 z 21 K) 48 gw) 49 gm) zl (uf (uf (uf (uf (uf f 5 va) 8 prr) 9 pu) 23 be) 24 ta) fl tx) rfl ?_
  refine Rx.walk 3 (pc' := 5) (L' := [some (.ref 0), some (.int (iz c)), some (.int (iz kd)), some (.int (iz wo)), some (.int (iz mn)), none]) (st' := [.int (iz K), .int (iz kd)]) (h' := cmH (u1 (u1 (u1 z 21 K) 48 gw) 49 gm) zl (uf (uf (uf (uf (uf f 5 va) 8 prr) 9 pu) 23 be) 24 ta) fl tx) rfl ?_
  refine Rx.ne2 rfl rfl ⟨by omega, by omega⟩ ⟨by omega, by omega⟩ (fun b1 => ?_) (fun b1 => by omega)
  refine Rx.walk 2 (pc' := 81) (L' := [some (.ref 0), some (.int (iz c)), some (.int (iz kd)), some (.int (iz wo)), some (.int (iz mn)), some (.int (iz 0))]) (st' := []) (h' := cmH (u1 (u1 (u1 z 21 K) 48 gw) 49 gm) zl (uf (uf (uf (uf (uf f 5 va) 8 prr) 9 pu) 23 be) 24 ta) fl tx) rfl ?_
  refine m_goGift3_l _ (u1 (u1 (u1 z 21 K) 48 gw) 49 gm) zl (uf (uf (uf (uf (uf f 5 va) 8 prr) 9 pu) 23 be) 24 ta) fl tx  c kd wo mn K va prr pu w S ta hc hK hva hw hcn hpr hkd hwo hmn hwb hmb hta _ ?_ ((pu (4 * c + kd) + 1 - 0) + 1 : Int).toNat 0 gw gm be ta (by first | assumption | omega) (by first | assumption | omega) (gsI_c hS (fun l => ⟨Or.inl, fun q => q.elim id (fun ⟨gv, _, b, _⟩ => by omega)⟩)) (fun _ _ _ => rfl) (by omega) 
  intro gw_2 gm_3 be_4 ta_5 f6 f7
  show (fun (rv : Option Value) (h : AmH) => ∃ gw' : Int, ∃ gm' : Int, ∃ be' : Int → Int, ∃ ta' : Int → Int, rv = none ∧ h = cmH (u1 (u1 (u1 z 21 K) 48 gw') 49 gm') zl (uf (uf (uf (uf (uf f 5 va) 8 prr) 9 pu) 23 be') 24 ta') fl tx ∧ (gsI w K (fun l => S l ∨ gxS w K (prr c) (fun k => pu (4 * c + k)) ta kd l) gm' gw' be') ∧ (∀ k : Int, 0 ≤ k → k < kd → ta' k = ta k)) (none) (cmH (u1 (u1 (u1 z 21 K) 48 gw_2) 49 gm_3) zl (uf (uf (uf (uf (uf f 5 va) 8 prr) 9 pu) 23 be_4) 24 ta_5) fl tx)
  exact ⟨_, _, _, _, rfl, rfl, f6, f7⟩
set_option maxRecDepth 100000 in
set_option maxHeartbeats 4000000 in
theorem m_goGift4_l (d : Nat) (z : Nat → Int) (zl : Nat → Int) (f : Nat → Int → Int) (fl : Nat → Int → Int) (tx : Nat)  (c : Int) (kd : Int) (wo : Int) (mn : Int) (K : Int) (va : Int → Int) (prr : Int → Int) (pu : Int → Int) (w : Int → Int) (S : List Int → Prop) (ta0 : Int → Int) (hc : 0 ≤ c ∧ c ≤ 4) (hK : 1 ≤ K ∧ K ≤ 4) (hva : ∀ k : Int, 0 ≤ k → k < K → va k = w (k + 1)) (hw : wOK w) (hcn : ∀ k : Int, 0 ≤ k → k < K → 0 ≤ pu (4 * c + k) ∧ pu (4 * c + k) ≤ 4) (hpr : 1 ≤ prr c ∧ prr c ≤ 99) (hkd : 0 ≤ kd ∧ kd + 4 = K) (hwo : wo = sW ta0 (fun j => w (j + 1)) kd.toNat) (hmn : mn = sG ta0 kd.toNat) (hwb : 0 ≤ wo ∧ wo ≤ 396 * kd) (hmb : 0 ≤ mn ∧ mn ≤ 4 * kd) (hta : ∀ k : Int, 0 ≤ k → k < kd → 0 ≤ ta0 k ∧ ta0 k ≤ 4) (P : Option Value → AmH → Prop) (hx0 : ∀ (gw' : Int) (gm' : Int) (be' : Int → Int) (ta' : Int → Int), (gsI w K (fun l => S l ∨ gxS w K (prr c) (fun k => pu (4 * c + k)) ta0 kd l) gm' gw' be') → (∀ k : Int, 0 ≤ k → k < kd → ta' k = ta0 k) → P (none) (cmH (u1 (u1 (u1 z 21 K) 48 gw') 49 gm') zl (uf (uf (uf (uf (uf f 5 va) 8 prr) 9 pu) 23 be') 24 ta') fl tx)) : ∀ (kF : Nat) (n : Int) (gw : Int) (gm : Int) (be : Int → Int) (ta : Int → Int), (0 ≤ n) → (n ≤ pu (4 * c + kd) + 1) → (gsI w K (fun l => S l ∨ gxN w K (prr c) (fun k => pu (4 * c + k)) ta0 kd n l) gm gw be) → (∀ k : Int, 0 ≤ k → k < kd → ta k = ta0 k) → (pu (4 * c + kd) + 1 - n) < (kF : Int) → Rx (d + 5) m_X12_goGift 81 [some (.ref 0), some (.int (iz c)), some (.int (iz kd)), some (.int (iz wo)), some (.int (iz mn)), some (.int (iz n))] [] (cmH (u1 (u1 (u1 z 21 K) 48 gw) 49 gm) zl (uf (uf (uf (uf (uf f 5 va) 8 prr) 9 pu) 23 be) 24 ta) fl tx) P := by
  intro kF
  induction kF with
  | zero =>
    intro n gw gm be ta n0 n1 hS hT hk
    exfalso; omega
  | succ kF ih =>
    intro n gw gm be ta n0 n1 hS hT hk
    have hcb := hcn kd hkd.1 (by omega)
    have hvk := hva kd hkd.1 (by omega)
    have hwk := hw.2 (kd + 1) (by omega) (by omega)
    rw [← hvk] at hwk
    have hnv : 0 ≤ n * va kd ∧ n * va kd ≤ 99 * n := ⟨Int.mul_nonneg n0 hwk.1, by have := Int.mul_le_mul_of_nonneg_left hwk.2 n0; omega⟩
    refine Rx.walk 5 (pc' := 89) (L' := [some (.ref 0), some (.int (iz c)), some (.int (iz kd)), some (.int (iz wo)), some (.int (iz mn)), some (.int (iz n))]) (st' := [.int (iz c), .int (iz 4), .ref 9, .int (iz n)]) (h' := cmH (u1 (u1 (u1 z 21 K) 48 gw) 49 gm) zl (uf (uf (uf (uf (uf f 5 va) 8 prr) 9 pu) 23 be) 24 ta) fl tx) rfl ?_
    refine Rx.imul rfl ?_
    refine Rx.walk 1 (pc' := 91) (L' := [some (.ref 0), some (.int (iz c)), some (.int (iz kd)), some (.int (iz wo)), some (.int (iz mn)), some (.int (iz n))]) (st' := [.int (iz kd), .int (iz (4 * c)), .ref 9, .int (iz n)]) (h' := cmH (u1 (u1 (u1 z 21 K) 48 gw) 49 gm) zl (uf (uf (uf (uf (uf f 5 va) 8 prr) 9 pu) 23 be) 24 ta) fl tx) rfl ?_
    refine Rx.iadd rfl ?_
    refine Rx.ial (g := pu) rfl rfl (by omega) (by omega) (by omega) ?_
    refine Rx.gt2 rfl rfl ⟨by omega, by omega⟩ ⟨by omega, by omega⟩ (fun b1 => ?_) (fun b1 => ?_)
    · refine Rx.ret rfl ?_
      exact hx0 _ _ _ _ (gsI_c hS (fun l => or_congr Iff.rfl (gxN_e (by omega) (by show n = pu (4 * c + kd) + 1; omega) l).symm)) hT
    · refine Rx.walk 4 (pc' := 103) (L' := [some (.ref 0), some (.int (iz c)), some (.int (iz kd)), some (.int (iz wo)), some (.int (iz mn)), some (.int (iz n))]) (st' := [.int (iz n), .int (iz kd), .ref 24]) (h' := cmH (u1 (u1 (u1 z 21 K) 48 gw) 49 gm) zl (uf (uf (uf (uf (uf f 5 va) 8 prr) 9 pu) 23 be) 24 ta) fl tx) rfl ?_
      refine Rx.ias (g := ta) (h' := cmH (u1 (u1 (u1 z 21 K) 48 gw) 49 gm) zl (uf (uf (uf (uf (uf f 5 va) 8 prr) 9 pu) 23 be) 24 (iu ta kd n)) fl tx) rfl rfl (by omega) (by omega) (by omega) rfl ?_
      refine Rx.walk 4 (pc' := 108) (L' := [some (.ref 0), some (.int (iz c)), some (.int (iz kd)), some (.int (iz wo)), some (.int (iz mn)), some (.int (iz n))]) (st' := [.int (iz 1), .int (iz kd), .int (iz c), .ref 0]) (h' := cmH (u1 (u1 (u1 z 21 K) 48 gw) 49 gm) zl (uf (uf (uf (uf (uf f 5 va) 8 prr) 9 pu) 23 be) 24 (iu ta kd n)) fl tx) rfl ?_
      refine Rx.iadd rfl ?_
      refine Rx.walk 5 (pc' := 117) (L' := [some (.ref 0), some (.int (iz c)), some (.int (iz kd)), some (.int (iz wo)), some (.int (iz mn)), some (.int (iz n))]) (st' := [.int (iz kd), .ref 5, .int (iz n), .int (iz wo), .int (iz (kd + 1)), .int (iz c), .ref 0]) (h' := cmH (u1 (u1 (u1 z 21 K) 48 gw) 49 gm) zl (uf (uf (uf (uf (uf f 5 va) 8 prr) 9 pu) 23 be) 24 (iu ta kd n)) fl tx) rfl ?_
      refine Rx.ial (g := va) rfl rfl (by omega) (by omega) (by omega) ?_
      refine Rx.imul rfl ?_
      refine Rx.iadd rfl ?_
      refine Rx.walk 2 (pc' := 124) (L' := [some (.ref 0), some (.int (iz c)), some (.int (iz kd)), some (.int (iz wo)), some (.int (iz mn)), some (.int (iz n))]) (st' := [.int (iz n), .int (iz mn), .int (iz (wo + (n * (va kd)))), .int (iz (kd + 1)), .int (iz c), .ref 0]) (h' := cmH (u1 (u1 (u1 z 21 K) 48 gw) 49 gm) zl (uf (uf (uf (uf (uf f 5 va) 8 prr) 9 pu) 23 be) 24 (iu ta kd n)) fl tx) rfl ?_
      refine Rx.iadd rfl ?_
      refine Rx.callx (m' := m_X12_goGift) (as := [.ref 0, .int (iz c), .int (iz (kd + 1)), .int (iz (wo + (n * (va kd)))), .int (iz (mn + n))]) (rest := []) rfl (m_goGift3 _ (u1 (u1 (u1 z 21 K) 48 gw) 49 gm) zl (uf (uf (uf (uf (uf f 5 va) 8 prr) 9 pu) 23 be) 24 (iu ta kd n)) fl tx  c (kd + 1) (wo + (n * (va kd))) (mn + n) K va prr pu w (fun l => S l ∨ gxN w K (prr c) (fun k => pu (4 * c + k)) ta0 kd n l) gw gm be (iu ta kd n) (by first | assumption | omega) (by first | assumption | omega) hva (by first | assumption | omega) hcn (by first | assumption | omega) ⟨by omega, by omega⟩ (by rw [sW_iu hkd.1, hvk, hwo, sW_congr (gv := ta) (gv' := ta0) (fun j a b => hT j a (by omega))]) (by rw [sG_iu2 hkd.1, hmn, sG_congr (gv := ta) (gv' := ta0) (fun j a b => hT j a (by omega))]) ⟨by omega, by omega⟩ ⟨by omega, by omega⟩ (fun k a b => by rcases (show k < kd ∨ k = kd by omega) with q | q; (rw [iu_ne _ _ (by omega), hT k a q]; exact hta k a q); (rw [q, iu_at]; omega)) hS) (fun v8 h9 q10 => ?_)
      obtain ⟨gw_2, gm_3, be_4, ta_5, rfl, rfl, f6, f7⟩ := q10
      refine Rx.walk 0 (pc' := 128) (L' := [some (.ref 0), some (.int (iz c)), some (.int (iz kd)), some (.int (iz wo)), some (.int (iz mn)), some (.int (iz n))]) (st' := []) (h' := cmH (u1 (u1 (u1 z 21 K) 48 gw_2) 49 gm_3) zl (uf (uf (uf (uf (uf f 5 va) 8 prr) 9 pu) 23 be_4) 24 ta_5) fl tx) rfl ?_
      refine Rx.iinc (b := 1) rfl rfl rfl ?_
      refine Rx.walk 0 (pc' := 131) (L' := [some (.ref 0), some (.int (iz c)), some (.int (iz kd)), some (.int (iz wo)), some (.int (iz mn)), some (.int (iz (n + 1)))]) (st' := []) (h' := cmH (u1 (u1 (u1 z 21 K) 48 gw_2) 49 gm_3) zl (uf (uf (uf (uf (uf f 5 va) 8 prr) 9 pu) 23 be_4) 24 ta_5) fl tx) rfl ?_
      refine Rx.walk 1 (pc' := 81) (L' := [some (.ref 0), some (.int (iz c)), some (.int (iz kd)), some (.int (iz wo)), some (.int (iz mn)), some (.int (iz (n + 1)))]) (st' := []) (h' := cmH (u1 (u1 (u1 z 21 K) 48 gw_2) 49 gm_3) zl (uf (uf (uf (uf (uf f 5 va) 8 prr) 9 pu) 23 be_4) 24 ta_5) fl tx) rfl ?_
      exact ih (n + 1) gw_2 gm_3 be_4 ta_5 (by first | assumption | omega) (by first | assumption | omega) (gsI_c f6 (fun l => by show (_ ∨ _) ∨ _ ↔ _ ∨ _; rw [gxN_s hkd.1 n0, or_assoc, gxS_t (ta := iu ta0 kd n) (ta' := iu ta kd n) (fun j a b => by rcases (show j < kd ∨ j = kd by omega) with q | q; (rw [iu_ne _ _ (by omega), iu_ne _ _ (by omega)]; exact hT j a q); (rw [q, iu_at, iu_at]))])) (fun k a b => by rw [f7 k a (by omega), iu_ne _ _ (by omega)]; exact hT k a b) (by first | assumption | omega) 
set_option maxRecDepth 100000 in
set_option maxHeartbeats 4000000 in
theorem m_goGift4 (d : Nat) (z : Nat → Int) (zl : Nat → Int) (f : Nat → Int → Int) (fl : Nat → Int → Int) (tx : Nat)  (c : Int) (kd : Int) (wo : Int) (mn : Int) (K : Int) (va : Int → Int) (prr : Int → Int) (pu : Int → Int) (w : Int → Int) (S : List Int → Prop) (gw : Int) (gm : Int) (be : Int → Int) (ta : Int → Int) (hc : 0 ≤ c ∧ c ≤ 4) (hK : 1 ≤ K ∧ K ≤ 4) (hva : ∀ k : Int, 0 ≤ k → k < K → va k = w (k + 1)) (hw : wOK w) (hcn : ∀ k : Int, 0 ≤ k → k < K → 0 ≤ pu (4 * c + k) ∧ pu (4 * c + k) ≤ 4) (hpr : 1 ≤ prr c ∧ prr c ≤ 99) (hkd : 0 ≤ kd ∧ kd + 4 = K) (hwo : wo = sW ta (fun j => w (j + 1)) kd.toNat) (hmn : mn = sG ta kd.toNat) (hwb : 0 ≤ wo ∧ wo ≤ 396 * kd) (hmb : 0 ≤ mn ∧ mn ≤ 4 * kd) (hta : ∀ k : Int, 0 ≤ k → k < kd → 0 ≤ ta k ∧ ta k ≤ 4) (hS : gsI w K S gm gw be) : Rx (d + 5) m_X12_goGift 0 (am_ent [.ref 0, .int (iz c), .int (iz kd), .int (iz wo), .int (iz mn)] 6) [] (cmH (u1 (u1 (u1 z 21 K) 48 gw) 49 gm) zl (uf (uf (uf (uf (uf f 5 va) 8 prr) 9 pu) 23 be) 24 ta) fl tx) (fun rv h => ∃ gw' : Int, ∃ gm' : Int, ∃ be' : Int → Int, ∃ ta' : Int → Int, rv = none ∧ h = cmH (u1 (u1 (u1 z 21 K) 48 gw') 49 gm') zl (uf (uf (uf (uf (uf f 5 va) 8 prr) 9 pu) 23 be') 24 ta') fl tx ∧ (gsI w K (fun l => S l ∨ gxS w K (prr c) (fun k => pu (4 * c + k)) ta kd l) gm' gw' be') ∧ (∀ k : Int, 0 ≤ k → k < kd → ta' k = ta k)) := by
  have hcb := hcn kd hkd.1 (by omega)
  refine Rx.walk 0 (pc' := 0) (L' := [some (.ref 0), some (.int (iz c)), some (.int (iz kd)), some (.int (iz wo)), some (.int (iz mn)), none]) (st' := []) (h' := cmH (u1 (u1 (u1 z 21 K) 48 gw) 49 gm) zl (uf (uf (uf (uf (uf f 5 va) 8 prr) 9 pu) 23 be) 24 ta) fl tx) rfl ?_
  refine Rx.walk 3 (pc' := 5) (L' := [some (.ref 0), some (.int (iz c)), some (.int (iz kd)), some (.int (iz wo)), some (.int (iz mn)), none]) (st' := [.int (iz K), .int (iz kd)]) (h' := cmH (u1 (u1 (u1 z 21 K) 48 gw) 49 gm) zl (uf (uf (uf (uf (uf f 5 va) 8 prr) 9 pu) 23 be) 24 ta) fl tx) rfl ?_
  refine Rx.ne2 rfl rfl ⟨by omega, by omega⟩ ⟨by omega, by omega⟩ (fun b1 => ?_) (fun b1 => by omega)
  refine Rx.walk 2 (pc' := 81) (L' := [some (.ref 0), some (.int (iz c)), some (.int (iz kd)), some (.int (iz wo)), some (.int (iz mn)), some (.int (iz 0))]) (st' := []) (h' := cmH (u1 (u1 (u1 z 21 K) 48 gw) 49 gm) zl (uf (uf (uf (uf (uf f 5 va) 8 prr) 9 pu) 23 be) 24 ta) fl tx) rfl ?_
  refine m_goGift4_l _ (u1 (u1 (u1 z 21 K) 48 gw) 49 gm) zl (uf (uf (uf (uf (uf f 5 va) 8 prr) 9 pu) 23 be) 24 ta) fl tx  c kd wo mn K va prr pu w S ta hc hK hva hw hcn hpr hkd hwo hmn hwb hmb hta _ ?_ ((pu (4 * c + kd) + 1 - 0) + 1 : Int).toNat 0 gw gm be ta (by first | assumption | omega) (by first | assumption | omega) (gsI_c hS (fun l => ⟨Or.inl, fun q => q.elim id (fun ⟨gv, _, b, _⟩ => by omega)⟩)) (fun _ _ _ => rfl) (by omega) 
  intro gw_2 gm_3 be_4 ta_5 f6 f7
  show (fun (rv : Option Value) (h : AmH) => ∃ gw' : Int, ∃ gm' : Int, ∃ be' : Int → Int, ∃ ta' : Int → Int, rv = none ∧ h = cmH (u1 (u1 (u1 z 21 K) 48 gw') 49 gm') zl (uf (uf (uf (uf (uf f 5 va) 8 prr) 9 pu) 23 be') 24 ta') fl tx ∧ (gsI w K (fun l => S l ∨ gxS w K (prr c) (fun k => pu (4 * c + k)) ta kd l) gm' gw' be') ∧ (∀ k : Int, 0 ≤ k → k < kd → ta' k = ta k)) (none) (cmH (u1 (u1 (u1 z 21 K) 48 gw_2) 49 gm_3) zl (uf (uf (uf (uf (uf f 5 va) 8 prr) 9 pu) 23 be_4) 24 ta_5) fl tx)
  exact ⟨_, _, _, _, rfl, rfl, f6, f7⟩
set_option maxRecDepth 100000 in
set_option maxHeartbeats 4000000 in
theorem m_goGift (d : Nat) (z : Nat → Int) (zl : Nat → Int) (f : Nat → Int → Int) (fl : Nat → Int → Int) (tx : Nat)  (c : Int) (K : Int) (va : Int → Int) (prr : Int → Int) (pu : Int → Int) (w : Int → Int) (gw : Int) (gm : Int) (be : Int → Int) (ta : Int → Int) (hc : 0 ≤ c ∧ c ≤ 4) (hK : 1 ≤ K ∧ K ≤ 4) (hva : ∀ k : Int, 0 ≤ k → k < K → va k = w (k + 1)) (hw : wOK w) (hcn : ∀ k : Int, 0 ≤ k → k < K → 0 ≤ pu (4 * c + k) ∧ pu (4 * c + k) ≤ 4) (hpr : 1 ≤ prr c ∧ prr c ≤ 99) (hgm : gm = -1) : Rx (d + 5) m_X12_goGift 0 (am_ent [.ref 0, .int (iz c), .int (iz 0), .int (iz 0), .int (iz 0)] 6) [] (cmH (u1 (u1 (u1 z 21 K) 48 gw) 49 gm) zl (uf (uf (uf (uf (uf f 5 va) 8 prr) 9 pu) 23 be) 24 ta) fl tx) (fun rv h => ∃ gw' : Int, ∃ gm' : Int, ∃ be' : Int → Int, ∃ ta' : Int → Int, rv = none ∧ h = cmH (u1 (u1 (u1 z 21 K) 48 gw') 49 gm') zl (uf (uf (uf (uf (uf f 5 va) 8 prr) 9 pu) 23 be') 24 ta') fl tx ∧ gsI w K (giS w K (prr c) (fun k => pu (4 * c + k))) gm' gw' be') := by
  have hS : gsI w K (fun _ => False) gm gw be := Or.inl ⟨hgm, fun l h => h⟩
  rcases (show K = 1 ∨ K = 2 ∨ K = 3 ∨ K = 4 by omega) with q | q | q | q
  · refine ((m_goGift1 d z zl f fl tx c 0 0 0 K va prr pu w (fun _ => False) gw gm be ta hc hK hva hw hcn hpr ⟨by omega, by omega⟩ rfl rfl ⟨by omega, by omega⟩ ⟨by omega, by omega⟩ (fun k a b => by omega) hS).deep (by omega)).mono (fun rv h q => ?_)
    obtain ⟨gw', gm', be', ta', q1, q2, q3, q4⟩ := q
    refine ⟨gw', gm', be', ta', q1, q2, gsI_c q3 (fun l => ?_)⟩
    constructor
    · rintro (q | ⟨gv, a, b, e⟩)
      · exact q.elim
      · exact ⟨gv, fun k k0 k1 => b k k0 k1, e⟩
    · rintro ⟨gv, a, e⟩
      exact Or.inr ⟨gv, fun j a b => by omega, fun k k0 k1 => a k k0 k1, e⟩
  · refine ((m_goGift2 d z zl f fl tx c 0 0 0 K va prr pu w (fun _ => False) gw gm be ta hc hK hva hw hcn hpr ⟨by omega, by omega⟩ rfl rfl ⟨by omega, by omega⟩ ⟨by omega, by omega⟩ (fun k a b => by omega) hS).deep (by omega)).mono (fun rv h q => ?_)
    obtain ⟨gw', gm', be', ta', q1, q2, q3, q4⟩ := q
    refine ⟨gw', gm', be', ta', q1, q2, gsI_c q3 (fun l => ?_)⟩
    constructor
    · rintro (q | ⟨gv, a, b, e⟩)
      · exact q.elim
      · exact ⟨gv, fun k k0 k1 => b k k0 k1, e⟩
    · rintro ⟨gv, a, e⟩
      exact Or.inr ⟨gv, fun j a b => by omega, fun k k0 k1 => a k k0 k1, e⟩
  · refine ((m_goGift3 d z zl f fl tx c 0 0 0 K va prr pu w (fun _ => False) gw gm be ta hc hK hva hw hcn hpr ⟨by omega, by omega⟩ rfl rfl ⟨by omega, by omega⟩ ⟨by omega, by omega⟩ (fun k a b => by omega) hS).deep (by omega)).mono (fun rv h q => ?_)
    obtain ⟨gw', gm', be', ta', q1, q2, q3, q4⟩ := q
    refine ⟨gw', gm', be', ta', q1, q2, gsI_c q3 (fun l => ?_)⟩
    constructor
    · rintro (q | ⟨gv, a, b, e⟩)
      · exact q.elim
      · exact ⟨gv, fun k k0 k1 => b k k0 k1, e⟩
    · rintro ⟨gv, a, e⟩
      exact Or.inr ⟨gv, fun j a b => by omega, fun k k0 k1 => a k k0 k1, e⟩
  · refine ((m_goGift4 d z zl f fl tx c 0 0 0 K va prr pu w (fun _ => False) gw gm be ta hc hK hva hw hcn hpr ⟨by omega, by omega⟩ rfl rfl ⟨by omega, by omega⟩ ⟨by omega, by omega⟩ (fun k a b => by omega) hS).deep (by omega)).mono (fun rv h q => ?_)
    obtain ⟨gw', gm', be', ta', q1, q2, q3, q4⟩ := q
    refine ⟨gw', gm', be', ta', q1, q2, gsI_c q3 (fun l => ?_)⟩
    constructor
    · rintro (q | ⟨gv, a, b, e⟩)
      · exact q.elim
      · exact ⟨gv, fun k k0 k1 => b k k0 k1, e⟩
    · rintro ⟨gv, a, e⟩
      exact Or.inr ⟨gv, fun j a b => by omega, fun k k0 k1 => a k k0 k1, e⟩
set_option maxRecDepth 100000 in
set_option maxHeartbeats 4000000 in
theorem m_layGift (d : Nat) (z : Nat → Int) (zl : Nat → Int) (f : Nat → Int → Int) (fl : Nat → Int → Int) (tx : Nat)  (c : Int) (K : Int) (va : Int → Int) (prr : Int → Int) (pu : Int → Int) (w : Int → Int) (gw : Int) (gm : Int) (be : Int → Int) (ta : Int → Int) (hc : 0 ≤ c ∧ c ≤ 4) (hK : 1 ≤ K ∧ K ≤ 4) (hva : ∀ k : Int, 0 ≤ k → k < K → va k = w (k + 1)) (hw : wOK w) (hcn : ∀ k : Int, 0 ≤ k → k < K → 0 ≤ pu (4 * c + k) ∧ pu (4 * c + k) ≤ 4) (hpr : 1 ≤ prr c ∧ prr c ≤ 99) : Rx (d + 6) m_X12_layGift 0 (am_ent [.ref 0, .int (iz c)] 2) [] (cmH (u1 (u1 (u1 z 21 K) 48 gw) 49 gm) zl (uf (uf (uf (uf (uf f 5 va) 8 prr) 9 pu) 23 be) 24 ta) fl tx) (fun rv h => ∃ r : Int, ∃ gw' : Int, ∃ gm' : Int, ∃ be' : Int → Int, ∃ ta' : Int → Int, rv = some (.int (iz r)) ∧ h = cmH (u1 (u1 (u1 z 21 K) 48 gw') 49 gm') zl (uf (uf (uf (uf (uf f 5 va) 8 prr) 9 pu) 23 be') 24 ta') fl tx ∧ ((r = 0 ∧ ∀ l, ¬ (giS w K (prr c) (fun k => pu (4 * c + k))) l) ∨ (r = 1 ∧ bsH w (giS w K (prr c) (fun k => pu (4 * c + k))) (hG be' K.toNat) ∧ gw' = sW be' (fun j => w (j + 1)) K.toNat ∧ (0 ≤ gw' ∧ gw' ≤ 10000) ∧ ∀ k : Int, 0 ≤ k → k < K → 0 ≤ be' k ∧ be' k ≤ 4))) := by
  refine Rx.walk 0 (pc' := 0) (L' := [some (.ref 0), some (.int (iz c))]) (st' := []) (h' := cmH (u1 (u1 (u1 z 21 K) 48 gw) 49 gm) zl (uf (uf (uf (uf (uf f 5 va) 8 prr) 9 pu) 23 be) 24 ta) fl tx) rfl ?_
  refine Rx.walk 8 (pc' := 10) (L' := [some (.ref 0), some (.int (iz c))]) (st' := [.int (iz 0), .int (iz 0), .int (iz 0), .int (iz c), .ref 0]) (h' := cmH (u1 (u1 (u1 z 21 K) 48 gw) 49 (-1)) zl (uf (uf (uf (uf (uf f 5 va) 8 prr) 9 pu) 23 be) 24 ta) fl tx) rfl ?_
  refine Rx.callx (m' := m_X12_goGift) (as := [.ref 0, .int (iz c), .int (iz 0), .int (iz 0), .int (iz 0)]) (rest := []) rfl (m_goGift _ (u1 (u1 (u1 z 21 K) 48 gw) 49 (-1)) zl (uf (uf (uf (uf (uf f 5 va) 8 prr) 9 pu) 23 be) 24 ta) fl tx  c K va prr pu w gw (-1) be ta (by first | assumption | omega) (by first | assumption | omega) hva (by first | assumption | omega) hcn (by first | assumption | omega) rfl) (fun v6 h7 q8 => ?_)
  obtain ⟨gw_1, gm_2, be_3, ta_4, rfl, rfl, f5⟩ := q8
  refine Rx.walk 0 (pc' := 13) (L' := [some (.ref 0), some (.int (iz c))]) (st' := []) (h' := cmH (u1 (u1 (u1 z 21 K) 48 gw_1) 49 gm_2) zl (uf (uf (uf (uf (uf f 5 va) 8 prr) 9 pu) 23 be_3) 24 ta_4) fl tx) rfl ?_
  have hgb : -1 ≤ gm_2 ∧ gm_2 ≤ 100 := by rcases f5 with q | q; (have := q.1; omega); (have := q.1; have := q.2.2.2.2.1; omega)
  refine Rx.walk 3 (pc' := 18) (L' := [some (.ref 0), some (.int (iz c))]) (st' := [.int (iz (-1)), .int (iz gm_2)]) (h' := cmH (u1 (u1 (u1 z 21 K) 48 gw_1) 49 gm_2) zl (uf (uf (uf (uf (uf f 5 va) 8 prr) 9 pu) 23 be_3) 24 ta_4) fl tx) rfl ?_
  refine Rx.eq2 rfl rfl ⟨by omega, by omega⟩ ⟨by omega, by omega⟩ (fun b9 => ?_) (fun b9 => ?_)
  · refine Rx.walk 1 (pc' := 26) (L' := [some (.ref 0), some (.int (iz c))]) (st' := [.int (iz 0)]) (h' := cmH (u1 (u1 (u1 z 21 K) 48 gw_1) 49 gm_2) zl (uf (uf (uf (uf (uf f 5 va) 8 prr) 9 pu) 23 be_3) 24 ta_4) fl tx) rfl ?_
    refine Rx.ret rfl ?_
    refine ⟨_, _, _, _, _, rfl, rfl, Or.inl ⟨rfl, ?_⟩⟩
    rcases f5 with q | ⟨q1, q2, q3, q4, q5, q6⟩
    · exact q.2
    · exfalso; omega
  · refine Rx.walk 2 (pc' := 26) (L' := [some (.ref 0), some (.int (iz c))]) (st' := [.int (iz 1)]) (h' := cmH (u1 (u1 (u1 z 21 K) 48 gw_1) 49 gm_2) zl (uf (uf (uf (uf (uf f 5 va) 8 prr) 9 pu) 23 be_3) 24 ta_4) fl tx) rfl ?_
    refine Rx.ret rfl ?_
    refine ⟨_, _, _, _, _, rfl, rfl, Or.inr ⟨rfl, ?_⟩⟩
    rcases f5 with q | ⟨q1, q2, q3, q4, q5, q6⟩
    · exact absurd q.1 (by omega)
    · exact ⟨q2, q4, ⟨q5.2.1, q5.1⟩, q6⟩
set_option maxRecDepth 100000 in
set_option maxHeartbeats 4000000 in
theorem m_gives (d : Nat) (z : Nat → Int) (zl : Nat → Int) (f : Nat → Int → Int) (fl : Nat → Int → Int) (tx : Nat)  (ci : Int) (k : Int) (K : Int) (M : Int) (va : Int → Int) (prr : Int → Int) (pu : Int → Int) (w : Int → Int) (gw : Int) (gm : Int) (be : Int → Int) (ta : Int → Int) (hc_ : bI ci) (hk_ : bI k) (hK4 : 0 ≤ K ∧ K ≤ 4) (hva : ∀ k : Int, 0 ≤ k → k < K → va k = w (k + 1)) (hw : wOK w) (hcm : cuM K M pu prr) : Rx (d + 7) m_X12_gives 0 (am_ent [.ref 0, .int (iz ci), .int (iz k)] 3) [] (cmH (u1 (u1 (u1 (u1 z 21 K) 28 M) 48 gw) 49 gm) zl (uf (uf (uf (uf (uf f 5 va) 8 prr) 9 pu) 23 be) 24 ta) fl tx) (fun rv h => ∃ r : Int, ∃ gw' : Int, ∃ gm' : Int, ∃ be' : Int → Int, ∃ ta' : Int → Int, rv = some (.int (iz r)) ∧ h = cmH (u1 (u1 (u1 (u1 (u1 z 0 0) 21 K) 28 M) 48 gw') 49 gm') zl (uf (uf (uf (uf (uf f 5 va) 8 prr) 9 pu) 23 be') 24 ta') fl tx ∧ (((¬ (0 ≤ ci ∧ ci < M) ∨ ¬ (0 ≤ k ∧ k < K)) ∧ r = -1) ∨ (0 ≤ ci ∧ ci < M ∧ 0 ≤ k ∧ k < K ∧ (((∀ l, ¬ giS w K (prr ci) ((fun k => pu (4 * ci + k))) l) ∧ r = -1) ∨ ∃ h, bsH w (giS w K (prr ci) ((fun k => pu (4 * ci + k)))) h ∧ r = (h.count (k + 1) : Int))))) := by
  obtain ⟨hc1, hc2⟩ := id hc_
  obtain ⟨hk1, hk2⟩ := id hk_
  have hMM0 := hcm.1
  have hMM4 := hcm.2.1
  refine Rx.walk 0 (pc' := 0) (L' := [some (.ref 0), some (.int (iz ci)), some (.int (iz k))]) (st' := []) (h' := cmH (u1 (u1 (u1 (u1 z 21 K) 28 M) 48 gw) 49 gm) zl (uf (uf (uf (uf (uf f 5 va) 8 prr) 9 pu) 23 be) 24 ta) fl tx) rfl ?_
  refine Rx.walk 5 (pc' := 7) (L' := [some (.ref 0), some (.int (iz ci)), some (.int (iz k))]) (st' := [.int (iz ci), .ref 0]) (h' := cmH (u1 (u1 (u1 (u1 (u1 z 0 0) 21 K) 28 M) 48 gw) 49 gm) zl (uf (uf (uf (uf (uf f 5 va) 8 prr) 9 pu) 23 be) 24 ta) fl tx) rfl ?_
  refine Rx.callx (m' := m_X12_isCustomer) (as := [.ref 0, .int (iz ci)]) (rest := []) rfl (m_isCust _ (u1 (u1 (u1 (u1 (u1 z 0 0) 21 K) 28 M) 48 gw) 49 gm) zl (uf (uf (uf (uf (uf f 5 va) 8 prr) 9 pu) 23 be) 24 ta) fl tx  ci M (by first | assumption | omega) hc_) (fun v3 h4 q5 => ?_)
  obtain ⟨r_1, rfl, rfl, f2⟩ := q5
  refine Rx.walk 0 (pc' := 10) (L' := [some (.ref 0), some (.int (iz ci)), some (.int (iz k))]) (st' := [.int (iz r_1)]) (h' := cmH (u1 (u1 (u1 (u1 (u1 z 0 0) 21 K) 28 M) 48 gw) 49 gm) zl (uf (uf (uf (uf (uf f 5 va) 8 prr) 9 pu) 23 be) 24 ta) fl tx) rfl ?_
  refine Rx.eq1 rfl rfl ⟨by omega, by omega⟩ (fun b6 => ?_) (fun b6 => ?_)
  · refine Rx.walk 1 (pc' := 39) (L' := [some (.ref 0), some (.int (iz ci)), some (.int (iz k))]) (st' := [.int (iz (-1))]) (h' := cmH (u1 (u1 (u1 (u1 (u1 z 0 0) 21 K) 28 M) 48 gw) 49 gm) zl (uf (uf (uf (uf (uf f 5 va) 8 prr) 9 pu) 23 be) 24 ta) fl tx) rfl ?_
    refine Rx.ret rfl ?_
    exact ⟨_, _, _, _, _, rfl, rfl, Or.inl ⟨by omega, rfl⟩⟩
  · refine Rx.walk 2 (pc' := 15) (L' := [some (.ref 0), some (.int (iz ci)), some (.int (iz k))]) (st' := [.int (iz k), .ref 0]) (h' := cmH (u1 (u1 (u1 (u1 (u1 z 0 0) 21 K) 28 M) 48 gw) 49 gm) zl (uf (uf (uf (uf (uf f 5 va) 8 prr) 9 pu) 23 be) 24 ta) fl tx) rfl ?_
    refine Rx.callx (m' := m_X12_isKind) (as := [.ref 0, .int (iz k)]) (rest := []) rfl (m_isKind _ (u1 (u1 (u1 (u1 (u1 z 0 0) 21 K) 28 M) 48 gw) 49 gm) zl (uf (uf (uf (uf (uf f 5 va) 8 prr) 9 pu) 23 be) 24 ta) fl tx  k K (by first | assumption | omega) hk_) (fun v9 h10 q11 => ?_)
    obtain ⟨r_7, rfl, rfl, f8⟩ := q11
    refine Rx.walk 0 (pc' := 18) (L' := [some (.ref 0), some (.int (iz ci)), some (.int (iz k))]) (st' := [.int (iz r_7)]) (h' := cmH (u1 (u1 (u1 (u1 (u1 z 0 0) 21 K) 28 M) 48 gw) 49 gm) zl (uf (uf (uf (uf (uf f 5 va) 8 prr) 9 pu) 23 be) 24 ta) fl tx) rfl ?_
    refine Rx.eq1 rfl rfl ⟨by omega, by omega⟩ (fun b12 => ?_) (fun b12 => ?_)
    · refine Rx.walk 1 (pc' := 39) (L' := [some (.ref 0), some (.int (iz ci)), some (.int (iz k))]) (st' := [.int (iz (-1))]) (h' := cmH (u1 (u1 (u1 (u1 (u1 z 0 0) 21 K) 28 M) 48 gw) 49 gm) zl (uf (uf (uf (uf (uf f 5 va) 8 prr) 9 pu) 23 be) 24 ta) fl tx) rfl ?_
      refine Rx.ret rfl ?_
      exact ⟨_, _, _, _, _, rfl, rfl, Or.inl ⟨by omega, rfl⟩⟩
    · refine Rx.walk 2 (pc' := 23) (L' := [some (.ref 0), some (.int (iz ci)), some (.int (iz k))]) (st' := [.int (iz ci), .ref 0]) (h' := cmH (u1 (u1 (u1 (u1 (u1 z 0 0) 21 K) 28 M) 48 gw) 49 gm) zl (uf (uf (uf (uf (uf f 5 va) 8 prr) 9 pu) 23 be) 24 ta) fl tx) rfl ?_
      obtain ⟨hca, hcb, hcc, hcd⟩ := hcm.2.2 ci (by omega) (by omega)
      refine Rx.callx (m' := m_X12_layGift) (as := [.ref 0, .int (iz ci)]) (rest := []) rfl (m_layGift _ (u1 (u1 (u1 (u1 (u1 z 0 0) 21 K) 28 M) 48 gw) 49 gm) zl (uf (uf (uf (uf (uf f 5 va) 8 prr) 9 pu) 23 be) 24 ta) fl tx  ci K va prr pu w gw gm be ta ⟨by omega, by omega⟩ ⟨by omega, by omega⟩ hva hw hca hcd) (fun v19 h20 q21 => ?_)
      obtain ⟨r_13, gw_14, gm_15, be_16, ta_17, rfl, rfl, f18⟩ := q21
      refine Rx.walk 0 (pc' := 26) (L' := [some (.ref 0), some (.int (iz ci)), some (.int (iz k))]) (st' := [.int (iz r_13)]) (h' := cmH (u1 (u1 (u1 (u1 (u1 z 0 0) 21 K) 28 M) 48 gw_14) 49 gm_15) zl (uf (uf (uf (uf (uf f 5 va) 8 prr) 9 pu) 23 be_16) 24 ta_17) fl tx) rfl ?_
      have hrb : r_13 = 0 ∨ r_13 = 1 := by rcases f18 with q | q; exact Or.inl q.1; exact Or.inr q.1
      refine Rx.eq1 rfl rfl ⟨by omega, by omega⟩ (fun b22 => ?_) (fun b22 => ?_)
      · refine Rx.walk 1 (pc' := 39) (L' := [some (.ref 0), some (.int (iz ci)), some (.int (iz k))]) (st' := [.int (iz (-1))]) (h' := cmH (u1 (u1 (u1 (u1 (u1 z 0 0) 21 K) 28 M) 48 gw_14) 49 gm_15) zl (uf (uf (uf (uf (uf f 5 va) 8 prr) 9 pu) 23 be_16) 24 ta_17) fl tx) rfl ?_
        refine Rx.ret rfl ?_
        refine ⟨_, _, _, _, _, rfl, rfl, Or.inr ⟨by omega, by omega, by omega, by omega, ?_⟩⟩
        exact Or.inl ⟨by rcases f18 with q | q; exact q.2; (exfalso; omega), rfl⟩
      · refine Rx.walk 3 (pc' := 34) (L' := [some (.ref 0), some (.int (iz ci)), some (.int (iz k))]) (st' := [.int (iz k), .ref 23]) (h' := cmH (u1 (u1 (u1 (u1 (u1 z 0 0) 21 K) 28 M) 48 gw_14) 49 gm_15) zl (uf (uf (uf (uf (uf f 5 va) 8 prr) 9 pu) 23 be_16) 24 ta_17) fl tx) rfl ?_
        refine Rx.ial (g := be_16) rfl rfl (by omega) (by omega) (by omega) ?_
        refine Rx.walk 1 (pc' := 39) (L' := [some (.ref 0), some (.int (iz ci)), some (.int (iz k))]) (st' := [.int (iz (be_16 k))]) (h' := cmH (u1 (u1 (u1 (u1 (u1 z 0 0) 21 K) 28 M) 48 gw_14) 49 gm_15) zl (uf (uf (uf (uf (uf f 5 va) 8 prr) 9 pu) 23 be_16) 24 ta_17) fl tx) rfl ?_
        refine Rx.ret rfl ?_
        refine ⟨_, _, _, _, _, rfl, rfl, Or.inr ⟨by omega, by omega, by omega, by omega, ?_⟩⟩
        rcases f18 with q | ⟨q1, q2, q3, q4, q5⟩
        · exfalso; omega
        · refine Or.inr ⟨_, q2, ?_⟩
          rw [cnt_hG (by omega), if_pos (by omega)]
          have := q5 k (by omega) (by omega)
          omega

/-! customers: what a record says; customer, gives of the class (printed by wip/whole/gencu.py) -/
def cuH (X : CuR) (w : Int → Int) (K pr : Int) (cn : Int → Int) : Prop := (X.2.2.2.2.2.2.2 = -1 ∧ ∀ l, ¬ giS w K pr cn l) ∨ (0 ≤ X.2.2.2.2.2.2.2 ∧ X.2.2.2.2.2.2.2 < X.2.2.2.1 ∧ bsH w (giS w K pr cn) (hnd X X.2.2.2.2.2.2.2 0))
def cuQ (X : CuR) (K pr : Int) (cn : Int → Int) : Prop := X.1 = pr ∧ (1 ≤ pr ∧ pr ≤ 99) ∧ (0 ≤ X.2.2.1 ∧ X.2.2.1 ≤ 4) ∧ (∀ i : Int, 0 ≤ i → i < X.2.2.1 → 1 ≤ X.2.1 i ∧ X.2.1 i ≤ 4) ∧ lsI X.2.2.1.toNat X.2.1 = hG cn K.toNat ∧ ∀ k : Int, 0 ≤ k → k < K → 0 ≤ cn k
def cuB (C : Nat → CuR) (w : Int → Int) (K M : Int) (prs : Int → Int) (cns : Int → Int → Int) : Prop := ∀ c : Int, 0 ≤ c → c < M → cuH (C c.toNat) w K (prs c) (cns c) ∧ cuQ (C c.toNat) K (prs c) (cns c)
theorem hnd_L {w : Int → Int} {prc co se ch : Int} {Pu hd hz sp : Int → Int} {L : List (List Int)} (h : rcI w prc se hd hz sp ch L) {s : Nat} (hs : s < L.length) : hnd (prc, Pu, co, se, hd, hz, sp, ch) s 0 = L.getD s [] := by
  obtain ⟨a, b, c, d⟩ := h
  obtain ⟨b1, b2, b3⟩ := b s hs
  show lsI (hz s - 0).toNat (fun i => hd ((s : Int) * 4 + (0 + i))) = _
  rw [show (hz s - 0).toNat = (L.getD s []).length by omega]
  exact (lsI_congr (n := (L.getD s []).length) (g := fun i => hd ((s : Int) * 4 + (0 + i))) (h := fun i => hd ((s : Int) * 4 + i)) (fun i i0 i1 => by show hd _ = hd _; congr 1; omega)).trans b2
/-- the record that a customer becomes -/
theorem cu_of {w : Int → Int} {K prc co se ch : Int} {Pu hd hz sp cn : Int → Int} {L : List (List Int)} (hw : wOK w) (h1 : 1 ≤ K) (h4 : K ≤ 4) (hpr : 1 ≤ prc ∧ prc ≤ 99) (hco : 0 ≤ co ∧ co ≤ 4) (hP : lsI co.toNat Pu = hG cn K.toNat) (hcn : ∀ k : Int, 0 ≤ k → k < K → 0 ≤ cn k) (hR : rcI w prc se hd hz sp ch L) (hse : se ≤ 15) (hL : ∀ l, l ∈ L ↔ ∃ m : Int, 1 ≤ m ∧ m < pw2 co ∧ ¬ dpM Pu m co.toNat ∧ prc ≤ wL w (sbM Pu m co.toNat) ∧ l = sbM Pu m co.toNat) : cuI (prc, Pu, co, se, hd, hz, sp, ch) ∧ cuG (prc, Pu, co, se, hd, hz, sp, ch) w K prc cn ∧ cuH (prc, Pu, co, se, hd, hz, sp, ch) w K prc cn ∧ cuQ (prc, Pu, co, se, hd, hz, sp, ch) K prc cn := by
  have hpw := pw2_b co
  have hll : (lsI co.toNat Pu).length ≤ 4 := by rw [lsI_len]; omega
  have hp2 : pw2 co = ((2 ^ co.toNat : Nat) : Int) := by
    rcases (show co = 0 ∨ co = 1 ∨ co = 2 ∨ co = 3 ∨ co = 4 by omega) with rfl | rfl | rfl | rfl | rfl <;> rfl
  have hPd : ∀ i : Int, 0 ≤ i → i < co → 1 ≤ Pu i ∧ Pu i ≤ 4 := fun i a b => by
    have q : Pu i ∈ hG cn K.toNat := by rw [← hP]; exact mem_lsI.mpr ⟨i, a, by omega, rfl⟩
    have := hG_d q
    omega
  have giN : ∀ gv, gOK K cn gv → ∀ i : Int, 0 ≤ i → i < (K.toNat : Int) → 0 ≤ gv i := fun gv hg i a b => (hg i a (by omega)).1
  have memG : ∀ l, l ∈ L ↔ giS w K prc cn l := fun l => by
    rw [hL l]
    constructor
    · rintro ⟨m, m1, m2, m3, m4, rfl⟩
      rw [sb_eq Pu (by omega) (by omega) (by omega)] at *
      obtain ⟨gv, g1, g2⟩ := mk_gift hcn h1 h4 hP hll (m := m.toNat) (by rw [lsI_len]; omega)
      refine ⟨gv, g1, ?_, g2⟩
      rw [g2, wL_hG w (giN gv g1)] at m4
      exact m4
    · rintro ⟨gv, g1, g2, rfl⟩
      have hne : hG gv K.toNat ≠ [] := fun q => by
        rw [← wL_hG w (giN gv g1), q] at g2
        have : wL w [] = 0 := rfl
        omega
      obtain ⟨m, m1, m2, m3, m4⟩ := gift_mk h1 h4 hP hll g1 hne
      rw [lsI_len] at m2
      refine ⟨(m : Int), by omega, by omega, ?_, ?_, ?_⟩
      · rw [dp_eq Pu (by omega) (by omega) (by omega)]
        show ¬ dpL (lsI co.toNat Pu) m 0 1 = true
        rw [m3]
        decide
      · rw [sb_eq Pu (by omega) (by omega) (by omega)]
        show prc ≤ wL w (sbL (lsI co.toNat Pu) m)
        rw [m4, wL_hG w (giN gv g1)]
        exact g2
      · rw [sb_eq Pu (by omega) (by omega) (by omega)]
        exact m4.symm
  obtain ⟨a, b, c, d⟩ := id hR
  refine ⟨⟨?_, hse, ?_⟩, ⟨?_, ?_⟩, ?_, rfl, hpr, hco, hPd, hP, hcn⟩
  · show 0 ≤ se; omega
  · intro s s0 s1
    have s1 : s < se := s1
    obtain ⟨b1, b2, b3⟩ := b s.toNat (by omega)
    obtain ⟨c1, c2, c3⟩ := c _ (getD_mem (show s.toNat < L.length by omega))
    rw [Int.toNat_of_nonneg s0] at b1 b3
    have hb := wL_b hw c2 c1.2
    refine ⟨?_, ?_, ?_, ?_, ?_⟩
    · show 1 ≤ hz s; omega
    · show hz s ≤ 4; omega
    · show 0 ≤ sp s; omega
    · show sp s < 400; omega
    · intro i i0 i1
      have i1 : i < hz s := i1
      have q : hd (s * 4 + i) ∈ L.getD s.toNat [] := by
        rw [← b2]
        refine mem_lsI.mpr ⟨i, i0, by omega, ?_⟩
        show hd ((s.toNat : Int) * 4 + i) = _
        rw [Int.toNat_of_nonneg s0]
      exact c2 _ q
  · intro s s0 s1
    have s1 : s < se := s1
    have hs : s.toNat < L.length := by omega
    obtain ⟨gv, g1, g2, g3⟩ := (memG _).mp (getD_mem hs)
    have e := hnd_L (Pu := Pu) (co := co) hR hs
    rw [Int.toNat_of_nonneg s0] at e
    obtain ⟨b1, b2, b3⟩ := b s.toNat hs
    rw [Int.toNat_of_nonneg s0] at b3
    refine ⟨gv, g1, g2, e.trans g3, ?_⟩
    show sp s = _
    rw [b3, g3, wL_hG w (giN gv g1)]
  · intro gv g1 g2
    obtain ⟨s, hs, e⟩ := getD_ex ((memG _).mpr ⟨gv, g1, g2, rfl⟩)
    obtain ⟨b1, b2, b3⟩ := b s hs
    refine ⟨(s : Int), by omega, ?_, (hnd_L (Pu := Pu) (co := co) hR hs).trans e, ?_⟩
    · show (s : Int) < se; omega
    · show sp s = _
      rw [b3, e, wL_hG w (giN gv g1)]
  · rcases d with ⟨d1, d2⟩ | ⟨s, d1, d2, d3⟩
    · exact Or.inl ⟨d1, fun l hl => by have := (memG l).mpr hl; rw [d2] at this; cases this⟩
    · refine Or.inr ⟨?_, ?_, ?_⟩
      · show 0 ≤ ch; omega
      · show ch < se; omega
      · show bsH w _ (hnd _ ch 0)
        have e := hnd_L (Pu := Pu) (co := co) hR d2
        rw [← d1] at e
        rw [e]
        exact bsH_c d3 memG
theorem cuQ_cnt {X : CuR} {K pr : Int} {cn : Int → Int} (h : cuQ X K pr cn) (hK : 0 ≤ K) {k : Int} (k0 : 0 ≤ k) (k1 : k < K) : (((lsI X.2.2.1.toNat X.2.1).count (k + 1) : Nat) : Int) = cn k := by
  obtain ⟨h1, h2, h3, h4, h5, h6⟩ := h
  rw [h5, cnt_hG k0, if_pos (by omega)]
  have := h6 k k0 k1
  omega
theorem cnt_s (g : Int → Int) (x : Int) {i : Int} (i0 : 0 ≤ i) : (lsI (i + 1).toNat g).count x = (lsI i.toNat g).count x + (if g i = x then 1 else 0) := by
  rw [show (i + 1).toNat = i.toNat + 1 by omega, lsI_succ, List.count_append, Int.toNat_of_nonneg i0]
  congr 1
  rw [List.count_cons, List.count_nil]
  by_cases q : g i = x
  · rw [if_pos q, if_pos (by simp [q])]
  · rw [if_neg q, if_neg (by simp [q])]
theorem cnt_le (g : Int → Int) (x : Int) (n : Nat) : (lsI n g).count x ≤ n := Nat.le_trans List.count_le_length (by rw [lsI_len]; exact Nat.le_refl _)
set_option maxRecDepth 100000 in
set_option maxHeartbeats 4000000 in
theorem x_carries_l (d : Nat) (z : Nat → Nat → Int) (f : Nat → Int → Int) (C : Nat → CuR) (T : Nat → TsR) (rc : Nat → Nat) (tl : AmH)  (c : Nat) (k : Int) (hc : c < 4) (hk : 0 ≤ k ∧ k < 4) (hco : 0 ≤ (C c).2.2.1 ∧ (C c).2.2.1 ≤ 4) (hP : ∀ i : Int, 0 ≤ i → i < (C c).2.2.1 → 1 ≤ (C c).2.1 i ∧ (C c).2.1 i ≤ 4) (P : Option Value → AmH → Prop) (hx0 : ∀ (r : Int), (r = ((lsI (C c).2.2.1.toNat (C c).2.1).count (k + 1) : Int)) → P (some (.int (iz r))) (cxW z f C T rc tl)) : ∀ (kF : Nat) (fo : Int) (i : Int), (0 ≤ i) → (i ≤ (C c).2.2.1) → (fo = ((lsI i.toNat (C c).2.1).count (k + 1) : Int)) → ((C c).2.2.1 - i) < (kF : Int) → Rx (d) m_X2_carries 4 [some (.ref (cpl c)), some (.int (iz k)), some (.int (iz fo)), some (.int (iz i))] [] (cxW z f C T rc tl) P := by
  intro kF
  induction kF with
  | zero =>
    intro fo i i0 i1 hf hk
    exfalso; omega
  | succ kF ih =>
    intro fo i i0 i1 hf hk
    have hcl := cnt_le (C c).2.1 (k + 1) i.toNat
    refine Rx.walk 2 (pc' := 6) (L' := [some (.ref (cpl c)), some (.int (iz k)), some (.int (iz fo)), some (.int (iz i))]) (st' := [.ref (cpl c), .int (iz i)]) (h' := cxW z f C T rc tl) rfl ?_
    refine Rx.gfS rfl rfl (cW_C (by omega)) rfl ?_
    refine Rx.ge2 rfl rfl ⟨by omega, by omega⟩ ⟨by omega, by omega⟩ (fun b1 => ?_) (fun b1 => ?_)
    · refine Rx.walk 1 (pc' := 34) (L' := [some (.ref (cpl c)), some (.int (iz k)), some (.int (iz fo)), some (.int (iz i))]) (st' := [.int (iz fo)]) (h' := cxW z f C T rc tl) rfl ?_
      refine Rx.ret rfl ?_
      exact hx0 _ (by rw [hf, show i = (C c).2.2.1 by omega])
    · refine Rx.walk 1 (pc' := 13) (L' := [some (.ref (cpl c)), some (.int (iz k)), some (.int (iz fo)), some (.int (iz i))]) (st' := [.ref (cpl c)]) (h' := cxW z f C T rc tl) rfl ?_
      refine Rx.gfS rfl rfl (cW_C (by omega)) rfl ?_
      refine Rx.walk 1 (pc' := 17) (L' := [some (.ref (cpl c)), some (.int (iz k)), some (.int (iz fo)), some (.int (iz i))]) (st' := [.int (iz i), .ref (cpl c + 1)]) (h' := cxW z f C T rc tl) rfl ?_
      refine Rx.ial (g := ((C c).2.1)) rfl (cW_C1 (by omega)) (by omega) (by omega) (by omega) ?_
      have hpi := hP i i0 (by omega)
      refine Rx.walk 2 (pc' := 20) (L' := [some (.ref (cpl c)), some (.int (iz k)), some (.int (iz fo)), some (.int (iz i))]) (st' := [.int (iz 1), .int (iz k), .int (iz (((C c).2.1) i))]) (h' := cxW z f C T rc tl) rfl ?_
      refine Rx.iadd rfl ?_
      refine Rx.ne2 rfl rfl ⟨by omega, by omega⟩ ⟨by omega, by omega⟩ (fun b2 => ?_) (fun b2 => ?_)
      · refine Rx.iinc (b := 1) rfl rfl rfl ?_
        refine Rx.walk 0 (pc' := 30) (L' := [some (.ref (cpl c)), some (.int (iz k)), some (.int (iz fo)), some (.int (iz (i + 1)))]) (st' := []) (h' := cxW z f C T rc tl) rfl ?_
        refine Rx.walk 1 (pc' := 4) (L' := [some (.ref (cpl c)), some (.int (iz k)), some (.int (iz fo)), some (.int (iz (i + 1)))]) (st' := []) (h' := cxW z f C T rc tl) rfl ?_
        exact ih fo (i + 1) (by first | assumption | omega) (by first | assumption | omega) (by rw [cnt_s _ _ i0, if_neg (by omega), hf]; rfl) (by first | assumption | omega) 
      · refine Rx.iinc (b := 1) rfl rfl rfl ?_
        refine Rx.walk 0 (pc' := 27) (L' := [some (.ref (cpl c)), some (.int (iz k)), some (.int (iz (fo + 1))), some (.int (iz i))]) (st' := []) (h' := cxW z f C T rc tl) rfl ?_
        refine Rx.iinc (b := 1) rfl rfl rfl ?_
        refine Rx.walk 0 (pc' := 30) (L' := [some (.ref (cpl c)), some (.int (iz k)), some (.int (iz (fo + 1))), some (.int (iz (i + 1)))]) (st' := []) (h' := cxW z f C T rc tl) rfl ?_
        refine Rx.walk 1 (pc' := 4) (L' := [some (.ref (cpl c)), some (.int (iz k)), some (.int (iz (fo + 1))), some (.int (iz (i + 1)))]) (st' := []) (h' := cxW z f C T rc tl) rfl ?_
        exact ih (fo + 1) (i + 1) (by first | assumption | omega) (by first | assumption | omega) (by rw [cnt_s _ _ i0, if_pos (by omega), hf]; rfl) (by first | assumption | omega) 
set_option maxRecDepth 100000 in
set_option maxHeartbeats 4000000 in
theorem x_carries (d : Nat) (z : Nat → Nat → Int) (f : Nat → Int → Int) (C : Nat → CuR) (T : Nat → TsR) (rc : Nat → Nat) (tl : AmH)  (c : Nat) (k : Int) (hc : c < 4) (hk : 0 ≤ k ∧ k < 4) (hco : 0 ≤ (C c).2.2.1 ∧ (C c).2.2.1 ≤ 4) (hP : ∀ i : Int, 0 ≤ i → i < (C c).2.2.1 → 1 ≤ (C c).2.1 i ∧ (C c).2.1 i ≤ 4) : Rx (d) m_X2_carries 0 (am_ent [.ref (cpl c), .int (iz k)] 4) [] (cxW z f C T rc tl) (fun rv h => ∃ r : Int, rv = some (.int (iz r)) ∧ h = cxW z f C T rc tl ∧ r = ((lsI (C c).2.2.1.toNat (C c).2.1).count (k + 1) : Int)) := by
  refine Rx.walk 0 (pc' := 0) (L' := [some (.ref (cpl c)), some (.int (iz k)), none, none]) (st' := []) (h' := cxW z f C T rc tl) rfl ?_
  refine Rx.walk 4 (pc' := 4) (L' := [some (.ref (cpl c)), some (.int (iz k)), some (.int (iz 0)), some (.int (iz 0))]) (st' := []) (h' := cxW z f C T rc tl) rfl ?_
  refine x_carries_l _ z f C T rc tl  c k hc hk hco hP _ ?_ (((C c).2.2.1 - 0) + 1 : Int).toNat 0 0 (by first | assumption | omega) (by first | assumption | omega) rfl (by omega) 
  intro r_1 f2
  show (fun (rv : Option Value) (h : AmH) => ∃ r : Int, rv = some (.int (iz r)) ∧ h = cxW z f C T rc tl ∧ r = ((lsI (C c).2.2.1.toNat (C c).2.1).count (k + 1) : Int)) (some (Value.int (iz r_1))) (cxW z f C T rc tl)
  exact ⟨_, rfl, rfl, f2⟩
set_option maxRecDepth 100000 in
set_option maxHeartbeats 4000000 in
theorem x_givesBy_l (d : Nat) (z : Nat → Nat → Int) (f : Nat → Int → Int) (C : Nat → CuR) (T : Nat → TsR) (rc : Nat → Nat) (tl : AmH)  (c : Nat) (k : Int) (hc : c < 4) (hk : 0 ≤ k ∧ k < 4) (hch : 0 ≤ (C c).2.2.2.2.2.2.2 ∧ (C c).2.2.2.2.2.2.2 < (C c).2.2.2.1) (hC : cuI (C c)) (P : Option Value → AmH → Prop) (hx0 : ∀ (r : Int), (r = ((hnd (C c) ((C c).2.2.2.2.2.2.2) 0).count (k + 1) : Int)) → P (some (.int (iz r))) (cxW z f C T rc tl)) : ∀ (kF : Nat) (fo : Int) (i : Int), (0 ≤ i) → (i ≤ (C c).2.2.2.2.2.1 ((C c).2.2.2.2.2.2.2)) → (fo = ((lsI i.toNat (fun i => (C c).2.2.2.2.1 ((C c).2.2.2.2.2.2.2 * 4 + (0 + i)))).count (k + 1) : Int)) → ((C c).2.2.2.2.2.1 ((C c).2.2.2.2.2.2.2) - i) < (kF : Int) → Rx (d) m_X2_givesByRules 14 [some (.ref (cpl c)), some (.int (iz k)), some (.int (iz fo)), some (.int (iz i))] [] (cxW z f C T rc tl) P := by
  have hC1 := hC.2.1
  obtain ⟨hs1, hs2, hs3, hs4, hs5⟩ := hC.2.2 _ hch.1 hch.2
  intro kF
  induction kF with
  | zero =>
    intro fo i i0 i1 hf hk
    exfalso; omega
  | succ kF ih =>
    intro fo i i0 i1 hf hk
    have hcl := cnt_le (fun i => (C c).2.2.2.2.1 ((C c).2.2.2.2.2.2.2 * 4 + (0 + i))) (k + 1) i.toNat
    refine Rx.walk 2 (pc' := 16) (L' := [some (.ref (cpl c)), some (.int (iz k)), some (.int (iz fo)), some (.int (iz i))]) (st' := [.ref (cpl c), .int (iz i)]) (h' := cxW z f C T rc tl) rfl ?_
    refine Rx.gfS rfl rfl (cW_C (by omega)) rfl ?_
    refine Rx.walk 1 (pc' := 20) (L' := [some (.ref (cpl c)), some (.int (iz k)), some (.int (iz fo)), some (.int (iz i))]) (st' := [.ref (cpl c), .ref (cpl c + 3), .int (iz i)]) (h' := cxW z f C T rc tl) rfl ?_
    refine Rx.gfS rfl rfl (cW_C (by omega)) rfl ?_
    refine Rx.ial (g := ((C c).2.2.2.2.2.1)) rfl (cW_C3 (by omega)) (by omega) (by omega) (by omega) ?_
    refine Rx.ge2 rfl rfl ⟨by omega, by omega⟩ ⟨by omega, by omega⟩ (fun b1 => ?_) (fun b1 => ?_)
    · refine Rx.walk 1 (pc' := 56) (L' := [some (.ref (cpl c)), some (.int (iz k)), some (.int (iz fo)), some (.int (iz i))]) (st' := [.int (iz fo)]) (h' := cxW z f C T rc tl) rfl ?_
      refine Rx.ret rfl ?_
      exact hx0 _ (by rw [hf, show i = (C c).2.2.2.2.2.1 ((C c).2.2.2.2.2.2.2) by omega]; unfold hnd; rw [Int.sub_zero])
    · refine Rx.walk 1 (pc' := 28) (L' := [some (.ref (cpl c)), some (.int (iz k)), some (.int (iz fo)), some (.int (iz i))]) (st' := [.ref (cpl c)]) (h' := cxW z f C T rc tl) rfl ?_
      refine Rx.gfS rfl rfl (cW_C (by omega)) rfl ?_
      refine Rx.walk 1 (pc' := 32) (L' := [some (.ref (cpl c)), some (.int (iz k)), some (.int (iz fo)), some (.int (iz i))]) (st' := [.ref (cpl c), .ref (cpl c + 2)]) (h' := cxW z f C T rc tl) rfl ?_
      refine Rx.gfS rfl rfl (cW_C (by omega)) rfl ?_
      refine Rx.walk 1 (pc' := 36) (L' := [some (.ref (cpl c)), some (.int (iz k)), some (.int (iz fo)), some (.int (iz i))]) (st' := [.int (iz 4), .int (iz ((C c).2.2.2.2.2.2.2)), .ref (cpl c + 2)]) (h' := cxW z f C T rc tl) rfl ?_
      refine Rx.imul rfl ?_
      refine Rx.walk 1 (pc' := 38) (L' := [some (.ref (cpl c)), some (.int (iz k)), some (.int (iz fo)), some (.int (iz i))]) (st' := [.int (iz i), .int (iz (((C c).2.2.2.2.2.2.2) * 4)), .ref (cpl c + 2)]) (h' := cxW z f C T rc tl) rfl ?_
      refine Rx.iadd rfl ?_
      refine Rx.ial (g := ((C c).2.2.2.2.1)) rfl (cW_C2 (by omega)) (by omega) (by omega) (by omega) ?_
      have hpi := hs5 i i0 (by omega)
      refine Rx.walk 2 (pc' := 42) (L' := [some (.ref (cpl c)), some (.int (iz k)), some (.int (iz fo)), some (.int (iz i))]) (st' := [.int (iz 1), .int (iz k), .int (iz (((C c).2.2.2.2.1) ((((C c).2.2.2.2.2.2.2) * 4) + i)))]) (h' := cxW z f C T rc tl) rfl ?_
      refine Rx.iadd rfl ?_
      refine Rx.ne2 rfl rfl ⟨by omega, by omega⟩ ⟨by omega, by omega⟩ (fun b2 => ?_) (fun b2 => ?_)
      · refine Rx.iinc (b := 1) rfl rfl rfl ?_
        refine Rx.walk 0 (pc' := 52) (L' := [some (.ref (cpl c)), some (.int (iz k)), some (.int (iz fo)), some (.int (iz (i + 1)))]) (st' := []) (h' := cxW z f C T rc tl) rfl ?_
        refine Rx.walk 1 (pc' := 14) (L' := [some (.ref (cpl c)), some (.int (iz k)), some (.int (iz fo)), some (.int (iz (i + 1)))]) (st' := []) (h' := cxW z f C T rc tl) rfl ?_
        exact ih fo (i + 1) (by first | assumption | omega) (by first | assumption | omega) (by rw [cnt_s _ _ i0, if_neg (by show ¬ _ = _ ; rw [Int.zero_add]; omega), hf]; rfl) (by first | assumption | omega) 
      · refine Rx.iinc (b := 1) rfl rfl rfl ?_
        refine Rx.walk 0 (pc' := 49) (L' := [some (.ref (cpl c)), some (.int (iz k)), some (.int (iz (fo + 1))), some (.int (iz i))]) (st' := []) (h' := cxW z f C T rc tl) rfl ?_
        refine Rx.iinc (b := 1) rfl rfl rfl ?_
        refine Rx.walk 0 (pc' := 52) (L' := [some (.ref (cpl c)), some (.int (iz k)), some (.int (iz (fo + 1))), some (.int (iz (i + 1)))]) (st' := []) (h' := cxW z f C T rc tl) rfl ?_
        refine Rx.walk 1 (pc' := 14) (L' := [some (.ref (cpl c)), some (.int (iz k)), some (.int (iz (fo + 1))), some (.int (iz (i + 1)))]) (st' := []) (h' := cxW z f C T rc tl) rfl ?_
        exact ih (fo + 1) (i + 1) (by first | assumption | omega) (by first | assumption | omega) (by rw [cnt_s _ _ i0, if_pos (by show _ = _ ; rw [Int.zero_add]; omega), hf]; rfl) (by first | assumption | omega) 
set_option maxRecDepth 100000 in
set_option maxHeartbeats 4000000 in
theorem x_givesBy (d : Nat) (z : Nat → Nat → Int) (f : Nat → Int → Int) (C : Nat → CuR) (T : Nat → TsR) (rc : Nat → Nat) (tl : AmH)  (c : Nat) (k : Int) (hc : c < 4) (hk : 0 ≤ k ∧ k < 4) (hch : -1 ≤ (C c).2.2.2.2.2.2.2 ∧ (C c).2.2.2.2.2.2.2 < (C c).2.2.2.1) (hC : cuI (C c)) : Rx (d) m_X2_givesByRules 0 (am_ent [.ref (cpl c), .int (iz k)] 4) [] (cxW z f C T rc tl) (fun rv h => ∃ r : Int, rv = some (.int (iz r)) ∧ h = cxW z f C T rc tl ∧ (((C c).2.2.2.2.2.2.2 = -1 ∧ r = -1) ∨ (0 ≤ (C c).2.2.2.2.2.2.2 ∧ r = ((hnd (C c) ((C c).2.2.2.2.2.2.2) 0).count (k + 1) : Int)))) := by
  have hC1 := hC.2.1
  refine Rx.walk 0 (pc' := 0) (L' := [some (.ref (cpl c)), some (.int (iz k)), none, none]) (st' := []) (h' := cxW z f C T rc tl) rfl ?_
  refine Rx.walk 1 (pc' := 1) (L' := [some (.ref (cpl c)), some (.int (iz k)), none, none]) (st' := [.ref (cpl c)]) (h' := cxW z f C T rc tl) rfl ?_
  refine Rx.gfS rfl rfl (cW_C (by omega)) rfl ?_
  refine Rx.walk 1 (pc' := 5) (L' := [some (.ref (cpl c)), some (.int (iz k)), none, none]) (st' := [.int (iz (-1)), .int (iz ((C c).2.2.2.2.2.2.2))]) (h' := cxW z f C T rc tl) rfl ?_
  refine Rx.ne2 rfl rfl ⟨by omega, by omega⟩ ⟨by omega, by omega⟩ (fun b1 => ?_) (fun b1 => ?_)
  · refine Rx.walk 4 (pc' := 14) (L' := [some (.ref (cpl c)), some (.int (iz k)), some (.int (iz 0)), some (.int (iz 0))]) (st' := []) (h' := cxW z f C T rc tl) rfl ?_
    obtain ⟨hs1, hs2, hs3, hs4, hs5⟩ := hC.2.2 _ (show 0 ≤ (C c).2.2.2.2.2.2.2 by omega) hch.2
    refine x_givesBy_l _ z f C T rc tl  c k hc hk ⟨by omega, hch.2⟩ hC _ ?_ (((C c).2.2.2.2.2.1 ((C c).2.2.2.2.2.2.2) - 0) + 1 : Int).toNat 0 0 (by first | assumption | omega) (by first | assumption | omega) rfl (by omega) 
    intro r_2 f3
    show (fun (rv : Option Value) (h : AmH) => ∃ r : Int, rv = some (.int (iz r)) ∧ h = cxW z f C T rc tl ∧ (((C c).2.2.2.2.2.2.2 = -1 ∧ r = -1) ∨ (0 ≤ (C c).2.2.2.2.2.2.2 ∧ r = ((hnd (C c) ((C c).2.2.2.2.2.2.2) 0).count (k + 1) : Int)))) (some (Value.int (iz r_2))) (cxW z f C T rc tl)
    exact ⟨_, rfl, rfl, Or.inr ⟨by omega, f3⟩⟩
  · refine Rx.walk 1 (pc' := 9) (L' := [some (.ref (cpl c)), some (.int (iz k)), none, none]) (st' := [.int (iz (-1))]) (h' := cxW z f C T rc tl) rfl ?_
    refine Rx.ret rfl ?_
    exact ⟨_, rfl, rfl, Or.inl ⟨by omega, rfl⟩⟩
set_option maxRecDepth 100000 in
set_option maxHeartbeats 4000000 in
theorem x_customer (d : Nat) (z : Nat → Nat → Int) (f : Nat → Int → Int) (C : Nat → CuR) (T : Nat → TsR) (rc : Nat → Nat) (tl : AmH)  (ci : Int) (k : Int) (K : Int) (M : Int) (w : Int → Int) (prs : Int → Int) (cns : Int → Int → Int) (hc : bI ci) (hk : bI k) (hK : 0 ≤ K ∧ K ≤ 4) (hCA : cuA C w K M prs cns) (hCB : cuB C w K M prs cns) : Rx (d + 1) m_X11_customer 0 (am_ent [.ref 0, .int (iz ci), .int (iz k)] 3) [] (cxW (u2 (u2 z 0 6 M) 3 1 K) (uf f 4 w) C T rc tl) (fun rv h => ∃ r : Int, rv = some (.int (iz r)) ∧ h = cxW (u2 (u2 z 0 6 M) 3 1 K) (uf f 4 w) C T rc tl ∧ (((¬ (0 ≤ ci ∧ ci < M) ∨ (k ≠ -1 ∧ ¬ (0 ≤ k ∧ k < K))) ∧ r = -1) ∨ (0 ≤ ci ∧ ci < M ∧ ((k = -1 ∧ r = prs ci) ∨ (0 ≤ k ∧ k < K ∧ r = cns ci k))))) := by
  obtain ⟨hc1, hc2⟩ := id hc
  obtain ⟨hk1, hk2⟩ := id hk
  have hCA1 := hCA.1
  have hCA2 := hCA.2.1
  refine Rx.walk 0 (pc' := 0) (L' := [some (.ref 0), some (.int (iz ci)), some (.int (iz k))]) (st' := []) (h' := cxW (u2 (u2 z 0 6 M) 3 1 K) (uf f 4 w) C T rc tl) rfl ?_
  refine Rx.walk 2 (pc' := 2) (L' := [some (.ref 0), some (.int (iz ci)), some (.int (iz k))]) (st' := [.int (iz ci), .ref 0]) (h' := cxW (u2 (u2 z 0 6 M) 3 1 K) (uf f 4 w) C T rc tl) rfl ?_
  refine Rx.callx (m' := m_X11_isCustomer) (as := [.ref 0, .int (iz ci)]) (rest := []) rfl (x_isCust _ (u2 (u2 z 0 6 M) 3 1 K) (uf f 4 w) C T rc tl  ci M (by first | assumption | omega) hc) (fun v3 h4 q5 => ?_)
  obtain ⟨r_1, rfl, rfl, f2⟩ := q5
  refine Rx.walk 0 (pc' := 5) (L' := [some (.ref 0), some (.int (iz ci)), some (.int (iz k))]) (st' := [.int (iz r_1)]) (h' := cxW (u2 (u2 z 0 6 M) 3 1 K) (uf f 4 w) C T rc tl) rfl ?_
  refine Rx.ne1 rfl rfl ⟨by omega, by omega⟩ (fun b6 => ?_) (fun b6 => ?_)
  · refine Rx.walk 2 (pc' := 12) (L' := [some (.ref 0), some (.int (iz ci)), some (.int (iz k))]) (st' := [.int (iz (-1)), .int (iz k)]) (h' := cxW (u2 (u2 z 0 6 M) 3 1 K) (uf f 4 w) C T rc tl) rfl ?_
    refine Rx.ne2 rfl rfl ⟨by omega, by omega⟩ ⟨by omega, by omega⟩ (fun b7 => ?_) (fun b7 => ?_)
    · refine Rx.walk 3 (pc' := 30) (L' := [some (.ref 0), some (.int (iz ci)), some (.int (iz k))]) (st' := [.int (iz k), .ref 3]) (h' := cxW (u2 (u2 z 0 6 M) 3 1 K) (uf f 4 w) C T rc tl) rfl ?_
      refine Rx.callx (m' := m_X7_hasKind) (as := [.ref 3, .int (iz k)]) (rest := []) rfl (x_hasKind _ (u2 (u2 z 0 6 M) 3 1 K) (uf f 4 w) C T rc tl  k K (by first | assumption | omega) hk) (fun v10 h11 q12 => ?_)
      obtain ⟨r_8, rfl, rfl, f9⟩ := q12
      refine Rx.walk 0 (pc' := 33) (L' := [some (.ref 0), some (.int (iz ci)), some (.int (iz k))]) (st' := [.int (iz r_8)]) (h' := cxW (u2 (u2 z 0 6 M) 3 1 K) (uf f 4 w) C T rc tl) rfl ?_
      refine Rx.eq1 rfl rfl ⟨by omega, by omega⟩ (fun b13 => ?_) (fun b13 => ?_)
      · refine Rx.walk 1 (pc' := 50) (L' := [some (.ref 0), some (.int (iz ci)), some (.int (iz k))]) (st' := [.int (iz (-1))]) (h' := cxW (u2 (u2 z 0 6 M) 3 1 K) (uf f 4 w) C T rc tl) rfl ?_
        refine Rx.ret rfl ?_
        exact ⟨_, rfl, rfl, Or.inl ⟨by omega, rfl⟩⟩
      · refine Rx.walk 3 (pc' := 41) (L' := [some (.ref 0), some (.int (iz ci)), some (.int (iz k))]) (st' := [.int (iz ci), .ref 14]) (h' := cxW (u2 (u2 z 0 6 M) 3 1 K) (uf f 4 w) C T rc tl) rfl ?_
        obtain ⟨j14, hj14⟩ := Int.eq_ofNat_of_zero_le (show 0 ≤ ci by omega)
        refine Rx.aal j14 rfl rfl rfl hj14 (by omega) (by omega) (cus_at (by omega)) ?_
        refine Rx.walk 1 (pc' := 43) (L' := [some (.ref 0), some (.int (iz ci)), some (.int (iz k))]) (st' := [.int (iz k), .ref (cpl j14)]) (h' := cxW (u2 (u2 z 0 6 M) 3 1 K) (uf f 4 w) C T rc tl) rfl ?_
        obtain ⟨hQ1, hQ2⟩ := hCB ci (by omega) (by omega)
        have ej : ci.toNat = j14 := by omega
        rw [ej] at hQ1 hQ2
        have hQ3 := hQ2.2.2.1
        have hcnt := cuQ_cnt hQ2 hK.1 (k := k) (by omega) (by omega)
        refine Rx.callxv (m' := m_X2_carries) (as := [.ref (cpl j14), .int (iz k)]) (rest := []) rfl rfl rfl rfl (cW_Cr (by omega)) (x_carries _ (u2 (u2 z 0 6 M) 3 1 K) (uf f 4 w) C T rc tl  j14 k (by omega) ⟨by omega, by omega⟩ hQ3 hQ2.2.2.2.1) (fun v17 h18 q19 => ?_)
        obtain ⟨r_15, rfl, rfl, f16⟩ := q19
        refine Rx.walk 0 (pc' := 46) (L' := [some (.ref 0), some (.int (iz ci)), some (.int (iz k))]) (st' := [.int (iz r_15)]) (h' := cxW (u2 (u2 z 0 6 M) 3 1 K) (uf f 4 w) C T rc tl) rfl ?_
        refine Rx.walk 1 (pc' := 50) (L' := [some (.ref 0), some (.int (iz ci)), some (.int (iz k))]) (st' := [.int (iz r_15)]) (h' := cxW (u2 (u2 z 0 6 M) 3 1 K) (uf f 4 w) C T rc tl) rfl ?_
        refine Rx.ret rfl ?_
        exact ⟨_, rfl, rfl, Or.inr ⟨by omega, by omega, Or.inr ⟨by omega, by omega, by rw [f16]; exact hcnt⟩⟩⟩
    · refine Rx.walk 3 (pc' := 20) (L' := [some (.ref 0), some (.int (iz ci)), some (.int (iz k))]) (st' := [.int (iz ci), .ref 14]) (h' := cxW (u2 (u2 z 0 6 M) 3 1 K) (uf f 4 w) C T rc tl) rfl ?_
      obtain ⟨j20, hj20⟩ := Int.eq_ofNat_of_zero_le (show 0 ≤ ci by omega)
      refine Rx.aal j20 rfl rfl rfl hj20 (by omega) (by omega) (cus_at (by omega)) ?_
      refine Rx.gfS rfl rfl (cW_C (by omega)) rfl ?_
      refine Rx.ret rfl ?_
      obtain ⟨hQ1, hQ2⟩ := hCB ci (by omega) (by omega)
      have ej : ci.toNat = j20 := by omega
      rw [ej] at hQ1 hQ2
      exact ⟨_, rfl, rfl, Or.inr ⟨by omega, by omega, Or.inl ⟨by omega, hQ2.1⟩⟩⟩
  · refine Rx.walk 1 (pc' := 9) (L' := [some (.ref 0), some (.int (iz ci)), some (.int (iz k))]) (st' := [.int (iz (-1))]) (h' := cxW (u2 (u2 z 0 6 M) 3 1 K) (uf f 4 w) C T rc tl) rfl ?_
    refine Rx.ret rfl ?_
    exact ⟨_, rfl, rfl, Or.inl ⟨by omega, rfl⟩⟩
set_option maxRecDepth 100000 in
set_option maxHeartbeats 4000000 in
theorem x_gives (d : Nat) (z : Nat → Nat → Int) (f : Nat → Int → Int) (C : Nat → CuR) (T : Nat → TsR) (rc : Nat → Nat) (tl : AmH)  (ci : Int) (k : Int) (K : Int) (M : Int) (w : Int → Int) (prs : Int → Int) (cns : Int → Int → Int) (hc : bI ci) (hk : bI k) (hK : 0 ≤ K ∧ K ≤ 4) (hCA : cuA C w K M prs cns) (hCB : cuB C w K M prs cns) : Rx (d + 1) m_X11_gives 0 (am_ent [.ref 0, .int (iz ci), .int (iz k)] 3) [] (cxW (u2 (u2 z 0 6 M) 3 1 K) (uf f 4 w) C T rc tl) (fun rv h => ∃ r : Int, rv = some (.int (iz r)) ∧ h = cxW (u2 (u2 z 0 6 M) 3 1 K) (uf f 4 w) C T rc tl ∧ (((¬ (0 ≤ ci ∧ ci < M) ∨ ¬ (0 ≤ k ∧ k < K)) ∧ r = -1) ∨ (0 ≤ ci ∧ ci < M ∧ 0 ≤ k ∧ k < K ∧ (((∀ l, ¬ giS w K (prs ci) (cns ci) l) ∧ r = -1) ∨ ∃ h, bsH w (giS w K (prs ci) (cns ci)) h ∧ r = (h.count (k + 1) : Int))))) := by
  obtain ⟨hc1, hc2⟩ := id hc
  obtain ⟨hk1, hk2⟩ := id hk
  have hCA1 := hCA.1
  have hCA2 := hCA.2.1
  refine Rx.walk 0 (pc' := 0) (L' := [some (.ref 0), some (.int (iz ci)), some (.int (iz k))]) (st' := []) (h' := cxW (u2 (u2 z 0 6 M) 3 1 K) (uf f 4 w) C T rc tl) rfl ?_
  refine Rx.walk 2 (pc' := 2) (L' := [some (.ref 0), some (.int (iz ci)), some (.int (iz k))]) (st' := [.int (iz ci), .ref 0]) (h' := cxW (u2 (u2 z 0 6 M) 3 1 K) (uf f 4 w) C T rc tl) rfl ?_
  refine Rx.callx (m' := m_X11_isCustomer) (as := [.ref 0, .int (iz ci)]) (rest := []) rfl (x_isCust _ (u2 (u2 z 0 6 M) 3 1 K) (uf f 4 w) C T rc tl  ci M (by first | assumption | omega) hc) (fun v3 h4 q5 => ?_)
  obtain ⟨r_1, rfl, rfl, f2⟩ := q5
  refine Rx.walk 0 (pc' := 5) (L' := [some (.ref 0), some (.int (iz ci)), some (.int (iz k))]) (st' := [.int (iz r_1)]) (h' := cxW (u2 (u2 z 0 6 M) 3 1 K) (uf f 4 w) C T rc tl) rfl ?_
  refine Rx.eq1 rfl rfl ⟨by omega, by omega⟩ (fun b6 => ?_) (fun b6 => ?_)
  · refine Rx.walk 1 (pc' := 20) (L' := [some (.ref 0), some (.int (iz ci)), some (.int (iz k))]) (st' := [.int (iz (-1))]) (h' := cxW (u2 (u2 z 0 6 M) 3 1 K) (uf f 4 w) C T rc tl) rfl ?_
    refine Rx.ret rfl ?_
    exact ⟨_, rfl, rfl, Or.inl ⟨by omega, rfl⟩⟩
  · refine Rx.walk 3 (pc' := 13) (L' := [some (.ref 0), some (.int (iz ci)), some (.int (iz k))]) (st' := [.int (iz k), .ref 3]) (h' := cxW (u2 (u2 z 0 6 M) 3 1 K) (uf f 4 w) C T rc tl) rfl ?_
    refine Rx.callx (m' := m_X7_hasKind) (as := [.ref 3, .int (iz k)]) (rest := []) rfl (x_hasKind _ (u2 (u2 z 0 6 M) 3 1 K) (uf f 4 w) C T rc tl  k K (by first | assumption | omega) (by first | assumption | omega)) (fun v9 h10 q11 => ?_)
    obtain ⟨r_7, rfl, rfl, f8⟩ := q11
    refine Rx.walk 0 (pc' := 16) (L' := [some (.ref 0), some (.int (iz ci)), some (.int (iz k))]) (st' := [.int (iz r_7)]) (h' := cxW (u2 (u2 z 0 6 M) 3 1 K) (uf f 4 w) C T rc tl) rfl ?_
    refine Rx.ne1 rfl rfl ⟨by omega, by omega⟩ (fun b12 => ?_) (fun b12 => ?_)
    · refine Rx.walk 3 (pc' := 26) (L' := [some (.ref 0), some (.int (iz ci)), some (.int (iz k))]) (st' := [.int (iz ci), .ref 14]) (h' := cxW (u2 (u2 z 0 6 M) 3 1 K) (uf f 4 w) C T rc tl) rfl ?_
      obtain ⟨j13, hj13⟩ := Int.eq_ofNat_of_zero_le (show 0 ≤ ci by omega)
      refine Rx.aal j13 rfl rfl rfl hj13 (by omega) (by omega) (cus_at (by omega)) ?_
      refine Rx.walk 1 (pc' := 28) (L' := [some (.ref 0), some (.int (iz ci)), some (.int (iz k))]) (st' := [.int (iz k), .ref (cpl j13)]) (h' := cxW (u2 (u2 z 0 6 M) 3 1 K) (uf f 4 w) C T rc tl) rfl ?_
      obtain ⟨hQ1, hQ2⟩ := hCB ci (by omega) (by omega)
      obtain ⟨hC, hG⟩ := hCA.2.2 ci (by omega) (by omega)
      have ej : ci.toNat = j13 := by omega
      rw [ej] at hQ1 hQ2 hC
      have hC1 := hC.1
      have hch : -1 ≤ (C j13).2.2.2.2.2.2.2 ∧ (C j13).2.2.2.2.2.2.2 < (C j13).2.2.2.1 := by rcases hQ1 with q | q; (have := q.1; omega); exact ⟨by have := q.1; omega, q.2.1⟩
      refine Rx.callxv (m' := m_X2_givesByRules) (as := [.ref (cpl j13), .int (iz k)]) (rest := []) rfl rfl rfl rfl (cW_Cr (by omega)) (x_givesBy _ (u2 (u2 z 0 6 M) 3 1 K) (uf f 4 w) C T rc tl  j13 k (by omega) ⟨by omega, by omega⟩ hch hC) (fun v16 h17 q18 => ?_)
      obtain ⟨r_14, rfl, rfl, f15⟩ := q18
      refine Rx.walk 0 (pc' := 31) (L' := [some (.ref 0), some (.int (iz ci)), some (.int (iz k))]) (st' := [.int (iz r_14)]) (h' := cxW (u2 (u2 z 0 6 M) 3 1 K) (uf f 4 w) C T rc tl) rfl ?_
      refine Rx.ret rfl ?_
      refine ⟨_, rfl, rfl, Or.inr ⟨by omega, by omega, by omega, by omega, ?_⟩⟩
      rcases hQ1 with ⟨q1, q2⟩ | ⟨q1, q2, q3⟩
      · exact Or.inl ⟨q2, by rcases f15 with z | z; exact z.2; (have := z.1; omega)⟩
      · exact Or.inr ⟨_, q3, by rcases f15 with z | z; (have := z.1; omega); exact z.2⟩
    · refine Rx.walk 1 (pc' := 20) (L' := [some (.ref 0), some (.int (iz ci)), some (.int (iz k))]) (st' := [.int (iz (-1))]) (h' := cxW (u2 (u2 z 0 6 M) 3 1 K) (uf f 4 w) C T rc tl) rfl ?_
      refine Rx.ret rfl ?_
      exact ⟨_, rfl, rfl, Or.inl ⟨by omega, rfl⟩⟩

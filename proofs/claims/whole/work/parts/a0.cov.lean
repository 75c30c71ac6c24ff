/-! cover, customer (printed by wip/whole/gencov.py) -/
/-- the least of two, none being -1 -/
def cmb (a b : Int) : Int := if b = -1 then a else if a = -1 then b else min a b
def lmA (g : Int → Int) (o k : Int) : Nat → Int → Int
  | 0, _ => -1
  | n + 1, a => if g (o + n) = k then a else lmA g o k n (a + 1)
theorem lmA_b (g : Int → Int) (o k : Int) : ∀ (n : Nat) (a : Int), 0 ≤ a → lmA g o k n a = -1 ∨ (a ≤ lmA g o k n a ∧ lmA g o k n a < a + n)
  | 0, a, _ => Or.inl rfl
  | n + 1, a, h => by
    show (if g (o + n) = k then a else lmA g o k n (a + 1)) = -1 ∨ (a ≤ (if g (o + n) = k then a else lmA g o k n (a + 1)) ∧ (if g (o + n) = k then a else lmA g o k n (a + 1)) < a + ((n + 1 : Nat) : Int))
    split
    · exact Or.inr ⟨Int.le_refl _, by omega⟩
    · rcases lmA_b g o k n (a + 1) (by omega) with q | q
      · exact Or.inl q
      · exact Or.inr ⟨by omega, by omega⟩
theorem prI_lm {K : Int} {g : Int → Int} {o k : Int} : ∀ {n : Nat} {p a : Int} (f : Nat), n ≤ f → 0 ≤ p → prI K g o n p → cabF k f a p = lmA g o k n a
  | 0, p, a, f, _, _, h => by
    have h : p = 0 := h
    subst h
    cases f with
    | zero => rfl
    | succ f => rfl
  | n + 1, p, a, 0, hf, _, _ => by omega
  | n + 1, p, a, f + 1, hf, h0, h => by
    obtain ⟨h1, h2, h3, h4⟩ := h
    show (if 0 < p then (if p % 5 = k + 1 then a else cabF k f (a + 1) (p / 5)) else -1) = if g (o + n) = k then a else lmA g o k n (a + 1)
    rw [if_pos (by omega), prI_lm f (by omega) (by omega) h4]
    by_cases q : p % 5 = k + 1
    · rw [if_pos q, if_pos (by omega)]
    · rw [if_neg q, if_neg (by omega)]
theorem lmA_s (g : Int → Int) (o k : Int) {i : Int} (a : Int) (i0 : 0 ≤ i) : lmA g o k (i + 1).toNat a = if g (o + i) = k then a else lmA g o k i.toNat (a + 1) := by
  rw [show (i + 1).toNat = i.toNat + 1 by omega]
  show (if g (o + (i.toNat : Int)) = k then a else lmA g o k i.toNat (a + 1)) = _
  rw [Int.toNat_of_nonneg i0]
/-- the answer of cover -/
def cvR (K p0 p1 t k r : Int) : Prop := (¬ (0 ≤ k ∧ k < K) ∧ r = -1) ∨ (0 ≤ k ∧ k < K ∧ r = if t = k + 1 then 0 else cmb (cab p0 k) (cab p1 k))
theorem cabF_b (k : Int) : ∀ (n : Nat) (a p : Int), 0 ≤ a → -1 ≤ cabF k n a p ∧ cabF k n a p < a + n + 1
  | 0, a, p, h => by show (-1 : Int) ≤ -1 ∧ (-1 : Int) < a + 0 + 1; omega
  | n + 1, a, p, h => by
    have := cabF_b k n (a + 1) (p / 5) (by omega)
    show -1 ≤ (if 0 < p then (if p % 5 = k + 1 then a else cabF k n (a + 1) (p / 5)) else -1) ∧ (if 0 < p then (if p % 5 = k + 1 then a else cabF k n (a + 1) (p / 5)) else -1) < a + ((n + 1 : Nat) : Int) + 1
    split
    · split <;> omega
    · omega
theorem cab_b (p k : Int) : -1 ≤ cab p k ∧ cab p k ≤ 5 := by
  have := cabF_b k 5 0 p (by omega)
  unfold cab
  omega
theorem cab_0 (k : Int) : cab 0 k = -1 := rfl
set_option maxRecDepth 100000 in
set_option maxHeartbeats 4000000 in
theorem x_cover (d : Nat) (z : Nat → Nat → Int) (f : Nat → Int → Int) (C : Nat → CuR) (T : Nat → TsR) (rc : Nat → Nat) (tl : AmH)  (k : Int) (sd : Int) (K : Int) (pi_ : Int) (len : Int) (tr : Int) (p0 : Int) (p1 : Int) (t0 : Int) (hk : bI k) (hK : 0 ≤ K ∧ K ≤ 4) (hpi : 0 ≤ pi_ ∧ pi_ ≤ 2) (hlen : 0 ≤ len ∧ len ≤ 5) (htr : 0 ≤ tr ∧ tr ≤ 1) (hp0 : 0 ≤ p0 ∧ p0 < 3125) (hp1 : 0 ≤ p1 ∧ p1 < 3125) (ht0 : 0 ≤ t0) (ht4 : t0 ≤ 4) (hti : sd = tn p0 p1 t0) : Rx (d + 1) m_X11_cover 0 (am_ent [.ref 0, .int (iz k)] 4) [] (cxW (u2 (u2 (u2 (u2 (u2 z 0 9 sd) 3 1 K) 3 2 pi_) 3 3 len) 3 4 tr) f C T rc tl) (fun rv h => ∃ r : Int, rv = some (.int (iz r)) ∧ h = cxW (u2 (u2 (u2 (u2 (u2 z 0 9 sd) 3 1 K) 3 2 pi_) 3 3 len) 3 4 tr) f C T rc tl ∧ cvR K p0 p1 t0 k r) := by
  obtain ⟨hk1, hk2⟩ := id hk
  obtain ⟨e0, e1, e2⟩ := tn_0 (p0 := p0) hp1.1 hp1.2 ht0 ht4
  have e3 := tw_c ht0 ht4
  rw [← hti] at e0 e1 e2
  have e4 : 0 ≤ sd ∧ sd < 2147483648 := by rw [hti]; unfold tn; omega
  have e5 : sd = (p0 * 3125 + p1) * 16 + tw t0 := hti
  have hz0 := ht_c p0
  have hz1 := ht_c p1
  have htb := tbit_c t0
  have hbt := bc_tw ht0 ht4
  refine Rx.walk 0 (pc' := 0) (L' := [some (.ref 0), some (.int (iz k)), none, none]) (st' := []) (h' := cxW (u2 (u2 (u2 (u2 (u2 z 0 9 sd) 3 1 K) 3 2 pi_) 3 3 len) 3 4 tr) f C T rc tl) rfl ?_
  refine Rx.walk 3 (pc' := 5) (L' := [some (.ref 0), some (.int (iz k)), none, none]) (st' := [.int (iz k), .ref 3]) (h' := cxW (u2 (u2 (u2 (u2 (u2 z 0 9 sd) 3 1 K) 3 2 pi_) 3 3 len) 3 4 tr) f C T rc tl) rfl ?_
  refine Rx.callx (m' := m_X7_hasKind) (as := [.ref 3, .int (iz k)]) (rest := []) rfl (x_hasKind _ (u2 (u2 (u2 (u2 (u2 z 0 9 sd) 3 1 K) 3 2 pi_) 3 3 len) 3 4 tr) f C T rc tl  k K (by first | assumption | omega) (by first | assumption | omega)) (fun v3 h4 q5 => ?_)
  obtain ⟨r_1, rfl, rfl, f2⟩ := q5
  refine Rx.walk 0 (pc' := 8) (L' := [some (.ref 0), some (.int (iz k)), none, none]) (st' := [.int (iz r_1)]) (h' := cxW (u2 (u2 (u2 (u2 (u2 z 0 9 sd) 3 1 K) 3 2 pi_) 3 3 len) 3 4 tr) f C T rc tl) rfl ?_
  refine Rx.ne1 rfl rfl ⟨by omega, by omega⟩ (fun b6 => ?_) (fun b6 => ?_)
  · refine Rx.walk 2 (pc' := 17) (L' := [some (.ref 0), some (.int (iz k)), none, none]) (st' := [.int (iz sd)]) (h' := cxW (u2 (u2 (u2 (u2 (u2 z 0 9 sd) 3 1 K) 3 2 pi_) 3 3 len) 3 4 tr) f C T rc tl) rfl ?_
    refine Rx.callx (m' := m_X10_trayOf) (as := [.int (iz sd)]) (rest := []) rfl (n_trayOf _ (cxW (u2 (u2 (u2 (u2 (u2 z 0 9 sd) 3 1 K) 3 2 pi_) 3 3 len) 3 4 tr) f C T rc tl)  sd (by first | assumption | omega) (by first | assumption | omega)) (fun v9 h10 q11 => ?_)
    obtain ⟨r_7, rfl, rfl, f8⟩ := q11
    refine Rx.walk 0 (pc' := 20) (L' := [some (.ref 0), some (.int (iz k)), none, none]) (st' := [.int (iz r_7)]) (h' := cxW (u2 (u2 (u2 (u2 (u2 z 0 9 sd) 3 1 K) 3 2 pi_) 3 3 len) 3 4 tr) f C T rc tl) rfl ?_
    refine Rx.walk 1 (pc' := 21) (L' := [some (.ref 0), some (.int (iz k)), none, none]) (st' := [.int (iz k), .int (iz r_7)]) (h' := cxW (u2 (u2 (u2 (u2 (u2 z 0 9 sd) 3 1 K) 3 2 pi_) 3 3 len) 3 4 tr) f C T rc tl) rfl ?_
    refine Rx.ishr (c := (r_7 / p2 k)) rfl (p2_shr (by omega) (by omega) (by omega) (by omega)) ?_
    refine Rx.walk 1 (pc' := 23) (L' := [some (.ref 0), some (.int (iz k)), none, none]) (st' := [.int (iz 1), .int (iz (r_7 / p2 k))]) (h' := cxW (u2 (u2 (u2 (u2 (u2 z 0 9 sd) 3 1 K) 3 2 pi_) 3 3 len) 3 4 tr) f C T rc tl) rfl ?_
    refine Rx.iand (c := (hb r_7 k)) rfl (iz_and1 _) ?_
    have hbb : hb r_7 k = if t0 = k + 1 then 1 else 0 := by rw [f8, e2]; exact hb_tw ht0 ht4 (by omega) (by omega)
    have hbr := hb_b r_7 k
    refine Rx.walk 1 (pc' := 25) (L' := [some (.ref 0), some (.int (iz k)), none, none]) (st' := [.int (iz 1), .int (iz (hb r_7 k))]) (h' := cxW (u2 (u2 (u2 (u2 (u2 z 0 9 sd) 3 1 K) 3 2 pi_) 3 3 len) 3 4 tr) f C T rc tl) rfl ?_
    refine Rx.ne2 rfl rfl ⟨by omega, by omega⟩ ⟨by omega, by omega⟩ (fun b12 => ?_) (fun b12 => ?_)
    · have hb1 := b12
      refine Rx.walk 3 (pc' := 35) (L' := [some (.ref 0), some (.int (iz k)), none, none]) (st' := [.int (iz 0), .int (iz sd)]) (h' := cxW (u2 (u2 (u2 (u2 (u2 z 0 9 sd) 3 1 K) 3 2 pi_) 3 3 len) 3 4 tr) f C T rc tl) rfl ?_
      refine Rx.callx (m' := m_X10_pipeOf) (as := [.int (iz sd), .int (iz 0)]) (rest := []) rfl (n_pipeOf _ (cxW (u2 (u2 (u2 (u2 (u2 z 0 9 sd) 3 1 K) 3 2 pi_) 3 3 len) 3 4 tr) f C T rc tl)  sd 0 (by first | assumption | omega) (by first | assumption | omega) ⟨by omega, by omega⟩) (fun v15 h16 q17 => ?_)
      obtain ⟨r_13, rfl, rfl, f14⟩ := q17
      refine Rx.walk 0 (pc' := 38) (L' := [some (.ref 0), some (.int (iz k)), none, none]) (st' := [.int (iz r_13)]) (h' := cxW (u2 (u2 (u2 (u2 (u2 z 0 9 sd) 3 1 K) 3 2 pi_) 3 3 len) 3 4 tr) f C T rc tl) rfl ?_
      refine Rx.walk 1 (pc' := 39) (L' := [some (.ref 0), some (.int (iz k)), none, none]) (st' := [.int (iz k), .int (iz r_13)]) (h' := cxW (u2 (u2 (u2 (u2 (u2 z 0 9 sd) 3 1 K) 3 2 pi_) 3 3 len) 3 4 tr) f C T rc tl) rfl ?_
      refine Rx.callx (m' := m_X10_coinsAbove) (as := [.int (iz r_13), .int (iz k)]) (rest := []) rfl (n_coinsAbove _ (cxW (u2 (u2 (u2 (u2 (u2 z 0 9 sd) 3 1 K) 3 2 pi_) 3 3 len) 3 4 tr) f C T rc tl)  r_13 k (by omega) (by omega) (by first | assumption | omega) (by first | assumption | omega)) (fun v20 h21 q22 => ?_)
      obtain ⟨r_18, rfl, rfl, f19⟩ := q22
      refine Rx.walk 0 (pc' := 42) (L' := [some (.ref 0), some (.int (iz k)), none, none]) (st' := [.int (iz r_18)]) (h' := cxW (u2 (u2 (u2 (u2 (u2 z 0 9 sd) 3 1 K) 3 2 pi_) 3 3 len) 3 4 tr) f C T rc tl) rfl ?_
      have hq0 := cab_b r_13 k
      refine Rx.walk 4 (pc' := 48) (L' := [some (.ref 0), some (.int (iz k)), some (.int (iz r_18)), none]) (st' := [.int (iz 1), .int (iz sd)]) (h' := cxW (u2 (u2 (u2 (u2 (u2 z 0 9 sd) 3 1 K) 3 2 pi_) 3 3 len) 3 4 tr) f C T rc tl) rfl ?_
      refine Rx.callx (m' := m_X10_pipeOf) (as := [.int (iz sd), .int (iz 1)]) (rest := []) rfl (n_pipeOf _ (cxW (u2 (u2 (u2 (u2 (u2 z 0 9 sd) 3 1 K) 3 2 pi_) 3 3 len) 3 4 tr) f C T rc tl)  sd 1 (by first | assumption | omega) (by first | assumption | omega) ⟨by omega, by omega⟩) (fun v25 h26 q27 => ?_)
      obtain ⟨r_23, rfl, rfl, f24⟩ := q27
      refine Rx.walk 0 (pc' := 51) (L' := [some (.ref 0), some (.int (iz k)), some (.int (iz r_18)), none]) (st' := [.int (iz r_23)]) (h' := cxW (u2 (u2 (u2 (u2 (u2 z 0 9 sd) 3 1 K) 3 2 pi_) 3 3 len) 3 4 tr) f C T rc tl) rfl ?_
      refine Rx.walk 1 (pc' := 52) (L' := [some (.ref 0), some (.int (iz k)), some (.int (iz r_18)), none]) (st' := [.int (iz k), .int (iz r_23)]) (h' := cxW (u2 (u2 (u2 (u2 (u2 z 0 9 sd) 3 1 K) 3 2 pi_) 3 3 len) 3 4 tr) f C T rc tl) rfl ?_
      refine Rx.callx (m' := m_X10_coinsAbove) (as := [.int (iz r_23), .int (iz k)]) (rest := []) rfl (n_coinsAbove _ (cxW (u2 (u2 (u2 (u2 (u2 z 0 9 sd) 3 1 K) 3 2 pi_) 3 3 len) 3 4 tr) f C T rc tl)  r_23 k (by omega) (by omega) (by first | assumption | omega) (by first | assumption | omega)) (fun v30 h31 q32 => ?_)
      obtain ⟨r_28, rfl, rfl, f29⟩ := q32
      refine Rx.walk 0 (pc' := 55) (L' := [some (.ref 0), some (.int (iz k)), some (.int (iz r_18)), none]) (st' := [.int (iz r_28)]) (h' := cxW (u2 (u2 (u2 (u2 (u2 z 0 9 sd) 3 1 K) 3 2 pi_) 3 3 len) 3 4 tr) f C T rc tl) rfl ?_
      have hq1 := cab_b r_23 k
      refine Rx.walk 3 (pc' := 58) (L' := [some (.ref 0), some (.int (iz k)), some (.int (iz r_18)), some (.int (iz r_28))]) (st' := [.int (iz (-1)), .int (iz r_18)]) (h' := cxW (u2 (u2 (u2 (u2 (u2 z 0 9 sd) 3 1 K) 3 2 pi_) 3 3 len) 3 4 tr) f C T rc tl) rfl ?_
      refine Rx.eq2 rfl rfl ⟨by omega, by omega⟩ ⟨by omega, by omega⟩ (fun b33 => ?_) (fun b33 => ?_)
      · refine Rx.walk 2 (pc' := 68) (L' := [some (.ref 0), some (.int (iz k)), some (.int (iz r_18)), some (.int (iz r_28))]) (st' := [.int (iz r_28), .int (iz r_18)]) (h' := cxW (u2 (u2 (u2 (u2 (u2 z 0 9 sd) 3 1 K) 3 2 pi_) 3 3 len) 3 4 tr) f C T rc tl) rfl ?_
        refine Rx.imax rfl ⟨by omega, by omega⟩ ⟨by omega, by omega⟩ ?_
        refine Rx.ret rfl ?_
        have ht_ : t0 ≠ k + 1 := fun q => by rw [hbb, if_pos q] at hb1; omega
        have hc0 := cab_b p0 k
        have hc1 := cab_b p1 k
        have ea : r_18 = cab p0 k := by rw [f19, show r_13 = p0 by omega]
        have eb : r_28 = cab p1 k := by rw [f29, show r_23 = p1 by omega]
        refine ⟨_, rfl, rfl, Or.inr ⟨by omega, by omega, ?_⟩⟩
        rw [if_neg ht_]
        unfold cmb
        split
        · omega
        · split <;> omega
      · refine Rx.walk 2 (pc' := 63) (L' := [some (.ref 0), some (.int (iz k)), some (.int (iz r_18)), some (.int (iz r_28))]) (st' := [.int (iz (-1)), .int (iz r_28)]) (h' := cxW (u2 (u2 (u2 (u2 (u2 z 0 9 sd) 3 1 K) 3 2 pi_) 3 3 len) 3 4 tr) f C T rc tl) rfl ?_
        refine Rx.ne2 rfl rfl ⟨by omega, by omega⟩ ⟨by omega, by omega⟩ (fun b34 => ?_) (fun b34 => ?_)
        · refine Rx.walk 2 (pc' := 74) (L' := [some (.ref 0), some (.int (iz k)), some (.int (iz r_18)), some (.int (iz r_28))]) (st' := [.int (iz r_28), .int (iz r_18)]) (h' := cxW (u2 (u2 (u2 (u2 (u2 z 0 9 sd) 3 1 K) 3 2 pi_) 3 3 len) 3 4 tr) f C T rc tl) rfl ?_
          refine Rx.imin rfl ⟨by omega, by omega⟩ ⟨by omega, by omega⟩ ?_
          refine Rx.ret rfl ?_
          have ht_ : t0 ≠ k + 1 := fun q => by rw [hbb, if_pos q] at hb1; omega
          have hc0 := cab_b p0 k
          have hc1 := cab_b p1 k
          have ea : r_18 = cab p0 k := by rw [f19, show r_13 = p0 by omega]
          have eb : r_28 = cab p1 k := by rw [f29, show r_23 = p1 by omega]
          refine ⟨_, rfl, rfl, Or.inr ⟨by omega, by omega, ?_⟩⟩
          rw [if_neg ht_]
          unfold cmb
          split
          · omega
          · split <;> omega
        · refine Rx.walk 2 (pc' := 68) (L' := [some (.ref 0), some (.int (iz k)), some (.int (iz r_18)), some (.int (iz r_28))]) (st' := [.int (iz r_28), .int (iz r_18)]) (h' := cxW (u2 (u2 (u2 (u2 (u2 z 0 9 sd) 3 1 K) 3 2 pi_) 3 3 len) 3 4 tr) f C T rc tl) rfl ?_
          refine Rx.imax rfl ⟨by omega, by omega⟩ ⟨by omega, by omega⟩ ?_
          refine Rx.ret rfl ?_
          have ht_ : t0 ≠ k + 1 := fun q => by rw [hbb, if_pos q] at hb1; omega
          have hc0 := cab_b p0 k
          have hc1 := cab_b p1 k
          have ea : r_18 = cab p0 k := by rw [f19, show r_13 = p0 by omega]
          have eb : r_28 = cab p1 k := by rw [f29, show r_23 = p1 by omega]
          refine ⟨_, rfl, rfl, Or.inr ⟨by omega, by omega, ?_⟩⟩
          rw [if_neg ht_]
          unfold cmb
          split
          · omega
          · split <;> omega
    · have hb1 := b12
      refine Rx.walk 1 (pc' := 29) (L' := [some (.ref 0), some (.int (iz k)), none, none]) (st' := [.int (iz 0)]) (h' := cxW (u2 (u2 (u2 (u2 (u2 z 0 9 sd) 3 1 K) 3 2 pi_) 3 3 len) 3 4 tr) f C T rc tl) rfl ?_
      refine Rx.ret rfl ?_
      exact ⟨_, rfl, rfl, Or.inr ⟨by omega, by omega, by rw [if_pos (by rcases (show t0 = k + 1 ∨ t0 ≠ k + 1 by omega) with q | q; exact q; (rw [hbb, if_neg q] at hb1; omega))]⟩⟩
  · refine Rx.walk 1 (pc' := 12) (L' := [some (.ref 0), some (.int (iz k)), none, none]) (st' := [.int (iz (-1))]) (h' := cxW (u2 (u2 (u2 (u2 (u2 z 0 9 sd) 3 1 K) 3 2 pi_) 3 3 len) 3 4 tr) f C T rc tl) rfl ?_
    refine Rx.ret rfl ?_
    exact ⟨_, rfl, rfl, Or.inl ⟨by omega, rfl⟩⟩
set_option maxRecDepth 100000 in
set_option maxHeartbeats 4000000 in
theorem m_cover_l0 (d : Nat) (z : Nat → Int) (zl : Nat → Int) (f : Nat → Int → Int) (fl : Nat → Int → Int) (tx : Nat)  (K : Int) (p0 : Int) (p1 : Int) (t : Int) (pp : Int → Int) (li : Int → Int) (ty : Int → Int) (k : Int) (f0 : Int) (hM : mtI K pp li ty p0 p1 t) (hf0 : -1 ≤ f0 ∧ f0 ≤ 5) (hkb : 0 ≤ k ∧ k < 4) (P : Option Value → AmH → Prop) (hx0 : ∀ (fe' : Int) (i' : Int) (w5' : Option Value), (fe' = cmb f0 (cab p0 k)) → (-1 ≤ fe' ∧ fe' ≤ 5) → Rx (d) m_X12_cover 102 [some (.ref 0), some (.int (iz k)), some (.int (iz fe')), some (.int (iz 0)), some (.int (iz i')), w5'] [] (cmH z zl (uf (uf (uf f 10 pp) 11 li) 12 ty) fl tx) P) : ∀ (kF : Nat) (fe : Int) (i : Int) (w5 : Option Value), (0 ≤ i) → (i ≤ li 0) → (fe = cmb f0 (lmA pp 0 k i.toNat (li 0 - i))) → (li 0 - i) < (kF : Int) → Rx (d) m_X12_cover 43 [some (.ref 0), some (.int (iz k)), some (.int (iz fe)), some (.int (iz 0)), some (.int (iz i)), w5] [] (cmH z zl (uf (uf (uf f 10 pp) 11 li) 12 ty) fl tx) P := by
  intro kF
  induction kF with
  | zero =>
    intro fe i w5 i0 i1 hf hk
    exfalso; omega
  | succ kF ih =>
    intro fe i w5 i0 i1 hf hk
    obtain ⟨⟨hm1, hm2, hm3⟩, ⟨hm4, hm5, hm6⟩, hm7, hm8, hm9⟩ := mtI_b hM
    have hzz := ht_c p0
    have hlb := lmA_b pp 0 k i.toNat (li 0 - i) (by omega)
    have hfb : -1 ≤ fe ∧ fe ≤ 5 := by rw [hf]; unfold cmb; split; omega; split <;> omega
    have hls := lmA_s pp 0 k (li 0 - (i + 1)) i0
    rw [show li 0 - (i + 1) + 1 = li 0 - i by omega] at hls
    refine Rx.walk 4 (pc' := 50) (L' := [some (.ref 0), some (.int (iz k)), some (.int (iz fe)), some (.int (iz 0)), some (.int (iz i)), w5]) (st' := [.int (iz 0), .ref 11, .int (iz i)]) (h' := cmH z zl (uf (uf (uf f 10 pp) 11 li) 12 ty) fl tx) rfl ?_
    refine Rx.ial (g := li) rfl rfl (by omega) (by omega) (by omega) ?_
    refine Rx.ge2 rfl rfl ⟨by omega, by omega⟩ ⟨by omega, by omega⟩ (fun b1 => ?_) (fun b1 => ?_)
    · exact hx0 _ _ _ (by rw [hf, show i = li 0 by omega, show li 0 - li 0 = 0 by omega]; obtain ⟨n, n5, nl, np⟩ := hM.2.2.1; unfold cab; rw [prI_lm 5 n5 (by omega) np, show (li 0).toNat = n by omega]) hfb
    · refine Rx.walk 3 (pc' := 59) (L' := [some (.ref 0), some (.int (iz k)), some (.int (iz fe)), some (.int (iz 0)), some (.int (iz i)), w5]) (st' := [.int (iz 0), .ref 11]) (h' := cmH z zl (uf (uf (uf f 10 pp) 11 li) 12 ty) fl tx) rfl ?_
      refine Rx.ial (g := li) rfl rfl (by omega) (by omega) (by omega) ?_
      refine Rx.walk 1 (pc' := 61) (L' := [some (.ref 0), some (.int (iz k)), some (.int (iz fe)), some (.int (iz 0)), some (.int (iz i)), w5]) (st' := [.int (iz 1), .int (iz (li 0))]) (h' := cmH z zl (uf (uf (uf f 10 pp) 11 li) 12 ty) fl tx) rfl ?_
      refine Rx.isub rfl ?_
      refine Rx.walk 1 (pc' := 64) (L' := [some (.ref 0), some (.int (iz k)), some (.int (iz fe)), some (.int (iz 0)), some (.int (iz i)), w5]) (st' := [.int (iz i), .int (iz ((li 0) - 1))]) (h' := cmH z zl (uf (uf (uf f 10 pp) 11 li) 12 ty) fl tx) rfl ?_
      refine Rx.isub rfl ?_
      refine Rx.walk 5 (pc' := 73) (L' := [some (.ref 0), some (.int (iz k)), some (.int (iz fe)), some (.int (iz 0)), some (.int (iz i)), some (.int (iz (((li 0) - 1) - i)))]) (st' := [.int (iz 0), .int (iz 5), .ref 10]) (h' := cmH z zl (uf (uf (uf f 10 pp) 11 li) 12 ty) fl tx) rfl ?_
      refine Rx.imul rfl ?_
      refine Rx.walk 0 (pc' := 74) (L' := [some (.ref 0), some (.int (iz k)), some (.int (iz fe)), some (.int (iz 0)), some (.int (iz i)), some (.int (iz (((li 0) - 1) - i)))]) (st' := [.int (iz 0), .ref 10]) (h' := cmH z zl (uf (uf (uf f 10 pp) 11 li) 12 ty) fl tx) rfl ?_
      refine Rx.walk 1 (pc' := 76) (L' := [some (.ref 0), some (.int (iz k)), some (.int (iz fe)), some (.int (iz 0)), some (.int (iz i)), some (.int (iz (((li 0) - 1) - i)))]) (st' := [.int (iz i), .int (iz 0), .ref 10]) (h' := cmH z zl (uf (uf (uf f 10 pp) 11 li) 12 ty) fl tx) rfl ?_
      refine Rx.iadd rfl ?_
      refine Rx.ial (g := pp) rfl rfl (by omega) (by omega) (by omega) ?_
      have hpv : 0 ≤ (pp (0 + i)) ∧ (pp (0 + i)) < 4 := by obtain ⟨n, n5, nl, np⟩ := hM.2.2.1; have q := (pv_b (m := i.toNat) hm9 np (by omega) (by omega) n5).2.2 (by omega); rw [show (0 : Int) + (i.toNat : Int) = ((0 + i)) by omega] at q; omega
      have hpe : (pp (0 + i)) = pp (0 + i) := by congr 1
      refine Rx.walk 1 (pc' := 79) (L' := [some (.ref 0), some (.int (iz k)), some (.int (iz fe)), some (.int (iz 0)), some (.int (iz i)), some (.int (iz (((li 0) - 1) - i)))]) (st' := [.int (iz k), .int (iz (pp (0 + i)))]) (h' := cmH z zl (uf (uf (uf f 10 pp) 11 li) 12 ty) fl tx) rfl ?_
      refine Rx.ne2 rfl rfl ⟨by omega, by omega⟩ ⟨by omega, by omega⟩ (fun b2 => ?_) (fun b2 => ?_)
      · refine Rx.iinc (b := 1) rfl rfl rfl ?_
        refine Rx.walk 0 (pc' := 99) (L' := [some (.ref 0), some (.int (iz k)), some (.int (iz fe)), some (.int (iz 0)), some (.int (iz (i + 1))), some (.int (iz (((li 0) - 1) - i)))]) (st' := []) (h' := cmH z zl (uf (uf (uf f 10 pp) 11 li) 12 ty) fl tx) rfl ?_
        refine Rx.walk 1 (pc' := 43) (L' := [some (.ref 0), some (.int (iz k)), some (.int (iz fe)), some (.int (iz 0)), some (.int (iz (i + 1))), some (.int (iz (((li 0) - 1) - i)))]) (st' := []) (h' := cmH z zl (uf (uf (uf f 10 pp) 11 li) 12 ty) fl tx) rfl ?_
        exact ih fe (i + 1) (some (.int (iz (((li 0) - 1) - i)))) (by first | assumption | omega) (by first | assumption | omega) (by rw [hls, if_neg (by omega)]; exact hf) (by first | assumption | omega) 
      · refine Rx.walk 2 (pc' := 84) (L' := [some (.ref 0), some (.int (iz k)), some (.int (iz fe)), some (.int (iz 0)), some (.int (iz i)), some (.int (iz (((li 0) - 1) - i)))]) (st' := [.int (iz (-1)), .int (iz fe)]) (h' := cmH z zl (uf (uf (uf f 10 pp) 11 li) 12 ty) fl tx) rfl ?_
        refine Rx.eq2 rfl rfl ⟨by omega, by omega⟩ ⟨by omega, by omega⟩ (fun b3 => ?_) (fun b3 => ?_)
        · refine Rx.walk 2 (pc' := 96) (L' := [some (.ref 0), some (.int (iz k)), some (.int (iz (((li 0) - 1) - i))), some (.int (iz 0)), some (.int (iz i)), some (.int (iz (((li 0) - 1) - i)))]) (st' := []) (h' := cmH z zl (uf (uf (uf f 10 pp) 11 li) 12 ty) fl tx) rfl ?_
          refine Rx.iinc (b := 1) rfl rfl rfl ?_
          refine Rx.walk 0 (pc' := 99) (L' := [some (.ref 0), some (.int (iz k)), some (.int (iz (((li 0) - 1) - i))), some (.int (iz 0)), some (.int (iz (i + 1))), some (.int (iz (((li 0) - 1) - i)))]) (st' := []) (h' := cmH z zl (uf (uf (uf f 10 pp) 11 li) 12 ty) fl tx) rfl ?_
          refine Rx.walk 1 (pc' := 43) (L' := [some (.ref 0), some (.int (iz k)), some (.int (iz (((li 0) - 1) - i))), some (.int (iz 0)), some (.int (iz (i + 1))), some (.int (iz (((li 0) - 1) - i)))]) (st' := []) (h' := cmH z zl (uf (uf (uf f 10 pp) 11 li) 12 ty) fl tx) rfl ?_
          exact ih (((li 0) - 1) - i) (i + 1) (some (.int (iz (((li 0) - 1) - i)))) (by first | assumption | omega) (by first | assumption | omega) (by rw [hls, if_pos (by omega)]; rw [hf] at *; unfold cmb at *; repeat' split at *; all_goals omega) (by first | assumption | omega) 
        · refine Rx.walk 2 (pc' := 90) (L' := [some (.ref 0), some (.int (iz k)), some (.int (iz fe)), some (.int (iz 0)), some (.int (iz i)), some (.int (iz (((li 0) - 1) - i)))]) (st' := [.int (iz fe), .int (iz (((li 0) - 1) - i))]) (h' := cmH z zl (uf (uf (uf f 10 pp) 11 li) 12 ty) fl tx) rfl ?_
          refine Rx.ge2 rfl rfl ⟨by omega, by omega⟩ ⟨by omega, by omega⟩ (fun b4 => ?_) (fun b4 => ?_)
          · refine Rx.iinc (b := 1) rfl rfl rfl ?_
            refine Rx.walk 0 (pc' := 99) (L' := [some (.ref 0), some (.int (iz k)), some (.int (iz fe)), some (.int (iz 0)), some (.int (iz (i + 1))), some (.int (iz (((li 0) - 1) - i)))]) (st' := []) (h' := cmH z zl (uf (uf (uf f 10 pp) 11 li) 12 ty) fl tx) rfl ?_
            refine Rx.walk 1 (pc' := 43) (L' := [some (.ref 0), some (.int (iz k)), some (.int (iz fe)), some (.int (iz 0)), some (.int (iz (i + 1))), some (.int (iz (((li 0) - 1) - i)))]) (st' := []) (h' := cmH z zl (uf (uf (uf f 10 pp) 11 li) 12 ty) fl tx) rfl ?_
            exact ih fe (i + 1) (some (.int (iz (((li 0) - 1) - i)))) (by first | assumption | omega) (by first | assumption | omega) (by rw [hls, if_pos (by omega)]; rw [hf] at *; unfold cmb at *; repeat' split at *; all_goals omega) (by first | assumption | omega) 
          · refine Rx.walk 2 (pc' := 96) (L' := [some (.ref 0), some (.int (iz k)), some (.int (iz (((li 0) - 1) - i))), some (.int (iz 0)), some (.int (iz i)), some (.int (iz (((li 0) - 1) - i)))]) (st' := []) (h' := cmH z zl (uf (uf (uf f 10 pp) 11 li) 12 ty) fl tx) rfl ?_
            refine Rx.iinc (b := 1) rfl rfl rfl ?_
            refine Rx.walk 0 (pc' := 99) (L' := [some (.ref 0), some (.int (iz k)), some (.int (iz (((li 0) - 1) - i))), some (.int (iz 0)), some (.int (iz (i + 1))), some (.int (iz (((li 0) - 1) - i)))]) (st' := []) (h' := cmH z zl (uf (uf (uf f 10 pp) 11 li) 12 ty) fl tx) rfl ?_
            refine Rx.walk 1 (pc' := 43) (L' := [some (.ref 0), some (.int (iz k)), some (.int (iz (((li 0) - 1) - i))), some (.int (iz 0)), some (.int (iz (i + 1))), some (.int (iz (((li 0) - 1) - i)))]) (st' := []) (h' := cmH z zl (uf (uf (uf f 10 pp) 11 li) 12 ty) fl tx) rfl ?_
            exact ih (((li 0) - 1) - i) (i + 1) (some (.int (iz (((li 0) - 1) - i)))) (by first | assumption | omega) (by first | assumption | omega) (by rw [hls, if_pos (by omega)]; rw [hf] at *; unfold cmb at *; repeat' split at *; all_goals omega) (by first | assumption | omega) 
set_option maxRecDepth 100000 in
set_option maxHeartbeats 4000000 in
theorem m_cover_l1 (d : Nat) (z : Nat → Int) (zl : Nat → Int) (f : Nat → Int → Int) (fl : Nat → Int → Int) (tx : Nat)  (K : Int) (p0 : Int) (p1 : Int) (t : Int) (pp : Int → Int) (li : Int → Int) (ty : Int → Int) (k : Int) (f0 : Int) (hM : mtI K pp li ty p0 p1 t) (hf0 : -1 ≤ f0 ∧ f0 ≤ 5) (hkb : 0 ≤ k ∧ k < 4) (P : Option Value → AmH → Prop) (hx0 : ∀ (fe' : Int) (i' : Int) (w5' : Option Value), (fe' = cmb f0 (cab p1 k)) → (-1 ≤ fe' ∧ fe' ≤ 5) → Rx (d) m_X12_cover 102 [some (.ref 0), some (.int (iz k)), some (.int (iz fe')), some (.int (iz 1)), some (.int (iz i')), w5'] [] (cmH z zl (uf (uf (uf f 10 pp) 11 li) 12 ty) fl tx) P) : ∀ (kF : Nat) (fe : Int) (i : Int) (w5 : Option Value), (0 ≤ i) → (i ≤ li 1) → (fe = cmb f0 (lmA pp 5 k i.toNat (li 1 - i))) → (li 1 - i) < (kF : Int) → Rx (d) m_X12_cover 43 [some (.ref 0), some (.int (iz k)), some (.int (iz fe)), some (.int (iz 1)), some (.int (iz i)), w5] [] (cmH z zl (uf (uf (uf f 10 pp) 11 li) 12 ty) fl tx) P := by
  intro kF
  induction kF with
  | zero =>
    intro fe i w5 i0 i1 hf hk
    exfalso; omega
  | succ kF ih =>
    intro fe i w5 i0 i1 hf hk
    obtain ⟨⟨hm1, hm2, hm3⟩, ⟨hm4, hm5, hm6⟩, hm7, hm8, hm9⟩ := mtI_b hM
    have hzz := ht_c p1
    have hlb := lmA_b pp 5 k i.toNat (li 1 - i) (by omega)
    have hfb : -1 ≤ fe ∧ fe ≤ 5 := by rw [hf]; unfold cmb; split; omega; split <;> omega
    have hls := lmA_s pp 5 k (li 1 - (i + 1)) i0
    rw [show li 1 - (i + 1) + 1 = li 1 - i by omega] at hls
    refine Rx.walk 4 (pc' := 50) (L' := [some (.ref 0), some (.int (iz k)), some (.int (iz fe)), some (.int (iz 1)), some (.int (iz i)), w5]) (st' := [.int (iz 1), .ref 11, .int (iz i)]) (h' := cmH z zl (uf (uf (uf f 10 pp) 11 li) 12 ty) fl tx) rfl ?_
    refine Rx.ial (g := li) rfl rfl (by omega) (by omega) (by omega) ?_
    refine Rx.ge2 rfl rfl ⟨by omega, by omega⟩ ⟨by omega, by omega⟩ (fun b1 => ?_) (fun b1 => ?_)
    · exact hx0 _ _ _ (by rw [hf, show i = li 1 by omega, show li 1 - li 1 = 0 by omega]; obtain ⟨n, n5, nl, np⟩ := hM.2.2.2.1; unfold cab; rw [prI_lm 5 n5 (by omega) np, show (li 1).toNat = n by omega]) hfb
    · refine Rx.walk 3 (pc' := 59) (L' := [some (.ref 0), some (.int (iz k)), some (.int (iz fe)), some (.int (iz 1)), some (.int (iz i)), w5]) (st' := [.int (iz 1), .ref 11]) (h' := cmH z zl (uf (uf (uf f 10 pp) 11 li) 12 ty) fl tx) rfl ?_
      refine Rx.ial (g := li) rfl rfl (by omega) (by omega) (by omega) ?_
      refine Rx.walk 1 (pc' := 61) (L' := [some (.ref 0), some (.int (iz k)), some (.int (iz fe)), some (.int (iz 1)), some (.int (iz i)), w5]) (st' := [.int (iz 1), .int (iz (li 1))]) (h' := cmH z zl (uf (uf (uf f 10 pp) 11 li) 12 ty) fl tx) rfl ?_
      refine Rx.isub rfl ?_
      refine Rx.walk 1 (pc' := 64) (L' := [some (.ref 0), some (.int (iz k)), some (.int (iz fe)), some (.int (iz 1)), some (.int (iz i)), w5]) (st' := [.int (iz i), .int (iz ((li 1) - 1))]) (h' := cmH z zl (uf (uf (uf f 10 pp) 11 li) 12 ty) fl tx) rfl ?_
      refine Rx.isub rfl ?_
      refine Rx.walk 5 (pc' := 73) (L' := [some (.ref 0), some (.int (iz k)), some (.int (iz fe)), some (.int (iz 1)), some (.int (iz i)), some (.int (iz (((li 1) - 1) - i)))]) (st' := [.int (iz 1), .int (iz 5), .ref 10]) (h' := cmH z zl (uf (uf (uf f 10 pp) 11 li) 12 ty) fl tx) rfl ?_
      refine Rx.imul rfl ?_
      refine Rx.walk 0 (pc' := 74) (L' := [some (.ref 0), some (.int (iz k)), some (.int (iz fe)), some (.int (iz 1)), some (.int (iz i)), some (.int (iz (((li 1) - 1) - i)))]) (st' := [.int (iz 5), .ref 10]) (h' := cmH z zl (uf (uf (uf f 10 pp) 11 li) 12 ty) fl tx) rfl ?_
      refine Rx.walk 1 (pc' := 76) (L' := [some (.ref 0), some (.int (iz k)), some (.int (iz fe)), some (.int (iz 1)), some (.int (iz i)), some (.int (iz (((li 1) - 1) - i)))]) (st' := [.int (iz i), .int (iz 5), .ref 10]) (h' := cmH z zl (uf (uf (uf f 10 pp) 11 li) 12 ty) fl tx) rfl ?_
      refine Rx.iadd rfl ?_
      refine Rx.ial (g := pp) rfl rfl (by omega) (by omega) (by omega) ?_
      have hpv : 0 ≤ (pp (5 + i)) ∧ (pp (5 + i)) < 4 := by obtain ⟨n, n5, nl, np⟩ := hM.2.2.2.1; have q := (pv_b (m := i.toNat) hm9 np (by omega) (by omega) n5).2.2 (by omega); rw [show (5 : Int) + (i.toNat : Int) = ((5 + i)) by omega] at q; omega
      have hpe : (pp (5 + i)) = pp (5 + i) := by congr 1
      refine Rx.walk 1 (pc' := 79) (L' := [some (.ref 0), some (.int (iz k)), some (.int (iz fe)), some (.int (iz 1)), some (.int (iz i)), some (.int (iz (((li 1) - 1) - i)))]) (st' := [.int (iz k), .int (iz (pp (5 + i)))]) (h' := cmH z zl (uf (uf (uf f 10 pp) 11 li) 12 ty) fl tx) rfl ?_
      refine Rx.ne2 rfl rfl ⟨by omega, by omega⟩ ⟨by omega, by omega⟩ (fun b2 => ?_) (fun b2 => ?_)
      · refine Rx.iinc (b := 1) rfl rfl rfl ?_
        refine Rx.walk 0 (pc' := 99) (L' := [some (.ref 0), some (.int (iz k)), some (.int (iz fe)), some (.int (iz 1)), some (.int (iz (i + 1))), some (.int (iz (((li 1) - 1) - i)))]) (st' := []) (h' := cmH z zl (uf (uf (uf f 10 pp) 11 li) 12 ty) fl tx) rfl ?_
        refine Rx.walk 1 (pc' := 43) (L' := [some (.ref 0), some (.int (iz k)), some (.int (iz fe)), some (.int (iz 1)), some (.int (iz (i + 1))), some (.int (iz (((li 1) - 1) - i)))]) (st' := []) (h' := cmH z zl (uf (uf (uf f 10 pp) 11 li) 12 ty) fl tx) rfl ?_
        exact ih fe (i + 1) (some (.int (iz (((li 1) - 1) - i)))) (by first | assumption | omega) (by first | assumption | omega) (by rw [hls, if_neg (by omega)]; exact hf) (by first | assumption | omega) 
      · refine Rx.walk 2 (pc' := 84) (L' := [some (.ref 0), some (.int (iz k)), some (.int (iz fe)), some (.int (iz 1)), some (.int (iz i)), some (.int (iz (((li 1) - 1) - i)))]) (st' := [.int (iz (-1)), .int (iz fe)]) (h' := cmH z zl (uf (uf (uf f 10 pp) 11 li) 12 ty) fl tx) rfl ?_
        refine Rx.eq2 rfl rfl ⟨by omega, by omega⟩ ⟨by omega, by omega⟩ (fun b3 => ?_) (fun b3 => ?_)
        · refine Rx.walk 2 (pc' := 96) (L' := [some (.ref 0), some (.int (iz k)), some (.int (iz (((li 1) - 1) - i))), some (.int (iz 1)), some (.int (iz i)), some (.int (iz (((li 1) - 1) - i)))]) (st' := []) (h' := cmH z zl (uf (uf (uf f 10 pp) 11 li) 12 ty) fl tx) rfl ?_
          refine Rx.iinc (b := 1) rfl rfl rfl ?_
          refine Rx.walk 0 (pc' := 99) (L' := [some (.ref 0), some (.int (iz k)), some (.int (iz (((li 1) - 1) - i))), some (.int (iz 1)), some (.int (iz (i + 1))), some (.int (iz (((li 1) - 1) - i)))]) (st' := []) (h' := cmH z zl (uf (uf (uf f 10 pp) 11 li) 12 ty) fl tx) rfl ?_
          refine Rx.walk 1 (pc' := 43) (L' := [some (.ref 0), some (.int (iz k)), some (.int (iz (((li 1) - 1) - i))), some (.int (iz 1)), some (.int (iz (i + 1))), some (.int (iz (((li 1) - 1) - i)))]) (st' := []) (h' := cmH z zl (uf (uf (uf f 10 pp) 11 li) 12 ty) fl tx) rfl ?_
          exact ih (((li 1) - 1) - i) (i + 1) (some (.int (iz (((li 1) - 1) - i)))) (by first | assumption | omega) (by first | assumption | omega) (by rw [hls, if_pos (by omega)]; rw [hf] at *; unfold cmb at *; repeat' split at *; all_goals omega) (by first | assumption | omega) 
        · refine Rx.walk 2 (pc' := 90) (L' := [some (.ref 0), some (.int (iz k)), some (.int (iz fe)), some (.int (iz 1)), some (.int (iz i)), some (.int (iz (((li 1) - 1) - i)))]) (st' := [.int (iz fe), .int (iz (((li 1) - 1) - i))]) (h' := cmH z zl (uf (uf (uf f 10 pp) 11 li) 12 ty) fl tx) rfl ?_
          refine Rx.ge2 rfl rfl ⟨by omega, by omega⟩ ⟨by omega, by omega⟩ (fun b4 => ?_) (fun b4 => ?_)
          · refine Rx.iinc (b := 1) rfl rfl rfl ?_
            refine Rx.walk 0 (pc' := 99) (L' := [some (.ref 0), some (.int (iz k)), some (.int (iz fe)), some (.int (iz 1)), some (.int (iz (i + 1))), some (.int (iz (((li 1) - 1) - i)))]) (st' := []) (h' := cmH z zl (uf (uf (uf f 10 pp) 11 li) 12 ty) fl tx) rfl ?_
            refine Rx.walk 1 (pc' := 43) (L' := [some (.ref 0), some (.int (iz k)), some (.int (iz fe)), some (.int (iz 1)), some (.int (iz (i + 1))), some (.int (iz (((li 1) - 1) - i)))]) (st' := []) (h' := cmH z zl (uf (uf (uf f 10 pp) 11 li) 12 ty) fl tx) rfl ?_
            exact ih fe (i + 1) (some (.int (iz (((li 1) - 1) - i)))) (by first | assumption | omega) (by first | assumption | omega) (by rw [hls, if_pos (by omega)]; rw [hf] at *; unfold cmb at *; repeat' split at *; all_goals omega) (by first | assumption | omega) 
          · refine Rx.walk 2 (pc' := 96) (L' := [some (.ref 0), some (.int (iz k)), some (.int (iz (((li 1) - 1) - i))), some (.int (iz 1)), some (.int (iz i)), some (.int (iz (((li 1) - 1) - i)))]) (st' := []) (h' := cmH z zl (uf (uf (uf f 10 pp) 11 li) 12 ty) fl tx) rfl ?_
            refine Rx.iinc (b := 1) rfl rfl rfl ?_
            refine Rx.walk 0 (pc' := 99) (L' := [some (.ref 0), some (.int (iz k)), some (.int (iz (((li 1) - 1) - i))), some (.int (iz 1)), some (.int (iz (i + 1))), some (.int (iz (((li 1) - 1) - i)))]) (st' := []) (h' := cmH z zl (uf (uf (uf f 10 pp) 11 li) 12 ty) fl tx) rfl ?_
            refine Rx.walk 1 (pc' := 43) (L' := [some (.ref 0), some (.int (iz k)), some (.int (iz (((li 1) - 1) - i))), some (.int (iz 1)), some (.int (iz (i + 1))), some (.int (iz (((li 1) - 1) - i)))]) (st' := []) (h' := cmH z zl (uf (uf (uf f 10 pp) 11 li) 12 ty) fl tx) rfl ?_
            exact ih (((li 1) - 1) - i) (i + 1) (some (.int (iz (((li 1) - 1) - i)))) (by first | assumption | omega) (by first | assumption | omega) (by rw [hls, if_pos (by omega)]; rw [hf] at *; unfold cmb at *; repeat' split at *; all_goals omega) (by first | assumption | omega) 
set_option maxRecDepth 100000 in
set_option maxHeartbeats 4000000 in
theorem m_cover (d : Nat) (z : Nat → Int) (zl : Nat → Int) (f : Nat → Int → Int) (fl : Nat → Int → Int) (tx : Nat)  (k : Int) (K : Int) (p0 : Int) (p1 : Int) (t : Int) (pp : Int → Int) (li : Int → Int) (ty : Int → Int) (pi_ : Int) (len : Int) (tr : Int) (hk : bI k) (hM : mtI K pp li ty p0 p1 t) (hK : 0 ≤ K ∧ K ≤ 4) (hpi : 0 ≤ pi_ ∧ pi_ ≤ 2) (hlen : 0 ≤ len ∧ len ≤ 5) (htr : 0 ≤ tr ∧ tr ≤ 1) (hh0 : ht p0 ≤ len) (hh1 : ht p1 ≤ len) (hp1_ : pi_ ≤ 1 → p1 = 0) (hp0_ : pi_ ≤ 0 → p0 = 0) : Rx (d + 1) m_X12_cover 0 (am_ent [.ref 0, .int (iz k)] 6) [] (cmH (u1 (u1 (u1 (u1 z 21 K) 22 pi_) 23 len) 24 tr) zl (uf (uf (uf f 10 pp) 11 li) 12 ty) fl tx) (fun rv h => ∃ r : Int, rv = some (.int (iz r)) ∧ h = cmH (u1 (u1 (u1 (u1 (u1 z 0 0) 21 K) 22 pi_) 23 len) 24 tr) zl (uf (uf (uf f 10 pp) 11 li) 12 ty) fl tx ∧ cvR K p0 p1 t k r) := by
  obtain ⟨hk1, hk2⟩ := id hk
  obtain ⟨⟨hm1, hm2, hm3⟩, ⟨hm4, hm5, hm6⟩, hm7, hm8, hm9⟩ := mtI_b hM
  have hz0 := ht_c p0
  have hz1 := ht_c p1
  have hmt := mtI_t hM
  refine Rx.walk 0 (pc' := 0) (L' := [some (.ref 0), some (.int (iz k)), none, none, none, none]) (st' := []) (h' := cmH (u1 (u1 (u1 (u1 z 21 K) 22 pi_) 23 len) 24 tr) zl (uf (uf (uf f 10 pp) 11 li) 12 ty) fl tx) rfl ?_
  refine Rx.walk 5 (pc' := 7) (L' := [some (.ref 0), some (.int (iz k)), none, none, none, none]) (st' := [.int (iz k), .ref 0]) (h' := cmH (u1 (u1 (u1 (u1 (u1 z 0 0) 21 K) 22 pi_) 23 len) 24 tr) zl (uf (uf (uf f 10 pp) 11 li) 12 ty) fl tx) rfl ?_
  refine Rx.callx (m' := m_X12_isKind) (as := [.ref 0, .int (iz k)]) (rest := []) rfl (m_isKind _ (u1 (u1 (u1 (u1 (u1 z 0 0) 21 K) 22 pi_) 23 len) 24 tr) zl (uf (uf (uf f 10 pp) 11 li) 12 ty) fl tx  k K (by first | assumption | omega) (by first | assumption | omega)) (fun v3 h4 q5 => ?_)
  obtain ⟨r_1, rfl, rfl, f2⟩ := q5
  refine Rx.walk 0 (pc' := 10) (L' := [some (.ref 0), some (.int (iz k)), none, none, none, none]) (st' := [.int (iz r_1)]) (h' := cmH (u1 (u1 (u1 (u1 (u1 z 0 0) 21 K) 22 pi_) 23 len) 24 tr) zl (uf (uf (uf f 10 pp) 11 li) 12 ty) fl tx) rfl ?_
  refine Rx.ne1 rfl rfl ⟨by omega, by omega⟩ (fun b6 => ?_) (fun b6 => ?_)
  · refine Rx.walk 3 (pc' := 20) (L' := [some (.ref 0), some (.int (iz k)), none, none, none, none]) (st' := [.int (iz k), .ref 12]) (h' := cmH (u1 (u1 (u1 (u1 (u1 z 0 0) 21 K) 22 pi_) 23 len) 24 tr) zl (uf (uf (uf f 10 pp) 11 li) 12 ty) fl tx) rfl ?_
    refine Rx.ial (g := ty) rfl rfl (by omega) (by omega) (by omega) ?_
    have hty : (ty k) = if t = k + 1 then 1 else 0 := hM.2.2.2.2.2.2.2 k (by omega) (by omega)
    have htyb : 0 ≤ (ty k) ∧ (ty k) ≤ 1 := by rw [hty]; split <;> omega
    refine Rx.le1 rfl rfl ⟨by omega, by omega⟩ (fun b7 => ?_) (fun b7 => ?_)
    · refine Rx.walk 7 (pc' := 37) (L' := [some (.ref 0), some (.int (iz k)), some (.int (iz (-1))), some (.int (iz 0)), none, none]) (st' := [.int (iz pi_), .int (iz 0)]) (h' := cmH (u1 (u1 (u1 (u1 (u1 z 0 0) 21 K) 22 pi_) 23 len) 24 tr) zl (uf (uf (uf f 10 pp) 11 li) 12 ty) fl tx) rfl ?_
      refine Rx.ge2 rfl rfl ⟨by omega, by omega⟩ ⟨by omega, by omega⟩ (fun b8 => ?_) (fun b8 => ?_)
      · refine Rx.walk 1 (pc' := 109) (L' := [some (.ref 0), some (.int (iz k)), some (.int (iz (-1))), some (.int (iz 0)), none, none]) (st' := [.int (iz (-1))]) (h' := cmH (u1 (u1 (u1 (u1 (u1 z 0 0) 21 K) 22 pi_) 23 len) 24 tr) zl (uf (uf (uf f 10 pp) 11 li) 12 ty) fl tx) rfl ?_
        refine Rx.ret rfl ?_
        have hc0 := cab_b p0 k
        have hc1 := cab_b p1 k
        have z1 : cab p1 k = -1 := by rw [hp1_ (by omega)]; exact cab_0 k
        have z0 : cab p0 k = -1 := by rw [hp0_ (by omega)]; exact cab_0 k
        refine ⟨_, rfl, rfl, Or.inr ⟨by omega, by omega, ?_⟩⟩
        rw [if_neg (fun q => by rw [if_pos q] at hty; omega)]
        all_goals (try unfold cmb at *)
        all_goals repeat' split at *
        all_goals omega
      · refine Rx.walk 2 (pc' := 43) (L' := [some (.ref 0), some (.int (iz k)), some (.int (iz (-1))), some (.int (iz 0)), some (.int (iz 0)), none]) (st' := []) (h' := cmH (u1 (u1 (u1 (u1 (u1 z 0 0) 21 K) 22 pi_) 23 len) 24 tr) zl (uf (uf (uf f 10 pp) 11 li) 12 ty) fl tx) rfl ?_
        refine m_cover_l0 _ (u1 (u1 (u1 (u1 (u1 z 0 0) 21 K) 22 pi_) 23 len) 24 tr) zl (uf (uf (uf f 10 pp) 11 li) 12 ty) fl tx  K p0 p1 t pp li ty k (-1) hM ⟨by omega, by omega⟩ ⟨by omega, by omega⟩ _ ?_ ((li 0 - 0) + 1 : Int).toNat (-1) 0 none (by first | assumption | omega) (by first | assumption | omega) rfl (by omega) 
        intro fe_9 i_10 w5_11 f12 f13
        refine Rx.walk 0 (pc' := 102) (L' := [some (.ref 0), some (.int (iz k)), some (.int (iz fe_9)), some (.int (iz 0)), some (.int (iz i_10)), w5_11]) (st' := []) (h' := cmH (u1 (u1 (u1 (u1 (u1 z 0 0) 21 K) 22 pi_) 23 len) 24 tr) zl (uf (uf (uf f 10 pp) 11 li) 12 ty) fl tx) rfl ?_
        refine Rx.iinc (b := 1) rfl rfl rfl ?_
        refine Rx.walk 0 (pc' := 105) (L' := [some (.ref 0), some (.int (iz k)), some (.int (iz fe_9)), some (.int (iz 1)), some (.int (iz i_10)), w5_11]) (st' := []) (h' := cmH (u1 (u1 (u1 (u1 (u1 z 0 0) 21 K) 22 pi_) 23 len) 24 tr) zl (uf (uf (uf f 10 pp) 11 li) 12 ty) fl tx) rfl ?_
        refine Rx.walk 4 (pc' := 37) (L' := [some (.ref 0), some (.int (iz k)), some (.int (iz fe_9)), some (.int (iz 1)), some (.int (iz i_10)), w5_11]) (st' := [.int (iz pi_), .int (iz 1)]) (h' := cmH (u1 (u1 (u1 (u1 (u1 z 0 0) 21 K) 22 pi_) 23 len) 24 tr) zl (uf (uf (uf f 10 pp) 11 li) 12 ty) fl tx) rfl ?_
        refine Rx.ge2 rfl rfl ⟨by omega, by omega⟩ ⟨by omega, by omega⟩ (fun b14 => ?_) (fun b14 => ?_)
        · refine Rx.walk 1 (pc' := 109) (L' := [some (.ref 0), some (.int (iz k)), some (.int (iz fe_9)), some (.int (iz 1)), some (.int (iz i_10)), w5_11]) (st' := [.int (iz fe_9)]) (h' := cmH (u1 (u1 (u1 (u1 (u1 z 0 0) 21 K) 22 pi_) 23 len) 24 tr) zl (uf (uf (uf f 10 pp) 11 li) 12 ty) fl tx) rfl ?_
          refine Rx.ret rfl ?_
          have hc0 := cab_b p0 k
          have hc1 := cab_b p1 k
          have hq2 := f12
          have z1 : cab p1 k = -1 := by rw [hp1_ (by omega)]; exact cab_0 k
          refine ⟨_, rfl, rfl, Or.inr ⟨by omega, by omega, ?_⟩⟩
          rw [if_neg (fun q => by rw [if_pos q] at hty; omega)]
          all_goals (try unfold cmb at *)
          all_goals repeat' split at *
          all_goals omega
        · refine Rx.walk 2 (pc' := 43) (L' := [some (.ref 0), some (.int (iz k)), some (.int (iz fe_9)), some (.int (iz 1)), some (.int (iz 0)), w5_11]) (st' := []) (h' := cmH (u1 (u1 (u1 (u1 (u1 z 0 0) 21 K) 22 pi_) 23 len) 24 tr) zl (uf (uf (uf f 10 pp) 11 li) 12 ty) fl tx) rfl ?_
          refine m_cover_l1 _ (u1 (u1 (u1 (u1 (u1 z 0 0) 21 K) 22 pi_) 23 len) 24 tr) zl (uf (uf (uf f 10 pp) 11 li) 12 ty) fl tx  K p0 p1 t pp li ty k fe_9 hM ⟨by omega, by omega⟩ ⟨by omega, by omega⟩ _ ?_ ((li 1 - 0) + 1 : Int).toNat fe_9 0 w5_11 (by first | assumption | omega) (by first | assumption | omega) rfl (by omega) 
          intro fe_15 i_16 w5_17 f18 f19
          refine Rx.walk 0 (pc' := 102) (L' := [some (.ref 0), some (.int (iz k)), some (.int (iz fe_15)), some (.int (iz 1)), some (.int (iz i_16)), w5_17]) (st' := []) (h' := cmH (u1 (u1 (u1 (u1 (u1 z 0 0) 21 K) 22 pi_) 23 len) 24 tr) zl (uf (uf (uf f 10 pp) 11 li) 12 ty) fl tx) rfl ?_
          refine Rx.iinc (b := 1) rfl rfl rfl ?_
          refine Rx.walk 0 (pc' := 105) (L' := [some (.ref 0), some (.int (iz k)), some (.int (iz fe_15)), some (.int (iz 2)), some (.int (iz i_16)), w5_17]) (st' := []) (h' := cmH (u1 (u1 (u1 (u1 (u1 z 0 0) 21 K) 22 pi_) 23 len) 24 tr) zl (uf (uf (uf f 10 pp) 11 li) 12 ty) fl tx) rfl ?_
          refine Rx.walk 4 (pc' := 37) (L' := [some (.ref 0), some (.int (iz k)), some (.int (iz fe_15)), some (.int (iz 2)), some (.int (iz i_16)), w5_17]) (st' := [.int (iz pi_), .int (iz 2)]) (h' := cmH (u1 (u1 (u1 (u1 (u1 z 0 0) 21 K) 22 pi_) 23 len) 24 tr) zl (uf (uf (uf f 10 pp) 11 li) 12 ty) fl tx) rfl ?_
          refine Rx.ge2 rfl rfl ⟨by omega, by omega⟩ ⟨by omega, by omega⟩ (fun b20 => ?_) (fun b20 => by omega)
          refine Rx.walk 1 (pc' := 109) (L' := [some (.ref 0), some (.int (iz k)), some (.int (iz fe_15)), some (.int (iz 2)), some (.int (iz i_16)), w5_17]) (st' := [.int (iz fe_15)]) (h' := cmH (u1 (u1 (u1 (u1 (u1 z 0 0) 21 K) 22 pi_) 23 len) 24 tr) zl (uf (uf (uf f 10 pp) 11 li) 12 ty) fl tx) rfl ?_
          refine Rx.ret rfl ?_
          have hc0 := cab_b p0 k
          have hc1 := cab_b p1 k
          have hq2 := f12
          have hq3 := f18
          refine ⟨_, rfl, rfl, Or.inr ⟨by omega, by omega, ?_⟩⟩
          rw [if_neg (fun q => by rw [if_pos q] at hty; omega)]
          all_goals (try unfold cmb at *)
          all_goals repeat' split at *
          all_goals omega
    · refine Rx.walk 8 (pc' := 37) (L' := [some (.ref 0), some (.int (iz k)), some (.int (iz 0)), some (.int (iz 0)), none, none]) (st' := [.int (iz pi_), .int (iz 0)]) (h' := cmH (u1 (u1 (u1 (u1 (u1 z 0 0) 21 K) 22 pi_) 23 len) 24 tr) zl (uf (uf (uf f 10 pp) 11 li) 12 ty) fl tx) rfl ?_
      refine Rx.ge2 rfl rfl ⟨by omega, by omega⟩ ⟨by omega, by omega⟩ (fun b21 => ?_) (fun b21 => ?_)
      · refine Rx.walk 1 (pc' := 109) (L' := [some (.ref 0), some (.int (iz k)), some (.int (iz 0)), some (.int (iz 0)), none, none]) (st' := [.int (iz 0)]) (h' := cmH (u1 (u1 (u1 (u1 (u1 z 0 0) 21 K) 22 pi_) 23 len) 24 tr) zl (uf (uf (uf f 10 pp) 11 li) 12 ty) fl tx) rfl ?_
        refine Rx.ret rfl ?_
        have hc0 := cab_b p0 k
        have hc1 := cab_b p1 k
        have z1 : cab p1 k = -1 := by rw [hp1_ (by omega)]; exact cab_0 k
        have z0 : cab p0 k = -1 := by rw [hp0_ (by omega)]; exact cab_0 k
        refine ⟨_, rfl, rfl, Or.inr ⟨by omega, by omega, ?_⟩⟩
        rw [if_pos (by rcases (show t = k + 1 ∨ t ≠ k + 1 by omega) with q | q; exact q; (rw [if_neg q] at hty; omega))]
        all_goals (try unfold cmb at *)
        all_goals repeat' split at *
        all_goals omega
      · refine Rx.walk 2 (pc' := 43) (L' := [some (.ref 0), some (.int (iz k)), some (.int (iz 0)), some (.int (iz 0)), some (.int (iz 0)), none]) (st' := []) (h' := cmH (u1 (u1 (u1 (u1 (u1 z 0 0) 21 K) 22 pi_) 23 len) 24 tr) zl (uf (uf (uf f 10 pp) 11 li) 12 ty) fl tx) rfl ?_
        refine m_cover_l0 _ (u1 (u1 (u1 (u1 (u1 z 0 0) 21 K) 22 pi_) 23 len) 24 tr) zl (uf (uf (uf f 10 pp) 11 li) 12 ty) fl tx  K p0 p1 t pp li ty k 0 hM ⟨by omega, by omega⟩ ⟨by omega, by omega⟩ _ ?_ ((li 0 - 0) + 1 : Int).toNat 0 0 none (by first | assumption | omega) (by first | assumption | omega) rfl (by omega) 
        intro fe_22 i_23 w5_24 f25 f26
        refine Rx.walk 0 (pc' := 102) (L' := [some (.ref 0), some (.int (iz k)), some (.int (iz fe_22)), some (.int (iz 0)), some (.int (iz i_23)), w5_24]) (st' := []) (h' := cmH (u1 (u1 (u1 (u1 (u1 z 0 0) 21 K) 22 pi_) 23 len) 24 tr) zl (uf (uf (uf f 10 pp) 11 li) 12 ty) fl tx) rfl ?_
        refine Rx.iinc (b := 1) rfl rfl rfl ?_
        refine Rx.walk 0 (pc' := 105) (L' := [some (.ref 0), some (.int (iz k)), some (.int (iz fe_22)), some (.int (iz 1)), some (.int (iz i_23)), w5_24]) (st' := []) (h' := cmH (u1 (u1 (u1 (u1 (u1 z 0 0) 21 K) 22 pi_) 23 len) 24 tr) zl (uf (uf (uf f 10 pp) 11 li) 12 ty) fl tx) rfl ?_
        refine Rx.walk 4 (pc' := 37) (L' := [some (.ref 0), some (.int (iz k)), some (.int (iz fe_22)), some (.int (iz 1)), some (.int (iz i_23)), w5_24]) (st' := [.int (iz pi_), .int (iz 1)]) (h' := cmH (u1 (u1 (u1 (u1 (u1 z 0 0) 21 K) 22 pi_) 23 len) 24 tr) zl (uf (uf (uf f 10 pp) 11 li) 12 ty) fl tx) rfl ?_
        refine Rx.ge2 rfl rfl ⟨by omega, by omega⟩ ⟨by omega, by omega⟩ (fun b27 => ?_) (fun b27 => ?_)
        · refine Rx.walk 1 (pc' := 109) (L' := [some (.ref 0), some (.int (iz k)), some (.int (iz fe_22)), some (.int (iz 1)), some (.int (iz i_23)), w5_24]) (st' := [.int (iz fe_22)]) (h' := cmH (u1 (u1 (u1 (u1 (u1 z 0 0) 21 K) 22 pi_) 23 len) 24 tr) zl (uf (uf (uf f 10 pp) 11 li) 12 ty) fl tx) rfl ?_
          refine Rx.ret rfl ?_
          have hc0 := cab_b p0 k
          have hc1 := cab_b p1 k
          have hq2 := f25
          have z1 : cab p1 k = -1 := by rw [hp1_ (by omega)]; exact cab_0 k
          refine ⟨_, rfl, rfl, Or.inr ⟨by omega, by omega, ?_⟩⟩
          rw [if_pos (by rcases (show t = k + 1 ∨ t ≠ k + 1 by omega) with q | q; exact q; (rw [if_neg q] at hty; omega))]
          all_goals (try unfold cmb at *)
          all_goals repeat' split at *
          all_goals omega
        · refine Rx.walk 2 (pc' := 43) (L' := [some (.ref 0), some (.int (iz k)), some (.int (iz fe_22)), some (.int (iz 1)), some (.int (iz 0)), w5_24]) (st' := []) (h' := cmH (u1 (u1 (u1 (u1 (u1 z 0 0) 21 K) 22 pi_) 23 len) 24 tr) zl (uf (uf (uf f 10 pp) 11 li) 12 ty) fl tx) rfl ?_
          refine m_cover_l1 _ (u1 (u1 (u1 (u1 (u1 z 0 0) 21 K) 22 pi_) 23 len) 24 tr) zl (uf (uf (uf f 10 pp) 11 li) 12 ty) fl tx  K p0 p1 t pp li ty k fe_22 hM ⟨by omega, by omega⟩ ⟨by omega, by omega⟩ _ ?_ ((li 1 - 0) + 1 : Int).toNat fe_22 0 w5_24 (by first | assumption | omega) (by first | assumption | omega) rfl (by omega) 
          intro fe_28 i_29 w5_30 f31 f32
          refine Rx.walk 0 (pc' := 102) (L' := [some (.ref 0), some (.int (iz k)), some (.int (iz fe_28)), some (.int (iz 1)), some (.int (iz i_29)), w5_30]) (st' := []) (h' := cmH (u1 (u1 (u1 (u1 (u1 z 0 0) 21 K) 22 pi_) 23 len) 24 tr) zl (uf (uf (uf f 10 pp) 11 li) 12 ty) fl tx) rfl ?_
          refine Rx.iinc (b := 1) rfl rfl rfl ?_
          refine Rx.walk 0 (pc' := 105) (L' := [some (.ref 0), some (.int (iz k)), some (.int (iz fe_28)), some (.int (iz 2)), some (.int (iz i_29)), w5_30]) (st' := []) (h' := cmH (u1 (u1 (u1 (u1 (u1 z 0 0) 21 K) 22 pi_) 23 len) 24 tr) zl (uf (uf (uf f 10 pp) 11 li) 12 ty) fl tx) rfl ?_
          refine Rx.walk 4 (pc' := 37) (L' := [some (.ref 0), some (.int (iz k)), some (.int (iz fe_28)), some (.int (iz 2)), some (.int (iz i_29)), w5_30]) (st' := [.int (iz pi_), .int (iz 2)]) (h' := cmH (u1 (u1 (u1 (u1 (u1 z 0 0) 21 K) 22 pi_) 23 len) 24 tr) zl (uf (uf (uf f 10 pp) 11 li) 12 ty) fl tx) rfl ?_
          refine Rx.ge2 rfl rfl ⟨by omega, by omega⟩ ⟨by omega, by omega⟩ (fun b33 => ?_) (fun b33 => by omega)
          refine Rx.walk 1 (pc' := 109) (L' := [some (.ref 0), some (.int (iz k)), some (.int (iz fe_28)), some (.int (iz 2)), some (.int (iz i_29)), w5_30]) (st' := [.int (iz fe_28)]) (h' := cmH (u1 (u1 (u1 (u1 (u1 z 0 0) 21 K) 22 pi_) 23 len) 24 tr) zl (uf (uf (uf f 10 pp) 11 li) 12 ty) fl tx) rfl ?_
          refine Rx.ret rfl ?_
          have hc0 := cab_b p0 k
          have hc1 := cab_b p1 k
          have hq2 := f25
          have hq3 := f31
          refine ⟨_, rfl, rfl, Or.inr ⟨by omega, by omega, ?_⟩⟩
          rw [if_pos (by rcases (show t = k + 1 ∨ t ≠ k + 1 by omega) with q | q; exact q; (rw [if_neg q] at hty; omega))]
          all_goals (try unfold cmb at *)
          all_goals repeat' split at *
          all_goals omega
  · refine Rx.walk 1 (pc' := 14) (L' := [some (.ref 0), some (.int (iz k)), none, none, none, none]) (st' := [.int (iz (-1))]) (h' := cmH (u1 (u1 (u1 (u1 (u1 z 0 0) 21 K) 22 pi_) 23 len) 24 tr) zl (uf (uf (uf f 10 pp) 11 li) 12 ty) fl tx) rfl ?_
    refine Rx.ret rfl ?_
    exact ⟨_, rfl, rfl, Or.inl ⟨by omega, rfl⟩⟩

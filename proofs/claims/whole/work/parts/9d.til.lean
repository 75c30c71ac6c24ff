/-! lay, lift, tray, till: class and model (printed by wip/whole/gentil2.py) -/
/-- a coin is laid: r, and the till behind it -/
def layR (K pi len tr p0 p1 t k wh r q0 q1 s : Int) : Prop := (r = 1 ∧ 0 ≤ k ∧ k < K ∧ ((wh = 2 ∧ t = 0 ∧ 0 < tr ∧ q0 = p0 ∧ q1 = p1 ∧ s = k + 1) ∨ (wh = 0 ∧ 0 < pi ∧ ht p0 < len ∧ q0 = p0 * 5 + (k + 1) ∧ q1 = p1 ∧ s = t) ∨ (wh = 1 ∧ 1 < pi ∧ ht p1 < len ∧ q0 = p0 ∧ q1 = p1 * 5 + (k + 1) ∧ s = t))) ∨ (r = 0 ∧ q0 = p0 ∧ q1 = p1 ∧ s = t ∧ ¬ (0 ≤ k ∧ k < K ∧ ((wh = 2 ∧ t = 0 ∧ 0 < tr) ∨ (wh = 0 ∧ 0 < pi ∧ ht p0 < len) ∨ (wh = 1 ∧ 1 < pi ∧ ht p1 < len))))
def lifR (pi p0 p1 k r q0 q1 : Int) : Prop := (k = 0 ∧ 0 < pi ∧ 0 < p0 ∧ r = p0 % 5 - 1 ∧ q0 = p0 / 5 ∧ q1 = p1) ∨ (k = 1 ∧ 1 < pi ∧ 0 < p1 ∧ r = p1 % 5 - 1 ∧ q0 = p0 ∧ q1 = p1 / 5) ∨ (¬ ((k = 0 ∧ 0 < pi ∧ 0 < p0) ∨ (k = 1 ∧ 1 < pi ∧ 0 < p1)) ∧ r = -1 ∧ q0 = p0 ∧ q1 = p1)
theorem bc_tw {t : Int} (h0 : 0 ≤ t) (h4 : t ≤ 4) : bc (tw t) = tbit t := by
  rcases (show t = 0 ∨ t = 1 ∨ t = 2 ∨ t = 3 ∨ t = 4 by omega) with rfl | rfl | rfl | rfl | rfl <;> rfl
theorem tw_p2 {k : Int} (h0 : 0 ≤ k) (h4 : k < 4) : tw (k + 1) = p2 k := by
  rcases (show k = 0 ∨ k = 1 ∨ k = 2 ∨ k = 3 by omega) with rfl | rfl | rfl | rfl <;> rfl
theorem hb_tw {t k : Int} (h0 : 0 ≤ t) (h4 : t ≤ 4) (k0 : 0 ≤ k) (k4 : k < 4) : hb (tw t) k = if t = k + 1 then 1 else 0 := by
  rcases (show t = 0 ∨ t = 1 ∨ t = 2 ∨ t = 3 ∨ t = 4 by omega) with rfl | rfl | rfl | rfl | rfl <;> rcases (show k = 0 ∨ k = 1 ∨ k = 2 ∨ k = 3 by omega) with rfl | rfl | rfl | rfl <;> rfl
set_option maxRecDepth 100000 in
set_option maxHeartbeats 4000000 in
theorem x_lay (d : Nat) (z : Nat → Nat → Int) (f : Nat → Int → Int) (C : Nat → CuR) (T : Nat → TsR) (rc : Nat → Nat) (tl : AmH)  (k : Int) (wh : Int) (sd : Int) (K : Int) (pi_ : Int) (len : Int) (tr : Int) (p0 : Int) (p1 : Int) (t0 : Int) (hk : bI k) (hwh : bI wh) (hK : 0 ≤ K ∧ K ≤ 4) (hpi : 0 ≤ pi_ ∧ pi_ ≤ 2) (hlen : 0 ≤ len ∧ len ≤ 5) (htr : 0 ≤ tr ∧ tr ≤ 1) (hp0 : 0 ≤ p0 ∧ p0 < 3125) (hp1 : 0 ≤ p1 ∧ p1 < 3125) (ht0 : 0 ≤ t0) (ht4 : t0 ≤ 4) (hti : sd = tn p0 p1 t0) : Rx (d + 2) m_X11_lay 0 (am_ent [.ref 0, .int (iz k), .int (iz wh)] 5) [] (cxW (u2 (u2 (u2 (u2 (u2 z 0 9 sd) 3 1 K) 3 2 pi_) 3 3 len) 3 4 tr) f C T rc tl) (fun rv h => ∃ r : Int, ∃ sd' : Int, ∃ q0 : Int, ∃ q1 : Int, ∃ s : Int, rv = some (.int (iz r)) ∧ h = cxW (u2 (u2 (u2 (u2 (u2 z 0 9 sd') 3 1 K) 3 2 pi_) 3 3 len) 3 4 tr) f C T rc tl ∧ sd' = tn q0 q1 s ∧ layR K pi_ len tr p0 p1 t0 k wh r q0 q1 s) := by
  obtain ⟨hk1, hk2⟩ := id hk
  obtain ⟨hwh1, hwh2⟩ := id hwh
  obtain ⟨e0, e1, e2⟩ := tn_0 (p0 := p0) hp1.1 hp1.2 ht0 ht4
  have e3 := tw_c ht0 ht4
  rw [← hti] at e0 e1 e2
  have e4 : 0 ≤ sd ∧ sd < 2147483648 := by rw [hti]; unfold tn; omega
  have e5 : sd = (p0 * 3125 + p1) * 16 + tw t0 := hti
  have hz0 := ht_c p0
  have hz1 := ht_c p1
  have htb := tbit_c t0
  have hbt := bc_tw ht0 ht4
  refine Rx.walk 0 (pc' := 0) (L' := [some (.ref 0), some (.int (iz k)), some (.int (iz wh)), none, none]) (st' := []) (h' := cxW (u2 (u2 (u2 (u2 (u2 z 0 9 sd) 3 1 K) 3 2 pi_) 3 3 len) 3 4 tr) f C T rc tl) rfl ?_
  refine Rx.walk 3 (pc' := 5) (L' := [some (.ref 0), some (.int (iz k)), some (.int (iz wh)), none, none]) (st' := [.int (iz k), .ref 3]) (h' := cxW (u2 (u2 (u2 (u2 (u2 z 0 9 sd) 3 1 K) 3 2 pi_) 3 3 len) 3 4 tr) f C T rc tl) rfl ?_
  refine Rx.callx (m' := m_X7_hasKind) (as := [.ref 3, .int (iz k)]) (rest := []) rfl (x_hasKind _ (u2 (u2 (u2 (u2 (u2 z 0 9 sd) 3 1 K) 3 2 pi_) 3 3 len) 3 4 tr) f C T rc tl  k K (by first | assumption | omega) (by first | assumption | omega)) (fun v3 h4 q5 => ?_)
  obtain ⟨r_1, rfl, rfl, f2⟩ := q5
  refine Rx.walk 0 (pc' := 8) (L' := [some (.ref 0), some (.int (iz k)), some (.int (iz wh)), none, none]) (st' := [.int (iz r_1)]) (h' := cxW (u2 (u2 (u2 (u2 (u2 z 0 9 sd) 3 1 K) 3 2 pi_) 3 3 len) 3 4 tr) f C T rc tl) rfl ?_
  refine Rx.ne1 rfl rfl ⟨by omega, by omega⟩ (fun b6 => ?_) (fun b6 => ?_)
  · refine Rx.walk 2 (pc' := 17) (L' := [some (.ref 0), some (.int (iz k)), some (.int (iz wh)), none, none]) (st' := [.int (iz sd)]) (h' := cxW (u2 (u2 (u2 (u2 (u2 z 0 9 sd) 3 1 K) 3 2 pi_) 3 3 len) 3 4 tr) f C T rc tl) rfl ?_
    refine Rx.callx (m' := m_X10_trayOf) (as := [.int (iz sd)]) (rest := []) rfl (n_trayOf _ (cxW (u2 (u2 (u2 (u2 (u2 z 0 9 sd) 3 1 K) 3 2 pi_) 3 3 len) 3 4 tr) f C T rc tl)  sd (by first | assumption | omega) (by first | assumption | omega)) (fun v9 h10 q11 => ?_)
    obtain ⟨r_7, rfl, rfl, f8⟩ := q11
    refine Rx.walk 0 (pc' := 20) (L' := [some (.ref 0), some (.int (iz k)), some (.int (iz wh)), none, none]) (st' := [.int (iz r_7)]) (h' := cxW (u2 (u2 (u2 (u2 (u2 z 0 9 sd) 3 1 K) 3 2 pi_) 3 3 len) 3 4 tr) f C T rc tl) rfl ?_
    refine Rx.walk 3 (pc' := 23) (L' := [some (.ref 0), some (.int (iz k)), some (.int (iz wh)), some (.int (iz r_7)), none]) (st' := [.int (iz 2), .int (iz wh)]) (h' := cxW (u2 (u2 (u2 (u2 (u2 z 0 9 sd) 3 1 K) 3 2 pi_) 3 3 len) 3 4 tr) f C T rc tl) rfl ?_
    refine Rx.ne2 rfl rfl ⟨by omega, by omega⟩ ⟨by omega, by omega⟩ (fun b12 => ?_) (fun b12 => ?_)
    · refine Rx.walk 3 (pc' := 61) (L' := [some (.ref 0), some (.int (iz k)), some (.int (iz wh)), some (.int (iz r_7)), none]) (st' := [.int (iz wh), .ref 3]) (h' := cxW (u2 (u2 (u2 (u2 (u2 z 0 9 sd) 3 1 K) 3 2 pi_) 3 3 len) 3 4 tr) f C T rc tl) rfl ?_
      refine Rx.callx (m' := m_X7_hasPipe) (as := [.ref 3, .int (iz wh)]) (rest := []) rfl (x_hasPipe _ (u2 (u2 (u2 (u2 (u2 z 0 9 sd) 3 1 K) 3 2 pi_) 3 3 len) 3 4 tr) f C T rc tl  wh pi_ (by first | assumption | omega) hwh) (fun v15 h16 q17 => ?_)
      obtain ⟨r_13, rfl, rfl, f14⟩ := q17
      refine Rx.walk 0 (pc' := 64) (L' := [some (.ref 0), some (.int (iz k)), some (.int (iz wh)), some (.int (iz r_7)), none]) (st' := [.int (iz r_13)]) (h' := cxW (u2 (u2 (u2 (u2 (u2 z 0 9 sd) 3 1 K) 3 2 pi_) 3 3 len) 3 4 tr) f C T rc tl) rfl ?_
      refine Rx.eq1 rfl rfl ⟨by omega, by omega⟩ (fun b18 => ?_) (fun b18 => ?_)
      · refine Rx.walk 1 (pc' := 89) (L' := [some (.ref 0), some (.int (iz k)), some (.int (iz wh)), some (.int (iz r_7)), none]) (st' := [.int (iz 0)]) (h' := cxW (u2 (u2 (u2 (u2 (u2 z 0 9 sd) 3 1 K) 3 2 pi_) 3 3 len) 3 4 tr) f C T rc tl) rfl ?_
        refine Rx.ret rfl ?_
        exact ⟨_, _, p0, p1, t0, rfl, rfl, hti, Or.inr ⟨rfl, rfl, rfl, rfl, by omega⟩⟩
      · refine Rx.walk 3 (pc' := 72) (L' := [some (.ref 0), some (.int (iz k)), some (.int (iz wh)), some (.int (iz r_7)), none]) (st' := [.int (iz wh), .int (iz sd)]) (h' := cxW (u2 (u2 (u2 (u2 (u2 z 0 9 sd) 3 1 K) 3 2 pi_) 3 3 len) 3 4 tr) f C T rc tl) rfl ?_
        refine Rx.callx (m' := m_X10_pipeOf) (as := [.int (iz sd), .int (iz wh)]) (rest := []) rfl (n_pipeOf _ (cxW (u2 (u2 (u2 (u2 (u2 z 0 9 sd) 3 1 K) 3 2 pi_) 3 3 len) 3 4 tr) f C T rc tl)  sd wh (by first | assumption | omega) (by first | assumption | omega) hwh) (fun v21 h22 q23 => ?_)
        obtain ⟨r_19, rfl, rfl, f20⟩ := q23
        refine Rx.walk 0 (pc' := 75) (L' := [some (.ref 0), some (.int (iz k)), some (.int (iz wh)), some (.int (iz r_7)), none]) (st' := [.int (iz r_19)]) (h' := cxW (u2 (u2 (u2 (u2 (u2 z 0 9 sd) 3 1 K) 3 2 pi_) 3 3 len) 3 4 tr) f C T rc tl) rfl ?_
        refine Rx.callx (m' := m_X10_height) (as := [.int (iz r_19)]) (rest := []) rfl (n_height _ (cxW (u2 (u2 (u2 (u2 (u2 z 0 9 sd) 3 1 K) 3 2 pi_) 3 3 len) 3 4 tr) f C T rc tl)  r_19 ⟨by omega, by omega⟩) (fun v26 h27 q28 => ?_)
        obtain ⟨r_24, rfl, rfl, f25⟩ := q28
        refine Rx.walk 0 (pc' := 78) (L' := [some (.ref 0), some (.int (iz k)), some (.int (iz wh)), some (.int (iz r_7)), none]) (st' := [.int (iz r_24)]) (h' := cxW (u2 (u2 (u2 (u2 (u2 z 0 9 sd) 3 1 K) 3 2 pi_) 3 3 len) 3 4 tr) f C T rc tl) rfl ?_
        have hhb : 0 ≤ r_24 ∧ r_24 ≤ 5 := by rw [f25]; have := ht_c r_19; omega
        refine Rx.walk 3 (pc' := 85) (L' := [some (.ref 0), some (.int (iz k)), some (.int (iz wh)), some (.int (iz r_7)), none]) (st' := [.int (iz len), .int (iz r_24)]) (h' := cxW (u2 (u2 (u2 (u2 (u2 z 0 9 sd) 3 1 K) 3 2 pi_) 3 3 len) 3 4 tr) f C T rc tl) rfl ?_
        refine Rx.lt2 rfl rfl ⟨by omega, by omega⟩ ⟨by omega, by omega⟩ (fun b29 => ?_) (fun b29 => ?_)
        · refine Rx.walk 3 (pc' := 95) (L' := [some (.ref 0), some (.int (iz k)), some (.int (iz wh)), some (.int (iz r_7)), none]) (st' := [.int (iz wh), .int (iz sd)]) (h' := cxW (u2 (u2 (u2 (u2 (u2 z 0 9 sd) 3 1 K) 3 2 pi_) 3 3 len) 3 4 tr) f C T rc tl) rfl ?_
          refine Rx.callx (m' := m_X10_pipeOf) (as := [.int (iz sd), .int (iz wh)]) (rest := []) rfl (n_pipeOf _ (cxW (u2 (u2 (u2 (u2 (u2 z 0 9 sd) 3 1 K) 3 2 pi_) 3 3 len) 3 4 tr) f C T rc tl)  sd wh (by first | assumption | omega) (by first | assumption | omega) hwh) (fun v32 h33 q34 => ?_)
          obtain ⟨r_30, rfl, rfl, f31⟩ := q34
          refine Rx.walk 0 (pc' := 98) (L' := [some (.ref 0), some (.int (iz k)), some (.int (iz wh)), some (.int (iz r_7)), none]) (st' := [.int (iz r_30)]) (h' := cxW (u2 (u2 (u2 (u2 (u2 z 0 9 sd) 3 1 K) 3 2 pi_) 3 3 len) 3 4 tr) f C T rc tl) rfl ?_
          refine Rx.walk 1 (pc' := 99) (L' := [some (.ref 0), some (.int (iz k)), some (.int (iz wh)), some (.int (iz r_7)), none]) (st' := [.int (iz 5), .int (iz r_30)]) (h' := cxW (u2 (u2 (u2 (u2 (u2 z 0 9 sd) 3 1 K) 3 2 pi_) 3 3 len) 3 4 tr) f C T rc tl) rfl ?_
          refine Rx.imul rfl ?_
          refine Rx.walk 1 (pc' := 101) (L' := [some (.ref 0), some (.int (iz k)), some (.int (iz wh)), some (.int (iz r_7)), none]) (st' := [.int (iz k), .int (iz (r_30 * 5))]) (h' := cxW (u2 (u2 (u2 (u2 (u2 z 0 9 sd) 3 1 K) 3 2 pi_) 3 3 len) 3 4 tr) f C T rc tl) rfl ?_
          refine Rx.iadd rfl ?_
          refine Rx.walk 1 (pc' := 103) (L' := [some (.ref 0), some (.int (iz k)), some (.int (iz wh)), some (.int (iz r_7)), none]) (st' := [.int (iz 1), .int (iz ((r_30 * 5) + k))]) (h' := cxW (u2 (u2 (u2 (u2 (u2 z 0 9 sd) 3 1 K) 3 2 pi_) 3 3 len) 3 4 tr) f C T rc tl) rfl ?_
          refine Rx.iadd rfl ?_
          refine Rx.walk 6 (pc' := 114) (L' := [some (.ref 0), some (.int (iz k)), some (.int (iz wh)), some (.int (iz r_7)), some (.int (iz (((r_30 * 5) + k) + 1)))]) (st' := [.int (iz (((r_30 * 5) + k) + 1)), .int (iz wh), .int (iz sd), .ref 0]) (h' := cxW (u2 (u2 (u2 (u2 (u2 z 0 9 sd) 3 1 K) 3 2 pi_) 3 3 len) 3 4 tr) f C T rc tl) rfl ?_
          refine Rx.callx (m' := m_X10_withPipe) (as := [.int (iz sd), .int (iz wh), .int (iz (((r_30 * 5) + k) + 1))]) (rest := [.ref 0]) rfl (n_withPipe _ (cxW (u2 (u2 (u2 (u2 (u2 z 0 9 sd) 3 1 K) 3 2 pi_) 3 3 len) 3 4 tr) f C T rc tl)  sd wh (((r_30 * 5) + k) + 1) (by first | assumption | omega) (by first | assumption | omega) hwh) (fun v37 h38 q39 => ?_)
          obtain ⟨r_35, rfl, rfl, f36⟩ := q39
          refine Rx.walk 0 (pc' := 117) (L' := [some (.ref 0), some (.int (iz k)), some (.int (iz wh)), some (.int (iz r_7)), some (.int (iz (((r_30 * 5) + k) + 1)))]) (st' := [.int (iz r_35), .ref 0]) (h' := cxW (u2 (u2 (u2 (u2 (u2 z 0 9 sd) 3 1 K) 3 2 pi_) 3 3 len) 3 4 tr) f C T rc tl) rfl ?_
          refine Rx.walk 2 (pc' := 121) (L' := [some (.ref 0), some (.int (iz k)), some (.int (iz wh)), some (.int (iz r_7)), some (.int (iz (((r_30 * 5) + k) + 1)))]) (st' := [.int (iz 1)]) (h' := cxW (u2 (u2 (u2 (u2 (u2 z 0 9 r_35) 3 1 K) 3 2 pi_) 3 3 len) 3 4 tr) f C T rc tl) rfl ?_
          refine Rx.ret rfl ?_
          rcases (show wh = 0 ∨ wh = 1 by omega) with q | q
          · have hx : r_24 = ht p0 := by rw [f25, show r_19 = p0 by omega]
            refine ⟨_, _, p0 * 5 + (k + 1), p1, t0, rfl, rfl, ?_, Or.inl ⟨rfl, by omega, by omega, Or.inr (Or.inl ⟨q, by omega, by omega, rfl, rfl, rfl⟩)⟩⟩
            unfold tn
            omega
          · have hx : r_24 = ht p1 := by rw [f25, show r_19 = p1 by omega]
            refine ⟨_, _, p0, p1 * 5 + (k + 1), t0, rfl, rfl, ?_, Or.inl ⟨rfl, by omega, by omega, Or.inr (Or.inr ⟨q, by omega, by omega, rfl, rfl, rfl⟩)⟩⟩
            unfold tn
            omega
        · refine Rx.walk 1 (pc' := 89) (L' := [some (.ref 0), some (.int (iz k)), some (.int (iz wh)), some (.int (iz r_7)), none]) (st' := [.int (iz 0)]) (h' := cxW (u2 (u2 (u2 (u2 (u2 z 0 9 sd) 3 1 K) 3 2 pi_) 3 3 len) 3 4 tr) f C T rc tl) rfl ?_
          refine Rx.ret rfl ?_
          have hx : (wh = 0 ∧ r_24 = ht p0) ∨ (wh ≠ 0 ∧ r_24 = ht p1) := by rcases f20 with ⟨x1, x2⟩ | ⟨x1, x2⟩; (left; exact ⟨x1, by rw [f25, x2, e0]⟩); (right; exact ⟨x1, by rw [f25, x2, e1]⟩)
          exact ⟨_, _, p0, p1, t0, rfl, rfl, hti, Or.inr ⟨rfl, rfl, rfl, rfl, by omega⟩⟩
    · refine Rx.walk 1 (pc' := 27) (L' := [some (.ref 0), some (.int (iz k)), some (.int (iz wh)), some (.int (iz r_7)), none]) (st' := [.int (iz r_7)]) (h' := cxW (u2 (u2 (u2 (u2 (u2 z 0 9 sd) 3 1 K) 3 2 pi_) 3 3 len) 3 4 tr) f C T rc tl) rfl ?_
      refine Rx.callx (m' := m_J6_bitCount_0f7a4) (as := [.int (iz r_7)]) (rest := []) rfl (n_bitCount _ (cxW (u2 (u2 (u2 (u2 (u2 z 0 9 sd) 3 1 K) 3 2 pi_) 3 3 len) 3 4 tr) f C T rc tl)  r_7 (by first | assumption | omega) (by first | assumption | omega)) (fun v42 h43 q44 => ?_)
      obtain ⟨r_40, rfl, rfl, f41⟩ := q44
      refine Rx.walk 0 (pc' := 30) (L' := [some (.ref 0), some (.int (iz k)), some (.int (iz wh)), some (.int (iz r_7)), none]) (st' := [.int (iz r_40)]) (h' := cxW (u2 (u2 (u2 (u2 (u2 z 0 9 sd) 3 1 K) 3 2 pi_) 3 3 len) 3 4 tr) f C T rc tl) rfl ?_
      have bb := bc_b (x := r_7)
      refine Rx.walk 3 (pc' := 37) (L' := [some (.ref 0), some (.int (iz k)), some (.int (iz wh)), some (.int (iz r_7)), none]) (st' := [.int (iz tr), .int (iz r_40)]) (h' := cxW (u2 (u2 (u2 (u2 (u2 z 0 9 sd) 3 1 K) 3 2 pi_) 3 3 len) 3 4 tr) f C T rc tl) rfl ?_
      refine Rx.lt2 rfl rfl ⟨by omega, by omega⟩ ⟨by omega, by omega⟩ (fun b45 => ?_) (fun b45 => ?_)
      · refine Rx.walk 5 (pc' := 49) (L' := [some (.ref 0), some (.int (iz k)), some (.int (iz wh)), some (.int (iz r_7)), none]) (st' := [.int (iz k), .int (iz 1), .int (iz sd), .ref 0]) (h' := cxW (u2 (u2 (u2 (u2 (u2 z 0 9 sd) 3 1 K) 3 2 pi_) 3 3 len) 3 4 tr) f C T rc tl) rfl ?_
        refine Rx.ishl (c := (p2 k)) rfl (p2_shl (by omega) (by omega)) ?_
        refine Rx.iadd rfl ?_
        refine Rx.walk 2 (pc' := 55) (L' := [some (.ref 0), some (.int (iz k)), some (.int (iz wh)), some (.int (iz r_7)), none]) (st' := [.int (iz 1)]) (h' := cxW (u2 (u2 (u2 (u2 (u2 z 0 9 (sd + (p2 k))) 3 1 K) 3 2 pi_) 3 3 len) 3 4 tr) f C T rc tl) rfl ?_
        refine Rx.ret rfl ?_
        rw [f8, e2, hbt] at f41
        have ht00 : t0 = 0 := by omega
        refine ⟨_, _, p0, p1, k + 1, rfl, rfl, ?_, Or.inl ⟨rfl, by omega, by omega, Or.inl ⟨by omega, ht00, by omega, rfl, rfl, rfl⟩⟩⟩
        unfold tn
        rw [tw_p2 (by omega) (by omega)]
        omega
      · refine Rx.walk 1 (pc' := 41) (L' := [some (.ref 0), some (.int (iz k)), some (.int (iz wh)), some (.int (iz r_7)), none]) (st' := [.int (iz 0)]) (h' := cxW (u2 (u2 (u2 (u2 (u2 z 0 9 sd) 3 1 K) 3 2 pi_) 3 3 len) 3 4 tr) f C T rc tl) rfl ?_
        refine Rx.ret rfl ?_
        rw [f8, e2, hbt] at f41
        exact ⟨_, _, p0, p1, t0, rfl, rfl, hti, Or.inr ⟨rfl, rfl, rfl, rfl, by omega⟩⟩
  · refine Rx.walk 1 (pc' := 12) (L' := [some (.ref 0), some (.int (iz k)), some (.int (iz wh)), none, none]) (st' := [.int (iz 0)]) (h' := cxW (u2 (u2 (u2 (u2 (u2 z 0 9 sd) 3 1 K) 3 2 pi_) 3 3 len) 3 4 tr) f C T rc tl) rfl ?_
    refine Rx.ret rfl ?_
    exact ⟨_, _, p0, p1, t0, rfl, rfl, hti, Or.inr ⟨rfl, rfl, rfl, rfl, by omega⟩⟩
set_option maxRecDepth 100000 in
set_option maxHeartbeats 4000000 in
theorem x_lift (d : Nat) (z : Nat → Nat → Int) (f : Nat → Int → Int) (C : Nat → CuR) (T : Nat → TsR) (rc : Nat → Nat) (tl : AmH)  (k : Int) (sd : Int) (K : Int) (pi_ : Int) (len : Int) (tr : Int) (p0 : Int) (p1 : Int) (t0 : Int) (hk : bI k) (hK : 0 ≤ K ∧ K ≤ 4) (hpi : 0 ≤ pi_ ∧ pi_ ≤ 2) (hlen : 0 ≤ len ∧ len ≤ 5) (htr : 0 ≤ tr ∧ tr ≤ 1) (hp0 : 0 ≤ p0 ∧ p0 < 3125) (hp1 : 0 ≤ p1 ∧ p1 < 3125) (ht0 : 0 ≤ t0) (ht4 : t0 ≤ 4) (hti : sd = tn p0 p1 t0) : Rx (d + 2) m_X11_lift 0 (am_ent [.ref 0, .int (iz k)] 3) [] (cxW (u2 (u2 (u2 (u2 (u2 z 0 9 sd) 3 1 K) 3 2 pi_) 3 3 len) 3 4 tr) f C T rc tl) (fun rv h => ∃ r : Int, ∃ sd' : Int, ∃ q0 : Int, ∃ q1 : Int, rv = some (.int (iz r)) ∧ h = cxW (u2 (u2 (u2 (u2 (u2 z 0 9 sd') 3 1 K) 3 2 pi_) 3 3 len) 3 4 tr) f C T rc tl ∧ sd' = tn q0 q1 t0 ∧ lifR pi_ p0 p1 k r q0 q1) := by
  obtain ⟨hk1, hk2⟩ := id hk
  obtain ⟨e0, e1, e2⟩ := tn_0 (p0 := p0) hp1.1 hp1.2 ht0 ht4
  have e3 := tw_c ht0 ht4
  rw [← hti] at e0 e1 e2
  have e4 : 0 ≤ sd ∧ sd < 2147483648 := by rw [hti]; unfold tn; omega
  have e5 : sd = (p0 * 3125 + p1) * 16 + tw t0 := hti
  have hz0 := ht_c p0
  have hz1 := ht_c p1
  have htb := tbit_c t0
  have hbt := bc_tw ht0 ht4
  refine Rx.walk 0 (pc' := 0) (L' := [some (.ref 0), some (.int (iz k)), none]) (st' := []) (h' := cxW (u2 (u2 (u2 (u2 (u2 z 0 9 sd) 3 1 K) 3 2 pi_) 3 3 len) 3 4 tr) f C T rc tl) rfl ?_
  refine Rx.walk 3 (pc' := 5) (L' := [some (.ref 0), some (.int (iz k)), none]) (st' := [.int (iz k), .ref 3]) (h' := cxW (u2 (u2 (u2 (u2 (u2 z 0 9 sd) 3 1 K) 3 2 pi_) 3 3 len) 3 4 tr) f C T rc tl) rfl ?_
  refine Rx.callx (m' := m_X7_hasPipe) (as := [.ref 3, .int (iz k)]) (rest := []) rfl (x_hasPipe _ (u2 (u2 (u2 (u2 (u2 z 0 9 sd) 3 1 K) 3 2 pi_) 3 3 len) 3 4 tr) f C T rc tl  k pi_ (by first | assumption | omega) (by first | assumption | omega)) (fun v3 h4 q5 => ?_)
  obtain ⟨r_1, rfl, rfl, f2⟩ := q5
  refine Rx.walk 0 (pc' := 8) (L' := [some (.ref 0), some (.int (iz k)), none]) (st' := [.int (iz r_1)]) (h' := cxW (u2 (u2 (u2 (u2 (u2 z 0 9 sd) 3 1 K) 3 2 pi_) 3 3 len) 3 4 tr) f C T rc tl) rfl ?_
  refine Rx.ne1 rfl rfl ⟨by omega, by omega⟩ (fun b6 => ?_) (fun b6 => ?_)
  · refine Rx.walk 3 (pc' := 18) (L' := [some (.ref 0), some (.int (iz k)), none]) (st' := [.int (iz k), .int (iz sd)]) (h' := cxW (u2 (u2 (u2 (u2 (u2 z 0 9 sd) 3 1 K) 3 2 pi_) 3 3 len) 3 4 tr) f C T rc tl) rfl ?_
    refine Rx.callx (m' := m_X10_pipeOf) (as := [.int (iz sd), .int (iz k)]) (rest := []) rfl (n_pipeOf _ (cxW (u2 (u2 (u2 (u2 (u2 z 0 9 sd) 3 1 K) 3 2 pi_) 3 3 len) 3 4 tr) f C T rc tl)  sd k (by first | assumption | omega) (by first | assumption | omega) hk) (fun v9 h10 q11 => ?_)
    obtain ⟨r_7, rfl, rfl, f8⟩ := q11
    refine Rx.walk 0 (pc' := 21) (L' := [some (.ref 0), some (.int (iz k)), none]) (st' := [.int (iz r_7)]) (h' := cxW (u2 (u2 (u2 (u2 (u2 z 0 9 sd) 3 1 K) 3 2 pi_) 3 3 len) 3 4 tr) f C T rc tl) rfl ?_
    refine Rx.walk 2 (pc' := 23) (L' := [some (.ref 0), some (.int (iz k)), some (.int (iz r_7))]) (st' := [.int (iz r_7)]) (h' := cxW (u2 (u2 (u2 (u2 (u2 z 0 9 sd) 3 1 K) 3 2 pi_) 3 3 len) 3 4 tr) f C T rc tl) rfl ?_
    refine Rx.ne1 rfl rfl ⟨by omega, by omega⟩ (fun b12 => ?_) (fun b12 => ?_)
    · refine Rx.walk 6 (pc' := 36) (L' := [some (.ref 0), some (.int (iz k)), some (.int (iz r_7))]) (st' := [.int (iz 5), .int (iz r_7), .int (iz k), .int (iz sd), .ref 0]) (h' := cxW (u2 (u2 (u2 (u2 (u2 z 0 9 sd) 3 1 K) 3 2 pi_) 3 3 len) 3 4 tr) f C T rc tl) rfl ?_
      refine Rx.idiv rfl ⟨by omega, by omega⟩ ⟨by omega, by omega⟩ (by omega) (by omega) ?_
      refine Rx.callx (m' := m_X10_withPipe) (as := [.int (iz sd), .int (iz k), .int (iz (r_7 / 5))]) (rest := [.ref 0]) rfl (n_withPipe _ (cxW (u2 (u2 (u2 (u2 (u2 z 0 9 sd) 3 1 K) 3 2 pi_) 3 3 len) 3 4 tr) f C T rc tl)  sd k (r_7 / 5) (by first | assumption | omega) (by first | assumption | omega) hk) (fun v15 h16 q17 => ?_)
      obtain ⟨r_13, rfl, rfl, f14⟩ := q17
      refine Rx.walk 0 (pc' := 40) (L' := [some (.ref 0), some (.int (iz k)), some (.int (iz r_7))]) (st' := [.int (iz r_13), .ref 0]) (h' := cxW (u2 (u2 (u2 (u2 (u2 z 0 9 sd) 3 1 K) 3 2 pi_) 3 3 len) 3 4 tr) f C T rc tl) rfl ?_
      refine Rx.walk 3 (pc' := 45) (L' := [some (.ref 0), some (.int (iz k)), some (.int (iz r_7))]) (st' := [.int (iz 5), .int (iz r_7)]) (h' := cxW (u2 (u2 (u2 (u2 (u2 z 0 9 r_13) 3 1 K) 3 2 pi_) 3 3 len) 3 4 tr) f C T rc tl) rfl ?_
      refine Rx.irem rfl ⟨by omega, by omega⟩ ⟨by omega, by omega⟩ (by omega) (by omega) ?_
      refine Rx.walk 1 (pc' := 47) (L' := [some (.ref 0), some (.int (iz k)), some (.int (iz r_7))]) (st' := [.int (iz 1), .int (iz (r_7 % 5))]) (h' := cxW (u2 (u2 (u2 (u2 (u2 z 0 9 r_13) 3 1 K) 3 2 pi_) 3 3 len) 3 4 tr) f C T rc tl) rfl ?_
      refine Rx.isub rfl ?_
      refine Rx.ret rfl ?_
      rcases (show k = 0 ∨ k = 1 by omega) with q | q
      · refine ⟨_, _, p0 / 5, p1, rfl, rfl, ?_, Or.inl ⟨q, by omega, by omega, by omega, rfl, rfl⟩⟩
        unfold tn
        omega
      · refine ⟨_, _, p0, p1 / 5, rfl, rfl, ?_, Or.inr (Or.inl ⟨q, by omega, by omega, by omega, rfl, rfl⟩)⟩
        unfold tn
        omega
    · refine Rx.walk 1 (pc' := 27) (L' := [some (.ref 0), some (.int (iz k)), some (.int (iz r_7))]) (st' := [.int (iz (-1))]) (h' := cxW (u2 (u2 (u2 (u2 (u2 z 0 9 sd) 3 1 K) 3 2 pi_) 3 3 len) 3 4 tr) f C T rc tl) rfl ?_
      refine Rx.ret rfl ?_
      exact ⟨_, _, p0, p1, rfl, rfl, hti, Or.inr (Or.inr ⟨by omega, rfl, rfl, rfl⟩)⟩
  · refine Rx.walk 1 (pc' := 12) (L' := [some (.ref 0), some (.int (iz k)), none]) (st' := [.int (iz (-1))]) (h' := cxW (u2 (u2 (u2 (u2 (u2 z 0 9 sd) 3 1 K) 3 2 pi_) 3 3 len) 3 4 tr) f C T rc tl) rfl ?_
    refine Rx.ret rfl ?_
    exact ⟨_, _, p0, p1, rfl, rfl, hti, Or.inr (Or.inr ⟨by omega, rfl, rfl, rfl⟩)⟩
set_option maxRecDepth 100000 in
set_option maxHeartbeats 4000000 in
theorem x_tray (d : Nat) (z : Nat → Nat → Int) (f : Nat → Int → Int) (C : Nat → CuR) (T : Nat → TsR) (rc : Nat → Nat) (tl : AmH)  (k : Int) (sd : Int) (K : Int) (pi_ : Int) (len : Int) (tr : Int) (p0 : Int) (p1 : Int) (t0 : Int) (hk : bI k) (hK : 0 ≤ K ∧ K ≤ 4) (hpi : 0 ≤ pi_ ∧ pi_ ≤ 2) (hlen : 0 ≤ len ∧ len ≤ 5) (htr : 0 ≤ tr ∧ tr ≤ 1) (hp0 : 0 ≤ p0 ∧ p0 < 3125) (hp1 : 0 ≤ p1 ∧ p1 < 3125) (ht0 : 0 ≤ t0) (ht4 : t0 ≤ 4) (hti : sd = tn p0 p1 t0) : Rx (d + 1) m_X11_tray 0 (am_ent [.ref 0, .int (iz k)] 2) [] (cxW (u2 (u2 (u2 (u2 (u2 z 0 9 sd) 3 1 K) 3 2 pi_) 3 3 len) 3 4 tr) f C T rc tl) (fun rv h => ∃ r : Int, rv = some (.int (iz r)) ∧ h = cxW (u2 (u2 (u2 (u2 (u2 z 0 9 sd) 3 1 K) 3 2 pi_) 3 3 len) 3 4 tr) f C T rc tl ∧ ((0 ≤ k ∧ k < K ∧ r = if t0 = k + 1 then 1 else 0) ∨ (¬ (0 ≤ k ∧ k < K) ∧ r = -1))) := by
  obtain ⟨hk1, hk2⟩ := id hk
  obtain ⟨e0, e1, e2⟩ := tn_0 (p0 := p0) hp1.1 hp1.2 ht0 ht4
  have e3 := tw_c ht0 ht4
  rw [← hti] at e0 e1 e2
  have e4 : 0 ≤ sd ∧ sd < 2147483648 := by rw [hti]; unfold tn; omega
  have e5 : sd = (p0 * 3125 + p1) * 16 + tw t0 := hti
  have hz0 := ht_c p0
  have hz1 := ht_c p1
  have htb := tbit_c t0
  have hbt := bc_tw ht0 ht4
  refine Rx.walk 0 (pc' := 0) (L' := [some (.ref 0), some (.int (iz k))]) (st' := []) (h' := cxW (u2 (u2 (u2 (u2 (u2 z 0 9 sd) 3 1 K) 3 2 pi_) 3 3 len) 3 4 tr) f C T rc tl) rfl ?_
  refine Rx.walk 3 (pc' := 5) (L' := [some (.ref 0), some (.int (iz k))]) (st' := [.int (iz k), .ref 3]) (h' := cxW (u2 (u2 (u2 (u2 (u2 z 0 9 sd) 3 1 K) 3 2 pi_) 3 3 len) 3 4 tr) f C T rc tl) rfl ?_
  refine Rx.callx (m' := m_X7_hasKind) (as := [.ref 3, .int (iz k)]) (rest := []) rfl (x_hasKind _ (u2 (u2 (u2 (u2 (u2 z 0 9 sd) 3 1 K) 3 2 pi_) 3 3 len) 3 4 tr) f C T rc tl  k K (by first | assumption | omega) (by first | assumption | omega)) (fun v3 h4 q5 => ?_)
  obtain ⟨r_1, rfl, rfl, f2⟩ := q5
  refine Rx.walk 0 (pc' := 8) (L' := [some (.ref 0), some (.int (iz k))]) (st' := [.int (iz r_1)]) (h' := cxW (u2 (u2 (u2 (u2 (u2 z 0 9 sd) 3 1 K) 3 2 pi_) 3 3 len) 3 4 tr) f C T rc tl) rfl ?_
  refine Rx.eq1 rfl rfl ⟨by omega, by omega⟩ (fun b6 => ?_) (fun b6 => ?_)
  · refine Rx.walk 1 (pc' := 26) (L' := [some (.ref 0), some (.int (iz k))]) (st' := [.int (iz (-1))]) (h' := cxW (u2 (u2 (u2 (u2 (u2 z 0 9 sd) 3 1 K) 3 2 pi_) 3 3 len) 3 4 tr) f C T rc tl) rfl ?_
    refine Rx.ret rfl ?_
    exact ⟨_, rfl, rfl, Or.inr ⟨by omega, rfl⟩⟩
  · refine Rx.walk 2 (pc' := 15) (L' := [some (.ref 0), some (.int (iz k))]) (st' := [.int (iz sd)]) (h' := cxW (u2 (u2 (u2 (u2 (u2 z 0 9 sd) 3 1 K) 3 2 pi_) 3 3 len) 3 4 tr) f C T rc tl) rfl ?_
    refine Rx.callx (m' := m_X10_trayOf) (as := [.int (iz sd)]) (rest := []) rfl (n_trayOf _ (cxW (u2 (u2 (u2 (u2 (u2 z 0 9 sd) 3 1 K) 3 2 pi_) 3 3 len) 3 4 tr) f C T rc tl)  sd (by first | assumption | omega) (by first | assumption | omega)) (fun v9 h10 q11 => ?_)
    obtain ⟨r_7, rfl, rfl, f8⟩ := q11
    refine Rx.walk 0 (pc' := 18) (L' := [some (.ref 0), some (.int (iz k))]) (st' := [.int (iz r_7)]) (h' := cxW (u2 (u2 (u2 (u2 (u2 z 0 9 sd) 3 1 K) 3 2 pi_) 3 3 len) 3 4 tr) f C T rc tl) rfl ?_
    refine Rx.walk 1 (pc' := 19) (L' := [some (.ref 0), some (.int (iz k))]) (st' := [.int (iz k), .int (iz r_7)]) (h' := cxW (u2 (u2 (u2 (u2 (u2 z 0 9 sd) 3 1 K) 3 2 pi_) 3 3 len) 3 4 tr) f C T rc tl) rfl ?_
    refine Rx.ishr (c := (r_7 / p2 k)) rfl (p2_shr (by omega) (by omega) (by omega) (by omega)) ?_
    refine Rx.walk 1 (pc' := 21) (L' := [some (.ref 0), some (.int (iz k))]) (st' := [.int (iz 1), .int (iz (r_7 / p2 k))]) (h' := cxW (u2 (u2 (u2 (u2 (u2 z 0 9 sd) 3 1 K) 3 2 pi_) 3 3 len) 3 4 tr) f C T rc tl) rfl ?_
    refine Rx.iand (c := (hb r_7 k)) rfl (iz_and1 _) ?_
    refine Rx.walk 1 (pc' := 26) (L' := [some (.ref 0), some (.int (iz k))]) (st' := [.int (iz (hb r_7 k))]) (h' := cxW (u2 (u2 (u2 (u2 (u2 z 0 9 sd) 3 1 K) 3 2 pi_) 3 3 len) 3 4 tr) f C T rc tl) rfl ?_
    refine Rx.ret rfl ?_
    exact ⟨_, rfl, rfl, Or.inl ⟨by omega, by omega, by rw [f8, e2]; exact hb_tw ht0 ht4 (by omega) (by omega)⟩⟩
set_option maxRecDepth 100000 in
set_option maxHeartbeats 4000000 in
theorem x_till (d : Nat) (z : Nat → Nat → Int) (f : Nat → Int → Int) (C : Nat → CuR) (T : Nat → TsR) (rc : Nat → Nat) (tl : AmH)  (sd : Int) (K : Int) (pi_ : Int) (len : Int) (tr : Int) (p0 : Int) (p1 : Int) (t0 : Int) (hK : 0 ≤ K ∧ K ≤ 4) (hpi : 0 ≤ pi_ ∧ pi_ ≤ 2) (hlen : 0 ≤ len ∧ len ≤ 5) (htr : 0 ≤ tr ∧ tr ≤ 1) (hp0 : 0 ≤ p0 ∧ p0 < 3125) (hp1 : 0 ≤ p1 ∧ p1 < 3125) (ht0 : 0 ≤ t0) (ht4 : t0 ≤ 4) (hti : sd = tn p0 p1 t0) : Rx (d + 1) m_X11_till 0 (am_ent [.ref 0] 1) [] (cxW (u2 (u2 (u2 (u2 (u2 z 0 9 sd) 3 1 K) 3 2 pi_) 3 3 len) 3 4 tr) f C T rc tl) (fun rv h => ∃ r : Int, rv = some (.long (jz r)) ∧ h = cxW (u2 (u2 (u2 (u2 (u2 z 0 9 sd) 3 1 K) 3 2 pi_) 3 3 len) 3 4 tr) f C T rc tl ∧ ((K = 0 ∧ r = -1) ∨ (0 < K ∧ r = tn p0 p1 t0))) := by
  obtain ⟨e0, e1, e2⟩ := tn_0 (p0 := p0) hp1.1 hp1.2 ht0 ht4
  have e3 := tw_c ht0 ht4
  rw [← hti] at e0 e1 e2
  have e4 : 0 ≤ sd ∧ sd < 2147483648 := by rw [hti]; unfold tn; omega
  have e5 : sd = (p0 * 3125 + p1) * 16 + tw t0 := hti
  have hz0 := ht_c p0
  have hz1 := ht_c p1
  have htb := tbit_c t0
  have hbt := bc_tw ht0 ht4
  refine Rx.walk 0 (pc' := 0) (L' := [some (.ref 0)]) (st' := []) (h' := cxW (u2 (u2 (u2 (u2 (u2 z 0 9 sd) 3 1 K) 3 2 pi_) 3 3 len) 3 4 tr) f C T rc tl) rfl ?_
  refine Rx.walk 2 (pc' := 4) (L' := [some (.ref 0)]) (st' := [.ref 3]) (h' := cxW (u2 (u2 (u2 (u2 (u2 z 0 9 sd) 3 1 K) 3 2 pi_) 3 3 len) 3 4 tr) f C T rc tl) rfl ?_
  refine Rx.callx (m' := m_X7_isOpen) (as := [.ref 3]) (rest := []) rfl (x_sopen _ (u2 (u2 (u2 (u2 (u2 z 0 9 sd) 3 1 K) 3 2 pi_) 3 3 len) 3 4 tr) f C T rc tl  K (by first | assumption | omega)) (fun v3 h4 q5 => ?_)
  obtain ⟨r_1, rfl, rfl, f2⟩ := q5
  refine Rx.walk 0 (pc' := 7) (L' := [some (.ref 0)]) (st' := [.int (iz r_1)]) (h' := cxW (u2 (u2 (u2 (u2 (u2 z 0 9 sd) 3 1 K) 3 2 pi_) 3 3 len) 3 4 tr) f C T rc tl) rfl ?_
  refine Rx.eq1 rfl rfl ⟨by omega, by omega⟩ (fun b6 => ?_) (fun b6 => ?_)
  · refine Rx.walk 1 (pc' := 21) (L' := [some (.ref 0)]) (st' := [.long (jz (-1))]) (h' := cxW (u2 (u2 (u2 (u2 (u2 z 0 9 sd) 3 1 K) 3 2 pi_) 3 3 len) 3 4 tr) f C T rc tl) rfl ?_
    refine Rx.ret rfl ?_
    exact ⟨_, rfl, rfl, (by omega)⟩
  · refine Rx.walk 2 (pc' := 14) (L' := [some (.ref 0)]) (st' := [.int (iz sd)]) (h' := cxW (u2 (u2 (u2 (u2 (u2 z 0 9 sd) 3 1 K) 3 2 pi_) 3 3 len) 3 4 tr) f C T rc tl) rfl ?_
    refine Rx.i2l rfl ⟨by omega, by omega⟩ ?_
    refine Rx.walk 1 (pc' := 21) (L' := [some (.ref 0)]) (st' := [.long (jz sd)]) (h' := cxW (u2 (u2 (u2 (u2 (u2 z 0 9 sd) 3 1 K) 3 2 pi_) 3 3 len) 3 4 tr) f C T rc tl) rfl ?_
    refine Rx.ret rfl ?_
    exact ⟨_, rfl, rfl, (by omega)⟩
set_option maxRecDepth 100000 in
set_option maxHeartbeats 4000000 in
theorem m_isKind (d : Nat) (z : Nat → Int) (zl : Nat → Int) (f : Nat → Int → Int) (fl : Nat → Int → Int) (tx : Nat)  (k : Int) (K : Int) (hK : 0 ≤ K ∧ K ≤ 4) (hk : bI k) : Rx (d) m_X12_isKind 0 (am_ent [.ref 0, .int (iz k)] 2) [] (cmH (u1 z 21 K) zl f fl tx) (fun rv h => ∃ r : Int, rv = some (.int (iz r)) ∧ h = cmH (u1 z 21 K) zl f fl tx ∧ ((r = 1 ∧ 0 ≤ k ∧ k < K) ∨ (r = 0 ∧ ¬ (0 ≤ k ∧ k < K)))) := by
  obtain ⟨hk1, hk2⟩ := id hk
  refine Rx.walk 0 (pc' := 0) (L' := [some (.ref 0), some (.int (iz k))]) (st' := []) (h' := cmH (u1 z 21 K) zl f fl tx) rfl ?_
  refine Rx.walk 1 (pc' := 1) (L' := [some (.ref 0), some (.int (iz k))]) (st' := [.int (iz k)]) (h' := cmH (u1 z 21 K) zl f fl tx) rfl ?_
  refine Rx.lt1 rfl rfl ⟨by omega, by omega⟩ (fun b1 => ?_) (fun b1 => ?_)
  · refine Rx.walk 1 (pc' := 17) (L' := [some (.ref 0), some (.int (iz k))]) (st' := [.int (iz 0)]) (h' := cmH (u1 z 21 K) zl f fl tx) rfl ?_
    refine Rx.ret rfl ?_
    exact ⟨_, rfl, rfl, (by omega)⟩
  · refine Rx.walk 3 (pc' := 9) (L' := [some (.ref 0), some (.int (iz k))]) (st' := [.int (iz K), .int (iz k)]) (h' := cmH (u1 z 21 K) zl f fl tx) rfl ?_
    refine Rx.ge2 rfl rfl ⟨by omega, by omega⟩ ⟨by omega, by omega⟩ (fun b2 => ?_) (fun b2 => ?_)
    · refine Rx.walk 1 (pc' := 17) (L' := [some (.ref 0), some (.int (iz k))]) (st' := [.int (iz 0)]) (h' := cmH (u1 z 21 K) zl f fl tx) rfl ?_
      refine Rx.ret rfl ?_
      exact ⟨_, rfl, rfl, (by omega)⟩
    · refine Rx.walk 2 (pc' := 17) (L' := [some (.ref 0), some (.int (iz k))]) (st' := [.int (iz 1)]) (h' := cmH (u1 z 21 K) zl f fl tx) rfl ?_
      refine Rx.ret rfl ?_
      exact ⟨_, rfl, rfl, (by omega)⟩
set_option maxRecDepth 100000 in
set_option maxHeartbeats 4000000 in
theorem m_isPipe (d : Nat) (z : Nat → Int) (zl : Nat → Int) (f : Nat → Int → Int) (fl : Nat → Int → Int) (tx : Nat)  (k : Int) (pi_ : Int) (hK : 0 ≤ pi_ ∧ pi_ ≤ 4) (hk : bI k) : Rx (d) m_X12_isPipe 0 (am_ent [.ref 0, .int (iz k)] 2) [] (cmH (u1 z 22 pi_) zl f fl tx) (fun rv h => ∃ r : Int, rv = some (.int (iz r)) ∧ h = cmH (u1 z 22 pi_) zl f fl tx ∧ ((r = 1 ∧ 0 ≤ k ∧ k < pi_) ∨ (r = 0 ∧ ¬ (0 ≤ k ∧ k < pi_)))) := by
  obtain ⟨hk1, hk2⟩ := id hk
  refine Rx.walk 0 (pc' := 0) (L' := [some (.ref 0), some (.int (iz k))]) (st' := []) (h' := cmH (u1 z 22 pi_) zl f fl tx) rfl ?_
  refine Rx.walk 1 (pc' := 1) (L' := [some (.ref 0), some (.int (iz k))]) (st' := [.int (iz k)]) (h' := cmH (u1 z 22 pi_) zl f fl tx) rfl ?_
  refine Rx.lt1 rfl rfl ⟨by omega, by omega⟩ (fun b1 => ?_) (fun b1 => ?_)
  · refine Rx.walk 1 (pc' := 17) (L' := [some (.ref 0), some (.int (iz k))]) (st' := [.int (iz 0)]) (h' := cmH (u1 z 22 pi_) zl f fl tx) rfl ?_
    refine Rx.ret rfl ?_
    exact ⟨_, rfl, rfl, (by omega)⟩
  · refine Rx.walk 3 (pc' := 9) (L' := [some (.ref 0), some (.int (iz k))]) (st' := [.int (iz pi_), .int (iz k)]) (h' := cmH (u1 z 22 pi_) zl f fl tx) rfl ?_
    refine Rx.ge2 rfl rfl ⟨by omega, by omega⟩ ⟨by omega, by omega⟩ (fun b2 => ?_) (fun b2 => ?_)
    · refine Rx.walk 1 (pc' := 17) (L' := [some (.ref 0), some (.int (iz k))]) (st' := [.int (iz 0)]) (h' := cmH (u1 z 22 pi_) zl f fl tx) rfl ?_
      refine Rx.ret rfl ?_
      exact ⟨_, rfl, rfl, (by omega)⟩
    · refine Rx.walk 2 (pc' := 17) (L' := [some (.ref 0), some (.int (iz k))]) (st' := [.int (iz 1)]) (h' := cmH (u1 z 22 pi_) zl f fl tx) rfl ?_
      refine Rx.ret rfl ?_
      exact ⟨_, rfl, rfl, (by omega)⟩
set_option maxRecDepth 100000 in
set_option maxHeartbeats 4000000 in
theorem m_isCust (d : Nat) (z : Nat → Int) (zl : Nat → Int) (f : Nat → Int → Int) (fl : Nat → Int → Int) (tx : Nat)  (k : Int) (M : Int) (hK : 0 ≤ M ∧ M ≤ 4) (hk : bI k) : Rx (d) m_X12_isCustomer 0 (am_ent [.ref 0, .int (iz k)] 2) [] (cmH (u1 z 28 M) zl f fl tx) (fun rv h => ∃ r : Int, rv = some (.int (iz r)) ∧ h = cmH (u1 z 28 M) zl f fl tx ∧ ((r = 1 ∧ 0 ≤ k ∧ k < M) ∨ (r = 0 ∧ ¬ (0 ≤ k ∧ k < M)))) := by
  obtain ⟨hk1, hk2⟩ := id hk
  refine Rx.walk 0 (pc' := 0) (L' := [some (.ref 0), some (.int (iz k))]) (st' := []) (h' := cmH (u1 z 28 M) zl f fl tx) rfl ?_
  refine Rx.walk 1 (pc' := 1) (L' := [some (.ref 0), some (.int (iz k))]) (st' := [.int (iz k)]) (h' := cmH (u1 z 28 M) zl f fl tx) rfl ?_
  refine Rx.lt1 rfl rfl ⟨by omega, by omega⟩ (fun b1 => ?_) (fun b1 => ?_)
  · refine Rx.walk 1 (pc' := 17) (L' := [some (.ref 0), some (.int (iz k))]) (st' := [.int (iz 0)]) (h' := cmH (u1 z 28 M) zl f fl tx) rfl ?_
    refine Rx.ret rfl ?_
    exact ⟨_, rfl, rfl, (by omega)⟩
  · refine Rx.walk 3 (pc' := 9) (L' := [some (.ref 0), some (.int (iz k))]) (st' := [.int (iz M), .int (iz k)]) (h' := cmH (u1 z 28 M) zl f fl tx) rfl ?_
    refine Rx.ge2 rfl rfl ⟨by omega, by omega⟩ ⟨by omega, by omega⟩ (fun b2 => ?_) (fun b2 => ?_)
    · refine Rx.walk 1 (pc' := 17) (L' := [some (.ref 0), some (.int (iz k))]) (st' := [.int (iz 0)]) (h' := cmH (u1 z 28 M) zl f fl tx) rfl ?_
      refine Rx.ret rfl ?_
      exact ⟨_, rfl, rfl, (by omega)⟩
    · refine Rx.walk 2 (pc' := 17) (L' := [some (.ref 0), some (.int (iz k))]) (st' := [.int (iz 1)]) (h' := cmH (u1 z 28 M) zl f fl tx) rfl ?_
      refine Rx.ret rfl ?_
      exact ⟨_, rfl, rfl, (by omega)⟩
set_option maxRecDepth 100000 in
set_option maxHeartbeats 4000000 in
theorem m_isRule (d : Nat) (z : Nat → Int) (zl : Nat → Int) (f : Nat → Int → Int) (fl : Nat → Int → Int) (tx : Nat)  (k : Int) (Rn : Int) (hK : 0 ≤ Rn ∧ Rn ≤ 4) (hk : bI k) : Rx (d) m_X12_isRule 0 (am_ent [.ref 0, .int (iz k)] 2) [] (cmH (u1 z 7 Rn) zl f fl tx) (fun rv h => ∃ r : Int, rv = some (.int (iz r)) ∧ h = cmH (u1 z 7 Rn) zl f fl tx ∧ ((r = 1 ∧ 0 ≤ k ∧ k < Rn) ∨ (r = 0 ∧ ¬ (0 ≤ k ∧ k < Rn)))) := by
  obtain ⟨hk1, hk2⟩ := id hk
  refine Rx.walk 0 (pc' := 0) (L' := [some (.ref 0), some (.int (iz k))]) (st' := []) (h' := cmH (u1 z 7 Rn) zl f fl tx) rfl ?_
  refine Rx.walk 1 (pc' := 1) (L' := [some (.ref 0), some (.int (iz k))]) (st' := [.int (iz k)]) (h' := cmH (u1 z 7 Rn) zl f fl tx) rfl ?_
  refine Rx.lt1 rfl rfl ⟨by omega, by omega⟩ (fun b1 => ?_) (fun b1 => ?_)
  · refine Rx.walk 1 (pc' := 17) (L' := [some (.ref 0), some (.int (iz k))]) (st' := [.int (iz 0)]) (h' := cmH (u1 z 7 Rn) zl f fl tx) rfl ?_
    refine Rx.ret rfl ?_
    exact ⟨_, rfl, rfl, (by omega)⟩
  · refine Rx.walk 3 (pc' := 9) (L' := [some (.ref 0), some (.int (iz k))]) (st' := [.int (iz Rn), .int (iz k)]) (h' := cmH (u1 z 7 Rn) zl f fl tx) rfl ?_
    refine Rx.ge2 rfl rfl ⟨by omega, by omega⟩ ⟨by omega, by omega⟩ (fun b2 => ?_) (fun b2 => ?_)
    · refine Rx.walk 1 (pc' := 17) (L' := [some (.ref 0), some (.int (iz k))]) (st' := [.int (iz 0)]) (h' := cmH (u1 z 7 Rn) zl f fl tx) rfl ?_
      refine Rx.ret rfl ?_
      exact ⟨_, rfl, rfl, (by omega)⟩
    · refine Rx.walk 2 (pc' := 17) (L' := [some (.ref 0), some (.int (iz k))]) (st' := [.int (iz 1)]) (h' := cmH (u1 z 7 Rn) zl f fl tx) rfl ?_
      refine Rx.ret rfl ?_
      exact ⟨_, rfl, rfl, (by omega)⟩
set_option maxRecDepth 100000 in
set_option maxHeartbeats 4000000 in
theorem m_lay (d : Nat) (z : Nat → Int) (zl : Nat → Int) (f : Nat → Int → Int) (fl : Nat → Int → Int) (tx : Nat)  (k : Int) (wh : Int) (K : Int) (p0 : Int) (p1 : Int) (t : Int) (pp : Int → Int) (li : Int → Int) (ty : Int → Int) (pi_ : Int) (len : Int) (tr : Int) (hk : bI k) (hwh : bI wh) (hM : mtI K pp li ty p0 p1 t) (hK : 0 ≤ K ∧ K ≤ 4) (hpi : 0 ≤ pi_ ∧ pi_ ≤ 2) (hlen : 0 ≤ len ∧ len ≤ 5) (htr : 0 ≤ tr ∧ tr ≤ 1) (hh0 : ht p0 ≤ len) (hh1 : ht p1 ≤ len) : Rx (d + 1) m_X12_lay 0 (am_ent [.ref 0, .int (iz k), .int (iz wh)] 3) [] (cmH (u1 (u1 (u1 (u1 z 21 K) 22 pi_) 23 len) 24 tr) zl (uf (uf (uf f 10 pp) 11 li) 12 ty) fl tx) (fun rv h => ∃ r : Int, ∃ pp' : Int → Int, ∃ li' : Int → Int, ∃ ty' : Int → Int, ∃ q0 : Int, ∃ q1 : Int, ∃ s : Int, rv = some (.int (iz r)) ∧ h = cmH (u1 (u1 (u1 (u1 (u1 z 0 0) 21 K) 22 pi_) 23 len) 24 tr) zl (uf (uf (uf f 10 pp') 11 li') 12 ty') fl tx ∧ mtI K pp' li' ty' q0 q1 s ∧ layR K pi_ len tr p0 p1 t k wh r q0 q1 s) := by
  obtain ⟨hwh1, hwh2⟩ := id hwh
  obtain ⟨hk1, hk2⟩ := id hk
  obtain ⟨⟨hm1, hm2, hm3⟩, ⟨hm4, hm5, hm6⟩, hm7, hm8, hm9⟩ := mtI_b hM
  have hz0 := ht_c p0
  have hz1 := ht_c p1
  have hmt := mtI_t hM
  rcases (show wh = 0 ∨ wh = 1 ∨ (wh ≠ 0 ∧ wh ≠ 1) by omega) with rfl | rfl | hne
  · refine Rx.walk 0 (pc' := 0) (L' := [some (.ref 0), some (.int (iz k)), some (.int (iz 0))]) (st' := []) (h' := cmH (u1 (u1 (u1 (u1 z 21 K) 22 pi_) 23 len) 24 tr) zl (uf (uf (uf f 10 pp) 11 li) 12 ty) fl tx) rfl ?_
    refine Rx.walk 5 (pc' := 7) (L' := [some (.ref 0), some (.int (iz k)), some (.int (iz 0))]) (st' := [.int (iz k), .ref 0]) (h' := cmH (u1 (u1 (u1 (u1 (u1 z 0 0) 21 K) 22 pi_) 23 len) 24 tr) zl (uf (uf (uf f 10 pp) 11 li) 12 ty) fl tx) rfl ?_
    refine Rx.callx (m' := m_X12_isKind) (as := [.ref 0, .int (iz k)]) (rest := []) rfl (m_isKind _ (u1 (u1 (u1 (u1 (u1 z 0 0) 21 K) 22 pi_) 23 len) 24 tr) zl (uf (uf (uf f 10 pp) 11 li) 12 ty) fl tx  k K (by first | assumption | omega) hk) (fun v3 h4 q5 => ?_)
    obtain ⟨r_1, rfl, rfl, f2⟩ := q5
    refine Rx.walk 0 (pc' := 10) (L' := [some (.ref 0), some (.int (iz k)), some (.int (iz 0))]) (st' := [.int (iz r_1)]) (h' := cmH (u1 (u1 (u1 (u1 (u1 z 0 0) 21 K) 22 pi_) 23 len) 24 tr) zl (uf (uf (uf f 10 pp) 11 li) 12 ty) fl tx) rfl ?_
    refine Rx.ne1 rfl rfl ⟨by omega, by omega⟩ (fun b6 => ?_) (fun b6 => ?_)
    · refine Rx.walk 2 (pc' := 17) (L' := [some (.ref 0), some (.int (iz k)), some (.int (iz 0))]) (st' := [.int (iz 2), .int (iz 0)]) (h' := cmH (u1 (u1 (u1 (u1 (u1 z 0 0) 21 K) 22 pi_) 23 len) 24 tr) zl (uf (uf (uf f 10 pp) 11 li) 12 ty) fl tx) rfl ?_
      refine Rx.ne2 rfl rfl ⟨by omega, by omega⟩ ⟨by omega, by omega⟩ (fun b7 => ?_) (fun b7 => by omega)
      refine Rx.walk 2 (pc' := 47) (L' := [some (.ref 0), some (.int (iz k)), some (.int (iz 0))]) (st' := [.int (iz 0), .ref 0]) (h' := cmH (u1 (u1 (u1 (u1 (u1 z 0 0) 21 K) 22 pi_) 23 len) 24 tr) zl (uf (uf (uf f 10 pp) 11 li) 12 ty) fl tx) rfl ?_
      refine Rx.callx (m' := m_X12_isPipe) (as := [.ref 0, .int (iz 0)]) (rest := []) rfl (m_isPipe _ (u1 (u1 (u1 (u1 (u1 z 0 0) 21 K) 22 pi_) 23 len) 24 tr) zl (uf (uf (uf f 10 pp) 11 li) 12 ty) fl tx  0 pi_ (by first | assumption | omega) ⟨by omega, by omega⟩) (fun v10 h11 q12 => ?_)
      obtain ⟨r_8, rfl, rfl, f9⟩ := q12
      refine Rx.walk 0 (pc' := 50) (L' := [some (.ref 0), some (.int (iz k)), some (.int (iz 0))]) (st' := [.int (iz r_8)]) (h' := cmH (u1 (u1 (u1 (u1 (u1 z 0 0) 21 K) 22 pi_) 23 len) 24 tr) zl (uf (uf (uf f 10 pp) 11 li) 12 ty) fl tx) rfl ?_
      refine Rx.eq1 rfl rfl ⟨by omega, by omega⟩ (fun b13 => ?_) (fun b13 => ?_)
      · refine Rx.walk 1 (pc' := 67) (L' := [some (.ref 0), some (.int (iz k)), some (.int (iz 0))]) (st' := [.int (iz 0)]) (h' := cmH (u1 (u1 (u1 (u1 (u1 z 0 0) 21 K) 22 pi_) 23 len) 24 tr) zl (uf (uf (uf f 10 pp) 11 li) 12 ty) fl tx) rfl ?_
        refine Rx.ret rfl ?_
        exact ⟨_, _, _, _, p0, p1, t, rfl, rfl, hM, Or.inr ⟨rfl, rfl, rfl, rfl, by omega⟩⟩
      · refine Rx.walk 3 (pc' := 58) (L' := [some (.ref 0), some (.int (iz k)), some (.int (iz 0))]) (st' := [.int (iz 0), .ref 11]) (h' := cmH (u1 (u1 (u1 (u1 (u1 z 0 0) 21 K) 22 pi_) 23 len) 24 tr) zl (uf (uf (uf f 10 pp) 11 li) 12 ty) fl tx) rfl ?_
        refine Rx.ial (g := li) rfl rfl (by omega) (by omega) (by omega) ?_
        refine Rx.walk 2 (pc' := 63) (L' := [some (.ref 0), some (.int (iz k)), some (.int (iz 0))]) (st' := [.int (iz len), .int (iz (li 0))]) (h' := cmH (u1 (u1 (u1 (u1 (u1 z 0 0) 21 K) 22 pi_) 23 len) 24 tr) zl (uf (uf (uf f 10 pp) 11 li) 12 ty) fl tx) rfl ?_
        refine Rx.ne2 rfl rfl ⟨by omega, by omega⟩ ⟨by omega, by omega⟩ (fun b14 => ?_) (fun b14 => ?_)
        · refine Rx.walk 3 (pc' := 71) (L' := [some (.ref 0), some (.int (iz k)), some (.int (iz 0))]) (st' := [.int (iz k), .int (iz 0), .ref 0]) (h' := cmH (u1 (u1 (u1 (u1 (u1 z 0 0) 21 K) 22 pi_) 23 len) 24 tr) zl (uf (uf (uf f 10 pp) 11 li) 12 ty) fl tx) rfl ?_
          refine Rx.callx (m' := m_X12_push) (as := [.ref 0, .int (iz 0), .int (iz k)]) (rest := []) rfl (m_push0 _ (u1 (u1 (u1 (u1 (u1 z 0 0) 21 K) 22 pi_) 23 len) 24 tr) zl (uf (uf (uf f 10 pp) 11 li) 12 ty) fl tx  pp li ty k (by first | assumption | omega) (by first | assumption | omega)) (fun v15 h16 q17 => ?_)
          obtain ⟨rfl, rfl⟩ := q17
          refine Rx.walk 0 (pc' := 74) (L' := [some (.ref 0), some (.int (iz k)), some (.int (iz 0))]) (st' := []) (h' := cmH (u1 (u1 (u1 (u1 (u1 z 0 0) 21 K) 22 pi_) 23 len) 24 tr) zl (uf (uf (uf f 10 (iu pp (0 + (li 0)) k)) 11 (iu li 0 ((li 0) + 1))) 12 ty) fl tx) rfl ?_
          refine Rx.walk 1 (pc' := 75) (L' := [some (.ref 0), some (.int (iz k)), some (.int (iz 0))]) (st' := [.int (iz 1)]) (h' := cmH (u1 (u1 (u1 (u1 (u1 z 0 0) 21 K) 22 pi_) 23 len) 24 tr) zl (uf (uf (uf f 10 (iu pp (0 + (li 0)) k)) 11 (iu li 0 ((li 0) + 1))) 12 ty) fl tx) rfl ?_
          refine Rx.ret rfl ?_
          refine ⟨_, _, _, _, p0 * 5 + (k + 1), p1, t, rfl, rfl, by rw [Int.zero_add]; exact mtI_push0 hM (by omega) (by omega) (by omega), Or.inl ⟨rfl, by omega, by omega, Or.inr (Or.inl ⟨rfl, by omega, by omega, rfl, rfl, rfl⟩)⟩⟩
        · refine Rx.walk 1 (pc' := 67) (L' := [some (.ref 0), some (.int (iz k)), some (.int (iz 0))]) (st' := [.int (iz 0)]) (h' := cmH (u1 (u1 (u1 (u1 (u1 z 0 0) 21 K) 22 pi_) 23 len) 24 tr) zl (uf (uf (uf f 10 pp) 11 li) 12 ty) fl tx) rfl ?_
          refine Rx.ret rfl ?_
          exact ⟨_, _, _, _, p0, p1, t, rfl, rfl, hM, Or.inr ⟨rfl, rfl, rfl, rfl, by omega⟩⟩
    · refine Rx.walk 1 (pc' := 14) (L' := [some (.ref 0), some (.int (iz k)), some (.int (iz 0))]) (st' := [.int (iz 0)]) (h' := cmH (u1 (u1 (u1 (u1 (u1 z 0 0) 21 K) 22 pi_) 23 len) 24 tr) zl (uf (uf (uf f 10 pp) 11 li) 12 ty) fl tx) rfl ?_
      refine Rx.ret rfl ?_
      exact ⟨_, _, _, _, p0, p1, t, rfl, rfl, hM, Or.inr ⟨rfl, rfl, rfl, rfl, by omega⟩⟩
  · refine Rx.walk 0 (pc' := 0) (L' := [some (.ref 0), some (.int (iz k)), some (.int (iz 1))]) (st' := []) (h' := cmH (u1 (u1 (u1 (u1 z 21 K) 22 pi_) 23 len) 24 tr) zl (uf (uf (uf f 10 pp) 11 li) 12 ty) fl tx) rfl ?_
    refine Rx.walk 5 (pc' := 7) (L' := [some (.ref 0), some (.int (iz k)), some (.int (iz 1))]) (st' := [.int (iz k), .ref 0]) (h' := cmH (u1 (u1 (u1 (u1 (u1 z 0 0) 21 K) 22 pi_) 23 len) 24 tr) zl (uf (uf (uf f 10 pp) 11 li) 12 ty) fl tx) rfl ?_
    refine Rx.callx (m' := m_X12_isKind) (as := [.ref 0, .int (iz k)]) (rest := []) rfl (m_isKind _ (u1 (u1 (u1 (u1 (u1 z 0 0) 21 K) 22 pi_) 23 len) 24 tr) zl (uf (uf (uf f 10 pp) 11 li) 12 ty) fl tx  k K (by first | assumption | omega) hk) (fun v3 h4 q5 => ?_)
    obtain ⟨r_1, rfl, rfl, f2⟩ := q5
    refine Rx.walk 0 (pc' := 10) (L' := [some (.ref 0), some (.int (iz k)), some (.int (iz 1))]) (st' := [.int (iz r_1)]) (h' := cmH (u1 (u1 (u1 (u1 (u1 z 0 0) 21 K) 22 pi_) 23 len) 24 tr) zl (uf (uf (uf f 10 pp) 11 li) 12 ty) fl tx) rfl ?_
    refine Rx.ne1 rfl rfl ⟨by omega, by omega⟩ (fun b6 => ?_) (fun b6 => ?_)
    · refine Rx.walk 2 (pc' := 17) (L' := [some (.ref 0), some (.int (iz k)), some (.int (iz 1))]) (st' := [.int (iz 2), .int (iz 1)]) (h' := cmH (u1 (u1 (u1 (u1 (u1 z 0 0) 21 K) 22 pi_) 23 len) 24 tr) zl (uf (uf (uf f 10 pp) 11 li) 12 ty) fl tx) rfl ?_
      refine Rx.ne2 rfl rfl ⟨by omega, by omega⟩ ⟨by omega, by omega⟩ (fun b7 => ?_) (fun b7 => by omega)
      refine Rx.walk 2 (pc' := 47) (L' := [some (.ref 0), some (.int (iz k)), some (.int (iz 1))]) (st' := [.int (iz 1), .ref 0]) (h' := cmH (u1 (u1 (u1 (u1 (u1 z 0 0) 21 K) 22 pi_) 23 len) 24 tr) zl (uf (uf (uf f 10 pp) 11 li) 12 ty) fl tx) rfl ?_
      refine Rx.callx (m' := m_X12_isPipe) (as := [.ref 0, .int (iz 1)]) (rest := []) rfl (m_isPipe _ (u1 (u1 (u1 (u1 (u1 z 0 0) 21 K) 22 pi_) 23 len) 24 tr) zl (uf (uf (uf f 10 pp) 11 li) 12 ty) fl tx  1 pi_ (by first | assumption | omega) ⟨by omega, by omega⟩) (fun v10 h11 q12 => ?_)
      obtain ⟨r_8, rfl, rfl, f9⟩ := q12
      refine Rx.walk 0 (pc' := 50) (L' := [some (.ref 0), some (.int (iz k)), some (.int (iz 1))]) (st' := [.int (iz r_8)]) (h' := cmH (u1 (u1 (u1 (u1 (u1 z 0 0) 21 K) 22 pi_) 23 len) 24 tr) zl (uf (uf (uf f 10 pp) 11 li) 12 ty) fl tx) rfl ?_
      refine Rx.eq1 rfl rfl ⟨by omega, by omega⟩ (fun b13 => ?_) (fun b13 => ?_)
      · refine Rx.walk 1 (pc' := 67) (L' := [some (.ref 0), some (.int (iz k)), some (.int (iz 1))]) (st' := [.int (iz 0)]) (h' := cmH (u1 (u1 (u1 (u1 (u1 z 0 0) 21 K) 22 pi_) 23 len) 24 tr) zl (uf (uf (uf f 10 pp) 11 li) 12 ty) fl tx) rfl ?_
        refine Rx.ret rfl ?_
        exact ⟨_, _, _, _, p0, p1, t, rfl, rfl, hM, Or.inr ⟨rfl, rfl, rfl, rfl, by omega⟩⟩
      · refine Rx.walk 3 (pc' := 58) (L' := [some (.ref 0), some (.int (iz k)), some (.int (iz 1))]) (st' := [.int (iz 1), .ref 11]) (h' := cmH (u1 (u1 (u1 (u1 (u1 z 0 0) 21 K) 22 pi_) 23 len) 24 tr) zl (uf (uf (uf f 10 pp) 11 li) 12 ty) fl tx) rfl ?_
        refine Rx.ial (g := li) rfl rfl (by omega) (by omega) (by omega) ?_
        refine Rx.walk 2 (pc' := 63) (L' := [some (.ref 0), some (.int (iz k)), some (.int (iz 1))]) (st' := [.int (iz len), .int (iz (li 1))]) (h' := cmH (u1 (u1 (u1 (u1 (u1 z 0 0) 21 K) 22 pi_) 23 len) 24 tr) zl (uf (uf (uf f 10 pp) 11 li) 12 ty) fl tx) rfl ?_
        refine Rx.ne2 rfl rfl ⟨by omega, by omega⟩ ⟨by omega, by omega⟩ (fun b14 => ?_) (fun b14 => ?_)
        · refine Rx.walk 3 (pc' := 71) (L' := [some (.ref 0), some (.int (iz k)), some (.int (iz 1))]) (st' := [.int (iz k), .int (iz 1), .ref 0]) (h' := cmH (u1 (u1 (u1 (u1 (u1 z 0 0) 21 K) 22 pi_) 23 len) 24 tr) zl (uf (uf (uf f 10 pp) 11 li) 12 ty) fl tx) rfl ?_
          refine Rx.callx (m' := m_X12_push) (as := [.ref 0, .int (iz 1), .int (iz k)]) (rest := []) rfl (m_push1 _ (u1 (u1 (u1 (u1 (u1 z 0 0) 21 K) 22 pi_) 23 len) 24 tr) zl (uf (uf (uf f 10 pp) 11 li) 12 ty) fl tx  pp li ty k (by first | assumption | omega) (by first | assumption | omega)) (fun v15 h16 q17 => ?_)
          obtain ⟨rfl, rfl⟩ := q17
          refine Rx.walk 0 (pc' := 74) (L' := [some (.ref 0), some (.int (iz k)), some (.int (iz 1))]) (st' := []) (h' := cmH (u1 (u1 (u1 (u1 (u1 z 0 0) 21 K) 22 pi_) 23 len) 24 tr) zl (uf (uf (uf f 10 (iu pp (5 + (li 1)) k)) 11 (iu li 1 ((li 1) + 1))) 12 ty) fl tx) rfl ?_
          refine Rx.walk 1 (pc' := 75) (L' := [some (.ref 0), some (.int (iz k)), some (.int (iz 1))]) (st' := [.int (iz 1)]) (h' := cmH (u1 (u1 (u1 (u1 (u1 z 0 0) 21 K) 22 pi_) 23 len) 24 tr) zl (uf (uf (uf f 10 (iu pp (5 + (li 1)) k)) 11 (iu li 1 ((li 1) + 1))) 12 ty) fl tx) rfl ?_
          refine Rx.ret rfl ?_
          refine ⟨_, _, _, _, p0, p1 * 5 + (k + 1), t, rfl, rfl, mtI_push1 hM (by omega) (by omega) (by omega), Or.inl ⟨rfl, by omega, by omega, Or.inr (Or.inr ⟨rfl, by omega, by omega, rfl, rfl, rfl⟩)⟩⟩
        · refine Rx.walk 1 (pc' := 67) (L' := [some (.ref 0), some (.int (iz k)), some (.int (iz 1))]) (st' := [.int (iz 0)]) (h' := cmH (u1 (u1 (u1 (u1 (u1 z 0 0) 21 K) 22 pi_) 23 len) 24 tr) zl (uf (uf (uf f 10 pp) 11 li) 12 ty) fl tx) rfl ?_
          refine Rx.ret rfl ?_
          exact ⟨_, _, _, _, p0, p1, t, rfl, rfl, hM, Or.inr ⟨rfl, rfl, rfl, rfl, by omega⟩⟩
    · refine Rx.walk 1 (pc' := 14) (L' := [some (.ref 0), some (.int (iz k)), some (.int (iz 1))]) (st' := [.int (iz 0)]) (h' := cmH (u1 (u1 (u1 (u1 (u1 z 0 0) 21 K) 22 pi_) 23 len) 24 tr) zl (uf (uf (uf f 10 pp) 11 li) 12 ty) fl tx) rfl ?_
      refine Rx.ret rfl ?_
      exact ⟨_, _, _, _, p0, p1, t, rfl, rfl, hM, Or.inr ⟨rfl, rfl, rfl, rfl, by omega⟩⟩
  · refine Rx.walk 0 (pc' := 0) (L' := [some (.ref 0), some (.int (iz k)), some (.int (iz wh))]) (st' := []) (h' := cmH (u1 (u1 (u1 (u1 z 21 K) 22 pi_) 23 len) 24 tr) zl (uf (uf (uf f 10 pp) 11 li) 12 ty) fl tx) rfl ?_
    refine Rx.walk 5 (pc' := 7) (L' := [some (.ref 0), some (.int (iz k)), some (.int (iz wh))]) (st' := [.int (iz k), .ref 0]) (h' := cmH (u1 (u1 (u1 (u1 (u1 z 0 0) 21 K) 22 pi_) 23 len) 24 tr) zl (uf (uf (uf f 10 pp) 11 li) 12 ty) fl tx) rfl ?_
    refine Rx.callx (m' := m_X12_isKind) (as := [.ref 0, .int (iz k)]) (rest := []) rfl (m_isKind _ (u1 (u1 (u1 (u1 (u1 z 0 0) 21 K) 22 pi_) 23 len) 24 tr) zl (uf (uf (uf f 10 pp) 11 li) 12 ty) fl tx  k K (by first | assumption | omega) hk) (fun v3 h4 q5 => ?_)
    obtain ⟨r_1, rfl, rfl, f2⟩ := q5
    refine Rx.walk 0 (pc' := 10) (L' := [some (.ref 0), some (.int (iz k)), some (.int (iz wh))]) (st' := [.int (iz r_1)]) (h' := cmH (u1 (u1 (u1 (u1 (u1 z 0 0) 21 K) 22 pi_) 23 len) 24 tr) zl (uf (uf (uf f 10 pp) 11 li) 12 ty) fl tx) rfl ?_
    refine Rx.ne1 rfl rfl ⟨by omega, by omega⟩ (fun b6 => ?_) (fun b6 => ?_)
    · refine Rx.walk 2 (pc' := 17) (L' := [some (.ref 0), some (.int (iz k)), some (.int (iz wh))]) (st' := [.int (iz 2), .int (iz wh)]) (h' := cmH (u1 (u1 (u1 (u1 (u1 z 0 0) 21 K) 22 pi_) 23 len) 24 tr) zl (uf (uf (uf f 10 pp) 11 li) 12 ty) fl tx) rfl ?_
      refine Rx.ne2 rfl rfl ⟨by omega, by omega⟩ ⟨by omega, by omega⟩ (fun b7 => ?_) (fun b7 => ?_)
      · refine Rx.walk 2 (pc' := 47) (L' := [some (.ref 0), some (.int (iz k)), some (.int (iz wh))]) (st' := [.int (iz wh), .ref 0]) (h' := cmH (u1 (u1 (u1 (u1 (u1 z 0 0) 21 K) 22 pi_) 23 len) 24 tr) zl (uf (uf (uf f 10 pp) 11 li) 12 ty) fl tx) rfl ?_
        refine Rx.callx (m' := m_X12_isPipe) (as := [.ref 0, .int (iz wh)]) (rest := []) rfl (m_isPipe _ (u1 (u1 (u1 (u1 (u1 z 0 0) 21 K) 22 pi_) 23 len) 24 tr) zl (uf (uf (uf f 10 pp) 11 li) 12 ty) fl tx  wh pi_ (by first | assumption | omega) ⟨by omega, by omega⟩) (fun v10 h11 q12 => ?_)
        obtain ⟨r_8, rfl, rfl, f9⟩ := q12
        refine Rx.walk 0 (pc' := 50) (L' := [some (.ref 0), some (.int (iz k)), some (.int (iz wh))]) (st' := [.int (iz r_8)]) (h' := cmH (u1 (u1 (u1 (u1 (u1 z 0 0) 21 K) 22 pi_) 23 len) 24 tr) zl (uf (uf (uf f 10 pp) 11 li) 12 ty) fl tx) rfl ?_
        refine Rx.eq1 rfl rfl ⟨by omega, by omega⟩ (fun b13 => ?_) (fun b13 => by omega)
        refine Rx.walk 1 (pc' := 67) (L' := [some (.ref 0), some (.int (iz k)), some (.int (iz wh))]) (st' := [.int (iz 0)]) (h' := cmH (u1 (u1 (u1 (u1 (u1 z 0 0) 21 K) 22 pi_) 23 len) 24 tr) zl (uf (uf (uf f 10 pp) 11 li) 12 ty) fl tx) rfl ?_
        refine Rx.ret rfl ?_
        exact ⟨_, _, _, _, p0, p1, t, rfl, rfl, hM, Or.inr ⟨rfl, rfl, rfl, rfl, by omega⟩⟩
      · refine Rx.walk 1 (pc' := 21) (L' := [some (.ref 0), some (.int (iz k)), some (.int (iz wh))]) (st' := [.ref 0]) (h' := cmH (u1 (u1 (u1 (u1 (u1 z 0 0) 21 K) 22 pi_) 23 len) 24 tr) zl (uf (uf (uf f 10 pp) 11 li) 12 ty) fl tx) rfl ?_
        refine Rx.callx (m' := m_X12_onTray) (as := [.ref 0]) (rest := []) rfl (m_onTray _ (u1 (u1 (u1 (u1 (u1 z 0 0) 21 K) 22 pi_) 23 len) 24 tr) zl (uf (uf (uf f 10 pp) 11 li) 12 ty) fl tx  K p0 p1 t pp li ty hM) (fun v16 h17 q18 => ?_)
        obtain ⟨r_14, rfl, rfl, f15⟩ := q18
        refine Rx.walk 0 (pc' := 24) (L' := [some (.ref 0), some (.int (iz k)), some (.int (iz wh))]) (st' := [.int (iz r_14)]) (h' := cmH (u1 (u1 (u1 (u1 (u1 z 0 0) 21 K) 22 pi_) 23 len) 24 tr) zl (uf (uf (uf f 10 pp) 11 li) 12 ty) fl tx) rfl ?_
        refine Rx.walk 2 (pc' := 28) (L' := [some (.ref 0), some (.int (iz k)), some (.int (iz wh))]) (st' := [.int (iz tr), .int (iz r_14)]) (h' := cmH (u1 (u1 (u1 (u1 (u1 z 0 0) 21 K) 22 pi_) 23 len) 24 tr) zl (uf (uf (uf f 10 pp) 11 li) 12 ty) fl tx) rfl ?_
        refine Rx.lt2 rfl rfl ⟨by omega, by omega⟩ ⟨by omega, by omega⟩ (fun b19 => ?_) (fun b19 => ?_)
        · refine Rx.walk 4 (pc' := 39) (L' := [some (.ref 0), some (.int (iz k)), some (.int (iz wh))]) (st' := [.int (iz k), .ref 12, .int (iz k), .ref 12]) (h' := cmH (u1 (u1 (u1 (u1 (u1 z 0 0) 21 K) 22 pi_) 23 len) 24 tr) zl (uf (uf (uf f 10 pp) 11 li) 12 ty) fl tx) rfl ?_
          refine Rx.ial (g := ty) rfl rfl (by omega) (by omega) (by omega) ?_
          refine Rx.walk 1 (pc' := 41) (L' := [some (.ref 0), some (.int (iz k)), some (.int (iz wh))]) (st' := [.int (iz 1), .int (iz (ty k)), .int (iz k), .ref 12]) (h' := cmH (u1 (u1 (u1 (u1 (u1 z 0 0) 21 K) 22 pi_) 23 len) 24 tr) zl (uf (uf (uf f 10 pp) 11 li) 12 ty) fl tx) rfl ?_
          refine Rx.iadd rfl ?_
          refine Rx.ias (g := ty) (h' := cmH (u1 (u1 (u1 (u1 (u1 z 0 0) 21 K) 22 pi_) 23 len) 24 tr) zl (uf (uf (uf f 10 pp) 11 li) 12 (iu ty k ((ty k) + 1))) fl tx) rfl rfl (by omega) (by omega) (by omega) rfl ?_
          refine Rx.walk 1 (pc' := 44) (L' := [some (.ref 0), some (.int (iz k)), some (.int (iz wh))]) (st' := [.int (iz 1)]) (h' := cmH (u1 (u1 (u1 (u1 (u1 z 0 0) 21 K) 22 pi_) 23 len) 24 tr) zl (uf (uf (uf f 10 pp) 11 li) 12 (iu ty k ((ty k) + 1))) fl tx) rfl ?_
          refine Rx.ret rfl ?_
          have ht00 : t = 0 := by omega
          refine ⟨_, _, _, _, p0, p1, k + 1, rfl, rfl, ?_, Or.inl ⟨rfl, by omega, by omega, Or.inl ⟨by omega, ht00, by omega, rfl, rfl, rfl⟩⟩⟩
          have q := mtI_tray (k := k) (x := 1) hM (by omega) (by omega) (Or.inl ⟨ht00, rfl⟩)
          rw [if_pos rfl] at q
          have hty : ty k = 0 := by have q := hM.2.2.2.2.2.2.2 k (by omega) (by omega); rw [if_neg (by omega)] at q; exact q
          rw [hty]
          exact q
        · refine Rx.walk 1 (pc' := 32) (L' := [some (.ref 0), some (.int (iz k)), some (.int (iz wh))]) (st' := [.int (iz 0)]) (h' := cmH (u1 (u1 (u1 (u1 (u1 z 0 0) 21 K) 22 pi_) 23 len) 24 tr) zl (uf (uf (uf f 10 pp) 11 li) 12 ty) fl tx) rfl ?_
          refine Rx.ret rfl ?_
          exact ⟨_, _, _, _, p0, p1, t, rfl, rfl, hM, Or.inr ⟨rfl, rfl, rfl, rfl, by omega⟩⟩
    · refine Rx.walk 1 (pc' := 14) (L' := [some (.ref 0), some (.int (iz k)), some (.int (iz wh))]) (st' := [.int (iz 0)]) (h' := cmH (u1 (u1 (u1 (u1 (u1 z 0 0) 21 K) 22 pi_) 23 len) 24 tr) zl (uf (uf (uf f 10 pp) 11 li) 12 ty) fl tx) rfl ?_
      refine Rx.ret rfl ?_
      exact ⟨_, _, _, _, p0, p1, t, rfl, rfl, hM, Or.inr ⟨rfl, rfl, rfl, rfl, by omega⟩⟩

/-! the tape in the class's world; the model's looks as contracts (printed by wip/whole/gentape.py) -/
set_option maxRecDepth 100000 in
set_option maxHeartbeats 4000000 in
theorem x_sgn_l (d : Nat) (z : Nat → Nat → Int) (f : Nat → Int → Int) (C : Nat → CuR) (T : Nat → TsR) (rc : Nat → Nat) (tl : AmH)  (n : Int) (b : Int → Int) (a0 : Int) (hT : tOK n b) (P : Option Value → AmH → Prop) (hx0 : ∀ (r : Int) (a' : Int), (a' = sks n b a0) → (r = sg n b a') → (a0 ≤ a' ∧ a' ≤ n) → (-1 ≤ r ∧ r ≤ 255) → P (some (.int (iz r))) (cxW (u2 (u2 z 1 1 n) 1 2 a') (uf f 2 b) C T rc tl)) : ∀ (kF : Nat) (a : Int), (0 ≤ a ∧ a ≤ n) → (a0 ≤ a) → (sks n b a0 = sks n b a) → (n - a) < (kF : Int) → Rx (d) m_X8_sign 0 [some (.ref 1)] [] (cxW (u2 (u2 z 1 1 n) 1 2 a) (uf f 2 b) C T rc tl) P := by
  obtain ⟨hT1, hT2, hT3⟩ := id hT
  intro kF
  induction kF with
  | zero =>
    intro a ha h0 hs hk
    exfalso; omega
  | succ kF ih =>
    intro a ha h0 hs hk
    refine Rx.walk 4 (pc' := 8) (L' := [some (.ref 1)]) (st' := [.int (iz n), .int (iz a)]) (h' := cxW (u2 (u2 z 1 1 n) 1 2 a) (uf f 2 b) C T rc tl) rfl ?_
    refine Rx.ge2 rfl rfl ⟨by omega, by omega⟩ ⟨by omega, by omega⟩ (fun b1 => ?_) (fun b1 => ?_)
    · refine Rx.walk 4 (pc' := 46) (L' := [some (.ref 1)]) (st' := [.int (iz n), .int (iz a)]) (h' := cxW (u2 (u2 z 1 1 n) 1 2 a) (uf f 2 b) C T rc tl) rfl ?_
      refine Rx.ge2 rfl rfl ⟨by omega, by omega⟩ ⟨by omega, by omega⟩ (fun b2 => ?_) (fun b2 => ?_)
      · refine Rx.walk 1 (pc' := 62) (L' := [some (.ref 1)]) (st' := [.int (iz (-1))]) (h' := cxW (u2 (u2 z 1 1 n) 1 2 a) (uf f 2 b) C T rc tl) rfl ?_
        refine Rx.ret rfl ?_
        exact hx0 _ _ (by rw [hs]; exact (sks_at (by omega)).symm) (by rw [sg_ge (by omega)]) (by first | assumption | omega) ⟨by omega, by omega⟩
      · refine Rx.walk 4 (pc' := 57) (L' := [some (.ref 1)]) (st' := [.int (iz a), .ref 2]) (h' := cxW (u2 (u2 z 1 1 n) 1 2 a) (uf f 2 b) C T rc tl) rfl ?_
        refine Rx.ial (g := b) rfl rfl (by omega) (by omega) (by omega) ?_
        have hb2 := hT3 a ha.1 (by omega)
        refine Rx.walk 1 (pc' := 62) (L' := [some (.ref 1)]) (st' := [.int (iz (b a))]) (h' := cxW (u2 (u2 z 1 1 n) 1 2 a) (uf f 2 b) C T rc tl) rfl ?_
        refine Rx.ret rfl ?_
        exact hx0 _ _ (by rw [hs]; exact (sks_at (by omega)).symm) (by rw [sg_lt (by omega)]) (by first | assumption | omega) ⟨by omega, by omega⟩
    · refine Rx.walk 4 (pc' := 19) (L' := [some (.ref 1)]) (st' := [.int (iz a), .ref 2]) (h' := cxW (u2 (u2 z 1 1 n) 1 2 a) (uf f 2 b) C T rc tl) rfl ?_
      refine Rx.ial (g := b) rfl rfl (by omega) (by omega) (by omega) ?_
      have hb1 := hT3 a ha.1 (by omega)
      refine Rx.walk 1 (pc' := 22) (L' := [some (.ref 1)]) (st' := [.int (iz 32), .int (iz (b a))]) (h' := cxW (u2 (u2 z 1 1 n) 1 2 a) (uf f 2 b) C T rc tl) rfl ?_
      refine Rx.ne2 rfl rfl ⟨by omega, by omega⟩ ⟨by omega, by omega⟩ (fun b3 => ?_) (fun b3 => ?_)
      · refine Rx.walk 4 (pc' := 46) (L' := [some (.ref 1)]) (st' := [.int (iz n), .int (iz a)]) (h' := cxW (u2 (u2 z 1 1 n) 1 2 a) (uf f 2 b) C T rc tl) rfl ?_
        refine Rx.ge2 rfl rfl ⟨by omega, by omega⟩ ⟨by omega, by omega⟩ (fun b4 => ?_) (fun b4 => ?_)
        · refine Rx.walk 1 (pc' := 62) (L' := [some (.ref 1)]) (st' := [.int (iz (-1))]) (h' := cxW (u2 (u2 z 1 1 n) 1 2 a) (uf f 2 b) C T rc tl) rfl ?_
          refine Rx.ret rfl ?_
          exact hx0 _ _ (by rw [hs]; exact (sks_at (fun q => absurd q.2 (by omega))).symm) (by rw [sg_ge (by omega)]) (by first | assumption | omega) ⟨by omega, by omega⟩
        · refine Rx.walk 4 (pc' := 57) (L' := [some (.ref 1)]) (st' := [.int (iz a), .ref 2]) (h' := cxW (u2 (u2 z 1 1 n) 1 2 a) (uf f 2 b) C T rc tl) rfl ?_
          refine Rx.ial (g := b) rfl rfl (by omega) (by omega) (by omega) ?_
          have hb2 := hT3 a ha.1 (by omega)
          refine Rx.walk 1 (pc' := 62) (L' := [some (.ref 1)]) (st' := [.int (iz (b a))]) (h' := cxW (u2 (u2 z 1 1 n) 1 2 a) (uf f 2 b) C T rc tl) rfl ?_
          refine Rx.ret rfl ?_
          exact hx0 _ _ (by rw [hs]; exact (sks_at (fun q => absurd q.2 (by omega))).symm) (by rw [sg_lt (by omega)]) (by first | assumption | omega) ⟨by omega, by omega⟩
      · refine Rx.walk 4 (pc' := 31) (L' := [some (.ref 1)]) (st' := [.int (iz 1), .int (iz a), .ref 1]) (h' := cxW (u2 (u2 z 1 1 n) 1 2 a) (uf f 2 b) C T rc tl) rfl ?_
        refine Rx.iadd rfl ?_
        refine Rx.walk 2 (pc' := 0) (L' := [some (.ref 1)]) (st' := []) (h' := cxW (u2 (u2 z 1 1 n) 1 2 (a + 1)) (uf f 2 b) C T rc tl) rfl ?_
        exact ih (a + 1) ⟨by omega, by omega⟩ (by first | assumption | omega) (hs.trans (sks_sp (by omega) (by omega))) (by first | assumption | omega) 
set_option maxRecDepth 100000 in
set_option maxHeartbeats 4000000 in
theorem x_sgn (d : Nat) (z : Nat → Nat → Int) (f : Nat → Int → Int) (C : Nat → CuR) (T : Nat → TsR) (rc : Nat → Nat) (tl : AmH)  (n : Int) (a : Int) (b : Int → Int) (hT : tOK n b) (ha : 0 ≤ a ∧ a ≤ n) : Rx (d) m_X8_sign 0 (am_ent [.ref 1] 1) [] (cxW (u2 (u2 z 1 1 n) 1 2 a) (uf f 2 b) C T rc tl) (fun rv h => ∃ r : Int, ∃ a' : Int, rv = some (.int (iz r)) ∧ h = cxW (u2 (u2 z 1 1 n) 1 2 a') (uf f 2 b) C T rc tl ∧ a' = sks n b a ∧ r = sg n b a' ∧ (a ≤ a' ∧ a' ≤ n) ∧ (-1 ≤ r ∧ r ≤ 255)) := by
  have q := x_sgn_l d z f C T rc tl n b a hT (fun rv h => ∃ r : Int, ∃ a' : Int, rv = some (.int (iz r)) ∧ h = cxW (u2 (u2 z 1 1 n) 1 2 a') (uf f 2 b) C T rc tl ∧ a' = sks n b a ∧ r = sg n b a' ∧ (a ≤ a' ∧ a' ≤ n) ∧ (-1 ≤ r ∧ r ≤ 255)) (fun r a' f1 f2 f3 f4 => ⟨_, _, rfl, rfl, f1, f2, f3, f4⟩) (n - a + 1 : Int).toNat a ha (Int.le_refl _) rfl (by omega)
  exact q
set_option maxRecDepth 100000 in
set_option maxHeartbeats 4000000 in
theorem x_acc (d : Nat) (z : Nat → Nat → Int) (f : Nat → Int → Int) (C : Nat → CuR) (T : Nat → TsR) (rc : Nat → Nat) (tl : AmH)  (k : Int) (n : Int) (a : Int) (b : Int → Int) (hT : tOK n b) (ha : 0 ≤ a ∧ a ≤ n) (hk : 0 ≤ k ∧ k < 256) : Rx (d + 1) m_X8_accepts 0 (am_ent [.ref 1, .int (iz k)] 2) [] (cxW (u2 (u2 z 1 1 n) 1 2 a) (uf f 2 b) C T rc tl) (fun rv h => ∃ r : Int, ∃ a' : Int, rv = some (.int (iz r)) ∧ h = cxW (u2 (u2 z 1 1 n) 1 2 a') (uf f 2 b) C T rc tl ∧ ((r = 1 ∧ sg n b (sks n b a) = k ∧ a' = sks n b a + 1) ∨ (r = 0 ∧ sg n b (sks n b a) ≠ k ∧ a' = sks n b a)) ∧ (a ≤ a' ∧ a' ≤ n)) := by
  obtain ⟨hT1, hT2, hT3⟩ := id hT
  refine Rx.walk 0 (pc' := 0) (L' := [some (.ref 1), some (.int (iz k))]) (st' := []) (h' := cxW (u2 (u2 z 1 1 n) 1 2 a) (uf f 2 b) C T rc tl) rfl ?_
  refine Rx.walk 1 (pc' := 1) (L' := [some (.ref 1), some (.int (iz k))]) (st' := [.ref 1]) (h' := cxW (u2 (u2 z 1 1 n) 1 2 a) (uf f 2 b) C T rc tl) rfl ?_
  refine Rx.callx (m' := m_X8_sign) (as := [.ref 1]) (rest := []) rfl (x_sgn _ (u2 (u2 z 1 1 n) 1 2 a) (uf f 2 b) C T rc tl  n a b hT ha) (fun v7 h8 q9 => ?_)
  obtain ⟨r_1, a_2, rfl, rfl, f3, f4, f5, f6⟩ := q9
  refine Rx.walk 0 (pc' := 4) (L' := [some (.ref 1), some (.int (iz k))]) (st' := [.int (iz r_1)]) (h' := cxW (u2 (u2 z 1 1 n) 1 2 a_2) (uf f 2 b) C T rc tl) rfl ?_
  refine Rx.walk 1 (pc' := 5) (L' := [some (.ref 1), some (.int (iz k))]) (st' := [.int (iz k), .int (iz r_1)]) (h' := cxW (u2 (u2 z 1 1 n) 1 2 a_2) (uf f 2 b) C T rc tl) rfl ?_
  refine Rx.eq2 rfl rfl ⟨by omega, by omega⟩ ⟨by omega, by omega⟩ (fun b10 => ?_) (fun b10 => ?_)
  · refine Rx.walk 4 (pc' := 16) (L' := [some (.ref 1), some (.int (iz k))]) (st' := [.int (iz 1), .int (iz a_2), .ref 1]) (h' := cxW (u2 (u2 z 1 1 n) 1 2 a_2) (uf f 2 b) C T rc tl) rfl ?_
    refine Rx.iadd rfl ?_
    refine Rx.walk 2 (pc' := 21) (L' := [some (.ref 1), some (.int (iz k))]) (st' := [.int (iz 1)]) (h' := cxW (u2 (u2 z 1 1 n) 1 2 (a_2 + 1)) (uf f 2 b) C T rc tl) rfl ?_
    refine Rx.ret rfl ?_
    have hlt : a_2 < n := by rcases Int.lt_or_le a_2 n with q | q; exact q; (rw [sg_ge q] at f4; omega)
    exact ⟨_, _, rfl, rfl, Or.inl ⟨rfl, by rw [← f3, ← f4]; omega, by rw [← f3]⟩, by omega⟩
  · refine Rx.walk 1 (pc' := 9) (L' := [some (.ref 1), some (.int (iz k))]) (st' := [.int (iz 0)]) (h' := cxW (u2 (u2 z 1 1 n) 1 2 a_2) (uf f 2 b) C T rc tl) rfl ?_
    refine Rx.ret rfl ?_
    exact ⟨_, _, rfl, rfl, Or.inr ⟨rfl, by rw [← f3, ← f4]; omega, f3⟩, by omega⟩
set_option maxRecDepth 100000 in
set_option maxHeartbeats 4000000 in
theorem n_isDig (d : Nat) (h0 : AmH)  (e : Int) (he : -1 ≤ e ∧ e ≤ 255) : Rx (d) m_X8_isDigit 0 (am_ent [.int (iz e)] 1) [] (h0) (fun rv h => ∃ r : Int, rv = some (.int (iz r)) ∧ h0 = h ∧ ((r = 1 ∧ 48 ≤ e ∧ e ≤ 57) ∨ (r = 0 ∧ ¬ (48 ≤ e ∧ e ≤ 57)))) := by
  refine Rx.walk 0 (pc' := 0) (L' := [some (.int (iz e))]) (st' := []) (h' := h0) rfl ?_
  refine Rx.walk 2 (pc' := 3) (L' := [some (.int (iz e))]) (st' := [.int (iz 48), .int (iz e)]) (h' := h0) rfl ?_
  refine Rx.lt2 rfl rfl ⟨by omega, by omega⟩ ⟨by omega, by omega⟩ (fun b1 => ?_) (fun b1 => ?_)
  · refine Rx.walk 1 (pc' := 17) (L' := [some (.int (iz e))]) (st' := [.int (iz 0)]) (h' := h0) rfl ?_
    refine Rx.ret rfl ?_
    exact ⟨_, rfl, rfl, (by omega)⟩
  · refine Rx.walk 2 (pc' := 9) (L' := [some (.int (iz e))]) (st' := [.int (iz 57), .int (iz e)]) (h' := h0) rfl ?_
    refine Rx.gt2 rfl rfl ⟨by omega, by omega⟩ ⟨by omega, by omega⟩ (fun b2 => ?_) (fun b2 => ?_)
    · refine Rx.walk 1 (pc' := 17) (L' := [some (.int (iz e))]) (st' := [.int (iz 0)]) (h' := h0) rfl ?_
      refine Rx.ret rfl ?_
      exact ⟨_, rfl, rfl, (by omega)⟩
    · refine Rx.walk 2 (pc' := 17) (L' := [some (.int (iz e))]) (st' := [.int (iz 1)]) (h' := h0) rfl ?_
      refine Rx.ret rfl ?_
      exact ⟨_, rfl, rfl, (by omega)⟩
theorem isD_sg {n : Int} {b : Int → Int} {a : Int} : isD n b a = true ↔ 48 ≤ sg n b a ∧ sg n b a ≤ 57 := by
  rw [isD_t]
  unfold sg
  split <;> omega
set_option maxRecDepth 100000 in
set_option maxHeartbeats 4000000 in
theorem x_dgt2_l (d : Nat) (z : Nat → Nat → Int) (f : Nat → Int → Int) (C : Nat → CuR) (T : Nat → TsR) (rc : Nat → Nat) (tl : AmH)  (n : Int) (b : Int → Int) (s : Int) (hT : tOK n b) (hs : 0 ≤ s ∧ s ≤ n) (P : Option Value → AmH → Prop) (hx0 : ∀ (r : Int) (a' : Int), (r = (dg n b 2 s 0).2) → (a' = (dg n b 2 s 0).1) → P (some (.int (iz r))) (cxW (u2 (u2 z 1 1 n) 1 2 a') (uf f 2 b) C T rc tl)) : ∀ (kF : Nat) (v : Int) (i : Int) (a : Int), (0 ≤ i ∧ i ≤ 2) → (s ≤ a ∧ a ≤ n) → (0 ≤ v) → (dg n b 2 s 0 = dg n b (2 - i).toNat a v) → (2 - i) < (kF : Int) → Rx (d + 1) m_X8_digits 16 [some (.ref 1), some (.int (iz 2)), some (.int (iz v)), some (.int (iz i))] [] (cxW (u2 (u2 z 1 1 n) 1 2 a) (uf f 2 b) C T rc tl) P := by
  obtain ⟨hT1, hT2, hT3⟩ := id hT
  intro kF
  induction kF with
  | zero =>
    intro v i a i0 ha hv hd hk
    exfalso; omega
  | succ kF ih =>
    intro v i a i0 ha hv hd hk
    refine Rx.walk 2 (pc' := 18) (L' := [some (.ref 1), some (.int (iz 2)), some (.int (iz v)), some (.int (iz i))]) (st' := [.int (iz 2), .int (iz i)]) (h' := cxW (u2 (u2 z 1 1 n) 1 2 a) (uf f 2 b) C T rc tl) rfl ?_
    refine Rx.ge2 rfl rfl ⟨by omega, by omega⟩ ⟨by omega, by omega⟩ (fun b1 => ?_) (fun b1 => ?_)
    · refine Rx.walk 1 (pc' := 82) (L' := [some (.ref 1), some (.int (iz 2)), some (.int (iz v)), some (.int (iz i))]) (st' := [.int (iz v)]) (h' := cxW (u2 (u2 z 1 1 n) 1 2 a) (uf f 2 b) C T rc tl) rfl ?_
      refine Rx.ret rfl ?_
      exact hx0 _ _ (by rw [hd, show (2 - i).toNat = 0 by omega]; rfl) (by rw [hd, show (2 - i).toNat = 0 by omega]; rfl)
    · refine Rx.walk 4 (pc' := 29) (L' := [some (.ref 1), some (.int (iz 2)), some (.int (iz v)), some (.int (iz i))]) (st' := [.int (iz n), .int (iz a)]) (h' := cxW (u2 (u2 z 1 1 n) 1 2 a) (uf f 2 b) C T rc tl) rfl ?_
      refine Rx.ge2 rfl rfl ⟨by omega, by omega⟩ ⟨by omega, by omega⟩ (fun b2 => ?_) (fun b2 => ?_)
      · refine Rx.walk 1 (pc' := 82) (L' := [some (.ref 1), some (.int (iz 2)), some (.int (iz v)), some (.int (iz i))]) (st' := [.int (iz v)]) (h' := cxW (u2 (u2 z 1 1 n) 1 2 a) (uf f 2 b) C T rc tl) rfl ?_
        refine Rx.ret rfl ?_
        exact hx0 _ _ (by rw [hd, dg_f (isD_f.mpr (by omega))]) (by rw [hd, dg_f (isD_f.mpr (by omega))])
      · refine Rx.walk 4 (pc' := 40) (L' := [some (.ref 1), some (.int (iz 2)), some (.int (iz v)), some (.int (iz i))]) (st' := [.int (iz a), .ref 2]) (h' := cxW (u2 (u2 z 1 1 n) 1 2 a) (uf f 2 b) C T rc tl) rfl ?_
        refine Rx.ial (g := b) rfl rfl (by omega) (by omega) (by omega) ?_
        have hb1 := hT3 a (by omega) (by omega)
        refine Rx.callx (m' := m_X8_isDigit) (as := [.int (iz (b a))]) (rest := []) rfl (n_isDig _ (cxW (u2 (u2 z 1 1 n) 1 2 a) (uf f 2 b) C T rc tl)  (b a) (by first | assumption | omega)) (fun v5 h6 q7 => ?_)
        obtain ⟨r_3, rfl, rfl, f4⟩ := q7
        refine Rx.walk 0 (pc' := 44) (L' := [some (.ref 1), some (.int (iz 2)), some (.int (iz v)), some (.int (iz i))]) (st' := [.int (iz r_3)]) (h' := cxW (u2 (u2 z 1 1 n) 1 2 a) (uf f 2 b) C T rc tl) rfl ?_
        refine Rx.eq1 rfl rfl ⟨by omega, by omega⟩ (fun b8 => ?_) (fun b8 => ?_)
        · refine Rx.walk 1 (pc' := 82) (L' := [some (.ref 1), some (.int (iz 2)), some (.int (iz v)), some (.int (iz i))]) (st' := [.int (iz v)]) (h' := cxW (u2 (u2 z 1 1 n) 1 2 a) (uf f 2 b) C T rc tl) rfl ?_
          refine Rx.ret rfl ?_
          exact hx0 _ _ (by rw [hd, dg_f (isD_f.mpr (by omega))]) (by rw [hd, dg_f (isD_f.mpr (by omega))])
        · refine Rx.walk 2 (pc' := 50) (L' := [some (.ref 1), some (.int (iz 2)), some (.int (iz v)), some (.int (iz i))]) (st' := [.int (iz 10), .int (iz v)]) (h' := cxW (u2 (u2 z 1 1 n) 1 2 a) (uf f 2 b) C T rc tl) rfl ?_
          refine Rx.imul rfl ?_
          refine Rx.walk 4 (pc' := 59) (L' := [some (.ref 1), some (.int (iz 2)), some (.int (iz v)), some (.int (iz i))]) (st' := [.int (iz a), .ref 2, .int (iz (v * 10))]) (h' := cxW (u2 (u2 z 1 1 n) 1 2 a) (uf f 2 b) C T rc tl) rfl ?_
          refine Rx.ial (g := b) rfl rfl (by omega) (by omega) (by omega) ?_
          have hb2 := hT3 a (by omega) (by omega)
          refine Rx.iadd rfl ?_
          refine Rx.walk 1 (pc' := 63) (L' := [some (.ref 1), some (.int (iz 2)), some (.int (iz v)), some (.int (iz i))]) (st' := [.int (iz 48), .int (iz ((v * 10) + (b a)))]) (h' := cxW (u2 (u2 z 1 1 n) 1 2 a) (uf f 2 b) C T rc tl) rfl ?_
          refine Rx.isub rfl ?_
          refine Rx.walk 5 (pc' := 71) (L' := [some (.ref 1), some (.int (iz 2)), some (.int (iz (((v * 10) + (b a)) - 48))), some (.int (iz i))]) (st' := [.int (iz 1), .int (iz a), .ref 1]) (h' := cxW (u2 (u2 z 1 1 n) 1 2 a) (uf f 2 b) C T rc tl) rfl ?_
          refine Rx.iadd rfl ?_
          refine Rx.walk 1 (pc' := 75) (L' := [some (.ref 1), some (.int (iz 2)), some (.int (iz (((v * 10) + (b a)) - 48))), some (.int (iz i))]) (st' := []) (h' := cxW (u2 (u2 z 1 1 n) 1 2 (a + 1)) (uf f 2 b) C T rc tl) rfl ?_
          refine Rx.iinc (b := 1) rfl rfl rfl ?_
          refine Rx.walk 0 (pc' := 78) (L' := [some (.ref 1), some (.int (iz 2)), some (.int (iz (((v * 10) + (b a)) - 48))), some (.int (iz (i + 1)))]) (st' := []) (h' := cxW (u2 (u2 z 1 1 n) 1 2 (a + 1)) (uf f 2 b) C T rc tl) rfl ?_
          refine Rx.walk 1 (pc' := 16) (L' := [some (.ref 1), some (.int (iz 2)), some (.int (iz (((v * 10) + (b a)) - 48))), some (.int (iz (i + 1)))]) (st' := []) (h' := cxW (u2 (u2 z 1 1 n) 1 2 (a + 1)) (uf f 2 b) C T rc tl) rfl ?_
          exact ih (((v * 10) + (b a)) - 48) (i + 1) (a + 1) ⟨by omega, by omega⟩ ⟨by omega, by omega⟩ (by first | assumption | omega) (by rw [hd, show (2 - i).toNat = (2 - (i + 1)).toNat + 1 by omega, dg_t (isD_t.mpr ⟨by omega, by omega, by omega⟩), show 10 * v + b a - 48 = v * 10 + b a - 48 by omega]) (by first | assumption | omega) 
set_option maxRecDepth 100000 in
set_option maxHeartbeats 4000000 in
theorem x_dgt2 (d : Nat) (z : Nat → Nat → Int) (f : Nat → Int → Int) (C : Nat → CuR) (T : Nat → TsR) (rc : Nat → Nat) (tl : AmH)  (n : Int) (a : Int) (b : Int → Int) (hT : tOK n b) (ha : 0 ≤ a ∧ a ≤ n) : Rx (d + 1) m_X8_digits 0 (am_ent [.ref 1, .int (iz 2)] 4) [] (cxW (u2 (u2 z 1 1 n) 1 2 a) (uf f 2 b) C T rc tl) (fun rv h => ∃ r : Int, ∃ a' : Int, rv = some (.int (iz r)) ∧ h = cxW (u2 (u2 z 1 1 n) 1 2 a') (uf f 2 b) C T rc tl ∧ ((isD n b (sks n b a) = true ∧ r = (dg n b 2 (sks n b a) 0).2 ∧ a' = (dg n b 2 (sks n b a) 0).1) ∨ (isD n b (sks n b a) = false ∧ r = -1 ∧ a' = sks n b a)) ∧ (a ≤ a' ∧ a' ≤ n) ∧ (-1 ≤ r ∧ r ≤ 9999)) := by
  obtain ⟨hT1, hT2, hT3⟩ := id hT
  refine Rx.walk 0 (pc' := 0) (L' := [some (.ref 1), some (.int (iz 2)), none, none]) (st' := []) (h' := cxW (u2 (u2 z 1 1 n) 1 2 a) (uf f 2 b) C T rc tl) rfl ?_
  refine Rx.walk 1 (pc' := 1) (L' := [some (.ref 1), some (.int (iz 2)), none, none]) (st' := [.ref 1]) (h' := cxW (u2 (u2 z 1 1 n) 1 2 a) (uf f 2 b) C T rc tl) rfl ?_
  refine Rx.callx (m' := m_X8_sign) (as := [.ref 1]) (rest := []) rfl (x_sgn _ (u2 (u2 z 1 1 n) 1 2 a) (uf f 2 b) C T rc tl  n a b hT ha) (fun v7 h8 q9 => ?_)
  obtain ⟨r_1, a_2, rfl, rfl, f3, f4, f5, f6⟩ := q9
  refine Rx.walk 0 (pc' := 4) (L' := [some (.ref 1), some (.int (iz 2)), none, none]) (st' := [.int (iz r_1)]) (h' := cxW (u2 (u2 z 1 1 n) 1 2 a_2) (uf f 2 b) C T rc tl) rfl ?_
  refine Rx.callx (m' := m_X8_isDigit) (as := [.int (iz r_1)]) (rest := []) rfl (n_isDig _ (cxW (u2 (u2 z 1 1 n) 1 2 a_2) (uf f 2 b) C T rc tl)  r_1 (by first | assumption | omega)) (fun v12 h13 q14 => ?_)
  obtain ⟨r_10, rfl, rfl, f11⟩ := q14
  refine Rx.walk 0 (pc' := 7) (L' := [some (.ref 1), some (.int (iz 2)), none, none]) (st' := [.int (iz r_10)]) (h' := cxW (u2 (u2 z 1 1 n) 1 2 a_2) (uf f 2 b) C T rc tl) rfl ?_
  refine Rx.ne1 rfl rfl ⟨by omega, by omega⟩ (fun b15 => ?_) (fun b15 => ?_)
  · refine Rx.walk 4 (pc' := 16) (L' := [some (.ref 1), some (.int (iz 2)), some (.int (iz 0)), some (.int (iz 0))]) (st' := []) (h' := cxW (u2 (u2 z 1 1 n) 1 2 a_2) (uf f 2 b) C T rc tl) rfl ?_
    refine x_dgt2_l _ (u2 (u2 z 1 1 n) 1 2 a_2) (uf f 2 b) C T rc tl  n b a_2 hT ⟨by omega, by omega⟩ _ ?_ ((2 - 0) + 1 : Int).toNat 0 0 a_2 ⟨by omega, by omega⟩ ⟨by omega, by omega⟩ (by first | assumption | omega) rfl (by omega) 
    intro r_16 a_17 f18 f19
    show (fun (rv : Option Value) (h : AmH) => ∃ r : Int, ∃ a' : Int, rv = some (.int (iz r)) ∧ h = cxW (u2 (u2 z 1 1 n) 1 2 a') (uf f 2 b) C T rc tl ∧ ((isD n b (sks n b a) = true ∧ r = (dg n b 2 (sks n b a) 0).2 ∧ a' = (dg n b 2 (sks n b a) 0).1) ∨ (isD n b (sks n b a) = false ∧ r = -1 ∧ a' = sks n b a)) ∧ (a ≤ a' ∧ a' ≤ n) ∧ (-1 ≤ r ∧ r ≤ 9999)) (some (Value.int (iz r_16))) (cxW (u2 (u2 z 1 1 n) 1 2 a_17) (uf f 2 b) C T rc tl)
    have hp := dg_props (n := n) (b := b) 2 a_2 0 (by omega) (by omega)
    have hq := dg_2 (n := n) (b := b) (p := a_2) (v := 0) (by omega)
    rw [← f19, ← f18] at hp
    rw [← f18] at hq
    refine ⟨_, _, rfl, rfl, Or.inl ⟨by rw [← f3]; exact isD_sg.mpr ⟨by omega, by omega⟩, by rw [← f3]; exact f18, by rw [← f3]; exact f19⟩, by omega, by omega⟩
  · refine Rx.walk 1 (pc' := 11) (L' := [some (.ref 1), some (.int (iz 2)), none, none]) (st' := [.int (iz (-1))]) (h' := cxW (u2 (u2 z 1 1 n) 1 2 a_2) (uf f 2 b) C T rc tl) rfl ?_
    refine Rx.ret rfl ?_
    exact ⟨_, _, rfl, rfl, Or.inr ⟨by rw [← f3]; exact Bool.eq_false_iff.mpr (fun q => by have := isD_sg.mp q; omega), rfl, f3⟩, f5, by omega⟩
set_option maxRecDepth 100000 in
set_option maxHeartbeats 4000000 in
theorem x_dgt4_l (d : Nat) (z : Nat → Nat → Int) (f : Nat → Int → Int) (C : Nat → CuR) (T : Nat → TsR) (rc : Nat → Nat) (tl : AmH)  (n : Int) (b : Int → Int) (s : Int) (hT : tOK n b) (hs : 0 ≤ s ∧ s ≤ n) (P : Option Value → AmH → Prop) (hx0 : ∀ (r : Int) (a' : Int), (r = (dg n b 4 s 0).2) → (a' = (dg n b 4 s 0).1) → P (some (.int (iz r))) (cxW (u2 (u2 z 1 1 n) 1 2 a') (uf f 2 b) C T rc tl)) : ∀ (kF : Nat) (v : Int) (i : Int) (a : Int), (0 ≤ i ∧ i ≤ 4) → (s ≤ a ∧ a ≤ n) → (0 ≤ v) → (dg n b 4 s 0 = dg n b (4 - i).toNat a v) → (4 - i) < (kF : Int) → Rx (d + 1) m_X8_digits 16 [some (.ref 1), some (.int (iz 4)), some (.int (iz v)), some (.int (iz i))] [] (cxW (u2 (u2 z 1 1 n) 1 2 a) (uf f 2 b) C T rc tl) P := by
  obtain ⟨hT1, hT2, hT3⟩ := id hT
  intro kF
  induction kF with
  | zero =>
    intro v i a i0 ha hv hd hk
    exfalso; omega
  | succ kF ih =>
    intro v i a i0 ha hv hd hk
    refine Rx.walk 2 (pc' := 18) (L' := [some (.ref 1), some (.int (iz 4)), some (.int (iz v)), some (.int (iz i))]) (st' := [.int (iz 4), .int (iz i)]) (h' := cxW (u2 (u2 z 1 1 n) 1 2 a) (uf f 2 b) C T rc tl) rfl ?_
    refine Rx.ge2 rfl rfl ⟨by omega, by omega⟩ ⟨by omega, by omega⟩ (fun b1 => ?_) (fun b1 => ?_)
    · refine Rx.walk 1 (pc' := 82) (L' := [some (.ref 1), some (.int (iz 4)), some (.int (iz v)), some (.int (iz i))]) (st' := [.int (iz v)]) (h' := cxW (u2 (u2 z 1 1 n) 1 2 a) (uf f 2 b) C T rc tl) rfl ?_
      refine Rx.ret rfl ?_
      exact hx0 _ _ (by rw [hd, show (4 - i).toNat = 0 by omega]; rfl) (by rw [hd, show (4 - i).toNat = 0 by omega]; rfl)
    · refine Rx.walk 4 (pc' := 29) (L' := [some (.ref 1), some (.int (iz 4)), some (.int (iz v)), some (.int (iz i))]) (st' := [.int (iz n), .int (iz a)]) (h' := cxW (u2 (u2 z 1 1 n) 1 2 a) (uf f 2 b) C T rc tl) rfl ?_
      refine Rx.ge2 rfl rfl ⟨by omega, by omega⟩ ⟨by omega, by omega⟩ (fun b2 => ?_) (fun b2 => ?_)
      · refine Rx.walk 1 (pc' := 82) (L' := [some (.ref 1), some (.int (iz 4)), some (.int (iz v)), some (.int (iz i))]) (st' := [.int (iz v)]) (h' := cxW (u2 (u2 z 1 1 n) 1 2 a) (uf f 2 b) C T rc tl) rfl ?_
        refine Rx.ret rfl ?_
        exact hx0 _ _ (by rw [hd, dg_f (isD_f.mpr (by omega))]) (by rw [hd, dg_f (isD_f.mpr (by omega))])
      · refine Rx.walk 4 (pc' := 40) (L' := [some (.ref 1), some (.int (iz 4)), some (.int (iz v)), some (.int (iz i))]) (st' := [.int (iz a), .ref 2]) (h' := cxW (u2 (u2 z 1 1 n) 1 2 a) (uf f 2 b) C T rc tl) rfl ?_
        refine Rx.ial (g := b) rfl rfl (by omega) (by omega) (by omega) ?_
        have hb1 := hT3 a (by omega) (by omega)
        refine Rx.callx (m' := m_X8_isDigit) (as := [.int (iz (b a))]) (rest := []) rfl (n_isDig _ (cxW (u2 (u2 z 1 1 n) 1 2 a) (uf f 2 b) C T rc tl)  (b a) (by first | assumption | omega)) (fun v5 h6 q7 => ?_)
        obtain ⟨r_3, rfl, rfl, f4⟩ := q7
        refine Rx.walk 0 (pc' := 44) (L' := [some (.ref 1), some (.int (iz 4)), some (.int (iz v)), some (.int (iz i))]) (st' := [.int (iz r_3)]) (h' := cxW (u2 (u2 z 1 1 n) 1 2 a) (uf f 2 b) C T rc tl) rfl ?_
        refine Rx.eq1 rfl rfl ⟨by omega, by omega⟩ (fun b8 => ?_) (fun b8 => ?_)
        · refine Rx.walk 1 (pc' := 82) (L' := [some (.ref 1), some (.int (iz 4)), some (.int (iz v)), some (.int (iz i))]) (st' := [.int (iz v)]) (h' := cxW (u2 (u2 z 1 1 n) 1 2 a) (uf f 2 b) C T rc tl) rfl ?_
          refine Rx.ret rfl ?_
          exact hx0 _ _ (by rw [hd, dg_f (isD_f.mpr (by omega))]) (by rw [hd, dg_f (isD_f.mpr (by omega))])
        · refine Rx.walk 2 (pc' := 50) (L' := [some (.ref 1), some (.int (iz 4)), some (.int (iz v)), some (.int (iz i))]) (st' := [.int (iz 10), .int (iz v)]) (h' := cxW (u2 (u2 z 1 1 n) 1 2 a) (uf f 2 b) C T rc tl) rfl ?_
          refine Rx.imul rfl ?_
          refine Rx.walk 4 (pc' := 59) (L' := [some (.ref 1), some (.int (iz 4)), some (.int (iz v)), some (.int (iz i))]) (st' := [.int (iz a), .ref 2, .int (iz (v * 10))]) (h' := cxW (u2 (u2 z 1 1 n) 1 2 a) (uf f 2 b) C T rc tl) rfl ?_
          refine Rx.ial (g := b) rfl rfl (by omega) (by omega) (by omega) ?_
          have hb2 := hT3 a (by omega) (by omega)
          refine Rx.iadd rfl ?_
          refine Rx.walk 1 (pc' := 63) (L' := [some (.ref 1), some (.int (iz 4)), some (.int (iz v)), some (.int (iz i))]) (st' := [.int (iz 48), .int (iz ((v * 10) + (b a)))]) (h' := cxW (u2 (u2 z 1 1 n) 1 2 a) (uf f 2 b) C T rc tl) rfl ?_
          refine Rx.isub rfl ?_
          refine Rx.walk 5 (pc' := 71) (L' := [some (.ref 1), some (.int (iz 4)), some (.int (iz (((v * 10) + (b a)) - 48))), some (.int (iz i))]) (st' := [.int (iz 1), .int (iz a), .ref 1]) (h' := cxW (u2 (u2 z 1 1 n) 1 2 a) (uf f 2 b) C T rc tl) rfl ?_
          refine Rx.iadd rfl ?_
          refine Rx.walk 1 (pc' := 75) (L' := [some (.ref 1), some (.int (iz 4)), some (.int (iz (((v * 10) + (b a)) - 48))), some (.int (iz i))]) (st' := []) (h' := cxW (u2 (u2 z 1 1 n) 1 2 (a + 1)) (uf f 2 b) C T rc tl) rfl ?_
          refine Rx.iinc (b := 1) rfl rfl rfl ?_
          refine Rx.walk 0 (pc' := 78) (L' := [some (.ref 1), some (.int (iz 4)), some (.int (iz (((v * 10) + (b a)) - 48))), some (.int (iz (i + 1)))]) (st' := []) (h' := cxW (u2 (u2 z 1 1 n) 1 2 (a + 1)) (uf f 2 b) C T rc tl) rfl ?_
          refine Rx.walk 1 (pc' := 16) (L' := [some (.ref 1), some (.int (iz 4)), some (.int (iz (((v * 10) + (b a)) - 48))), some (.int (iz (i + 1)))]) (st' := []) (h' := cxW (u2 (u2 z 1 1 n) 1 2 (a + 1)) (uf f 2 b) C T rc tl) rfl ?_
          exact ih (((v * 10) + (b a)) - 48) (i + 1) (a + 1) ⟨by omega, by omega⟩ ⟨by omega, by omega⟩ (by first | assumption | omega) (by rw [hd, show (4 - i).toNat = (4 - (i + 1)).toNat + 1 by omega, dg_t (isD_t.mpr ⟨by omega, by omega, by omega⟩), show 10 * v + b a - 48 = v * 10 + b a - 48 by omega]) (by first | assumption | omega) 
set_option maxRecDepth 100000 in
set_option maxHeartbeats 4000000 in
theorem x_dgt4 (d : Nat) (z : Nat → Nat → Int) (f : Nat → Int → Int) (C : Nat → CuR) (T : Nat → TsR) (rc : Nat → Nat) (tl : AmH)  (n : Int) (a : Int) (b : Int → Int) (hT : tOK n b) (ha : 0 ≤ a ∧ a ≤ n) : Rx (d + 1) m_X8_digits 0 (am_ent [.ref 1, .int (iz 4)] 4) [] (cxW (u2 (u2 z 1 1 n) 1 2 a) (uf f 2 b) C T rc tl) (fun rv h => ∃ r : Int, ∃ a' : Int, rv = some (.int (iz r)) ∧ h = cxW (u2 (u2 z 1 1 n) 1 2 a') (uf f 2 b) C T rc tl ∧ ((isD n b (sks n b a) = true ∧ r = (dg n b 4 (sks n b a) 0).2 ∧ a' = (dg n b 4 (sks n b a) 0).1) ∨ (isD n b (sks n b a) = false ∧ r = -1 ∧ a' = sks n b a)) ∧ (a ≤ a' ∧ a' ≤ n) ∧ (-1 ≤ r ∧ r ≤ 9999)) := by
  obtain ⟨hT1, hT2, hT3⟩ := id hT
  refine Rx.walk 0 (pc' := 0) (L' := [some (.ref 1), some (.int (iz 4)), none, none]) (st' := []) (h' := cxW (u2 (u2 z 1 1 n) 1 2 a) (uf f 2 b) C T rc tl) rfl ?_
  refine Rx.walk 1 (pc' := 1) (L' := [some (.ref 1), some (.int (iz 4)), none, none]) (st' := [.ref 1]) (h' := cxW (u2 (u2 z 1 1 n) 1 2 a) (uf f 2 b) C T rc tl) rfl ?_
  refine Rx.callx (m' := m_X8_sign) (as := [.ref 1]) (rest := []) rfl (x_sgn _ (u2 (u2 z 1 1 n) 1 2 a) (uf f 2 b) C T rc tl  n a b hT ha) (fun v7 h8 q9 => ?_)
  obtain ⟨r_1, a_2, rfl, rfl, f3, f4, f5, f6⟩ := q9
  refine Rx.walk 0 (pc' := 4) (L' := [some (.ref 1), some (.int (iz 4)), none, none]) (st' := [.int (iz r_1)]) (h' := cxW (u2 (u2 z 1 1 n) 1 2 a_2) (uf f 2 b) C T rc tl) rfl ?_
  refine Rx.callx (m' := m_X8_isDigit) (as := [.int (iz r_1)]) (rest := []) rfl (n_isDig _ (cxW (u2 (u2 z 1 1 n) 1 2 a_2) (uf f 2 b) C T rc tl)  r_1 (by first | assumption | omega)) (fun v12 h13 q14 => ?_)
  obtain ⟨r_10, rfl, rfl, f11⟩ := q14
  refine Rx.walk 0 (pc' := 7) (L' := [some (.ref 1), some (.int (iz 4)), none, none]) (st' := [.int (iz r_10)]) (h' := cxW (u2 (u2 z 1 1 n) 1 2 a_2) (uf f 2 b) C T rc tl) rfl ?_
  refine Rx.ne1 rfl rfl ⟨by omega, by omega⟩ (fun b15 => ?_) (fun b15 => ?_)
  · refine Rx.walk 4 (pc' := 16) (L' := [some (.ref 1), some (.int (iz 4)), some (.int (iz 0)), some (.int (iz 0))]) (st' := []) (h' := cxW (u2 (u2 z 1 1 n) 1 2 a_2) (uf f 2 b) C T rc tl) rfl ?_
    refine x_dgt4_l _ (u2 (u2 z 1 1 n) 1 2 a_2) (uf f 2 b) C T rc tl  n b a_2 hT ⟨by omega, by omega⟩ _ ?_ ((4 - 0) + 1 : Int).toNat 0 0 a_2 ⟨by omega, by omega⟩ ⟨by omega, by omega⟩ (by first | assumption | omega) rfl (by omega) 
    intro r_16 a_17 f18 f19
    show (fun (rv : Option Value) (h : AmH) => ∃ r : Int, ∃ a' : Int, rv = some (.int (iz r)) ∧ h = cxW (u2 (u2 z 1 1 n) 1 2 a') (uf f 2 b) C T rc tl ∧ ((isD n b (sks n b a) = true ∧ r = (dg n b 4 (sks n b a) 0).2 ∧ a' = (dg n b 4 (sks n b a) 0).1) ∨ (isD n b (sks n b a) = false ∧ r = -1 ∧ a' = sks n b a)) ∧ (a ≤ a' ∧ a' ≤ n) ∧ (-1 ≤ r ∧ r ≤ 9999)) (some (Value.int (iz r_16))) (cxW (u2 (u2 z 1 1 n) 1 2 a_17) (uf f 2 b) C T rc tl)
    have hp := dg_props (n := n) (b := b) 4 a_2 0 (by omega) (by omega)
    have hq := dg_4 (n := n) (b := b) (p := a_2) (v := 0) (by omega)
    rw [← f19, ← f18] at hp
    rw [← f18] at hq
    refine ⟨_, _, rfl, rfl, Or.inl ⟨by rw [← f3]; exact isD_sg.mpr ⟨by omega, by omega⟩, by rw [← f3]; exact f18, by rw [← f3]; exact f19⟩, by omega, by omega⟩
  · refine Rx.walk 1 (pc' := 11) (L' := [some (.ref 1), some (.int (iz 4)), none, none]) (st' := [.int (iz (-1))]) (h' := cxW (u2 (u2 z 1 1 n) 1 2 a_2) (uf f 2 b) C T rc tl) rfl ?_
    refine Rx.ret rfl ?_
    exact ⟨_, _, rfl, rfl, Or.inr ⟨by rw [← f3]; exact Bool.eq_false_iff.mpr (fun q => by have := isD_sg.mp q; omega), rfl, f3⟩, f5, by omega⟩
set_option maxRecDepth 100000 in
set_option maxHeartbeats 4000000 in
theorem m_look1 (d : Nat) (z : Nat → Int) (zl : Nat → Int) (f : Nat → Int → Int) (fl : Nat → Int → Int) (tx : Nat)  (n : Int) (a : Int) (bg : Int) (fa : Int) (tb : Int → Int) (b : Int → Int) (hT : tOK n b) (hM : mOK n bg 160 tb b) (ha : 0 ≤ a ∧ a ≤ n) : Rx (d) m_X12_look 0 (am_ent [.ref 0] 1) [] (cmH (u1 (u1 (u1 (u1 z 8 bg) 9 n) 10 a) 11 fa) zl (uf f 1 tb) fl 1) (fun rv h => ∃ r : Int, ∃ a' : Int, rv = some (.int (iz r)) ∧ h = cmH (u1 (u1 (u1 (u1 z 8 bg) 9 n) 10 a') 11 fa) zl (uf f 1 tb) fl 1 ∧ a' = sks n b a ∧ r = sg n b a' ∧ (a ≤ a' ∧ a' ≤ n) ∧ (-1 ≤ r ∧ r ≤ 255)) := by
  refine (r_look1 d z zl (uf f 1 tb) fl n a bg fa b hT hM ha.1 ha.2).mono (fun rv h q => ?_)
  exact ⟨_, _, q.1, q.2, rfl, rfl, ⟨sks_le _ _ _, sks_n _ ha.2⟩, sg_bI hT (Int.le_trans ha.1 (sks_le _ _ _))⟩
set_option maxRecDepth 100000 in
set_option maxHeartbeats 4000000 in
theorem m_isDig1 (d : Nat) (z : Nat → Int) (zl : Nat → Int) (f : Nat → Int → Int) (fl : Nat → Int → Int) (tx : Nat)  (n : Int) (a : Int) (bg : Int) (fa : Int) (tb : Int → Int) (b : Int → Int) (hT : tOK n b) (hM : mOK n bg 160 tb b) (ha : 0 ≤ a ∧ a ≤ n) : Rx (d) m_X12_isDigit 0 (am_ent [.ref 0] 1) [] (cmH (u1 (u1 (u1 (u1 z 8 bg) 9 n) 10 a) 11 fa) zl (uf f 1 tb) fl 1) (fun rv h => ∃ r : Int, rv = some (.int (iz r)) ∧ h = cmH (u1 (u1 (u1 (u1 z 8 bg) 9 n) 10 a) 11 fa) zl (uf f 1 tb) fl 1 ∧ ((r = 1 ∧ isD n b a = true) ∨ (r = 0 ∧ isD n b a = false))) := by
  refine (r_isDigit1 d z zl (uf f 1 tb) fl n a bg fa b hT hM ha.1 ha.2).mono (fun rv h q => ?_)
  cases e : isD n b a with
  | true => exact ⟨1, by rw [q.1, e]; rfl, q.2, Or.inl ⟨rfl, rfl⟩⟩
  | false => exact ⟨0, by rw [q.1, e]; rfl, q.2, Or.inr ⟨rfl, rfl⟩⟩
set_option maxRecDepth 100000 in
set_option maxHeartbeats 4000000 in
theorem m_fails (d : Nat) (z : Nat → Int) (zl : Nat → Int) (f : Nat → Int → Int) (fl : Nat → Int → Int) (tx : Nat)  (a : Int) (fa : Int) (hf : fa = -1 ∨ (0 ≤ fa ∧ fa ≤ 160)) : Rx (d) m_X12_fails 0 (am_ent [.ref 0] 1) [] (cmH (u1 (u1 z 10 a) 11 fa) zl f fl tx) (fun rv h => ∃ fa' : Int, rv = some (.int (iz 0)) ∧ h = cmH (u1 (u1 z 10 a) 11 fa') zl f fl tx ∧ ((fa = -1 ∧ fa' = a) ∨ (fa ≠ -1 ∧ fa' = fa))) := by
  refine Rx.walk 0 (pc' := 0) (L' := [some (.ref 0)]) (st' := []) (h' := cmH (u1 (u1 z 10 a) 11 fa) zl f fl tx) rfl ?_
  refine Rx.walk 3 (pc' := 5) (L' := [some (.ref 0)]) (st' := [.int (iz (-1)), .int (iz fa)]) (h' := cmH (u1 (u1 z 10 a) 11 fa) zl f fl tx) rfl ?_
  refine Rx.ne2 rfl rfl ⟨by omega, by omega⟩ ⟨by omega, by omega⟩ (fun b1 => ?_) (fun b1 => ?_)
  · refine Rx.walk 1 (pc' := 17) (L' := [some (.ref 0)]) (st' := [.int (iz 0)]) (h' := cmH (u1 (u1 z 10 a) 11 fa) zl f fl tx) rfl ?_
    refine Rx.ret rfl ?_
    exact ⟨_, rfl, rfl, (by omega)⟩
  · refine Rx.walk 5 (pc' := 17) (L' := [some (.ref 0)]) (st' := [.int (iz 0)]) (h' := cmH (u1 (u1 z 10 a) 11 a) zl f fl tx) rfl ?_
    refine Rx.ret rfl ?_
    exact ⟨_, rfl, rfl, (by omega)⟩
set_option maxRecDepth 100000 in
set_option maxHeartbeats 4000000 in
theorem m_takes1 (d : Nat) (z : Nat → Int) (zl : Nat → Int) (f : Nat → Int → Int) (fl : Nat → Int → Int) (tx : Nat)  (k : Int) (n : Int) (a : Int) (bg : Int) (fa : Int) (tb : Int → Int) (b : Int → Int) (hT : tOK n b) (hM : mOK n bg 160 tb b) (ha : 0 ≤ a ∧ a ≤ n) (hk : 0 ≤ k ∧ k < 256) (hf : fa = -1 ∨ (0 ≤ fa ∧ fa ≤ 160)) : Rx (d + 1) m_X12_takes 0 (am_ent [.ref 0, .int (iz k)] 2) [] (cmH (u1 (u1 (u1 (u1 z 8 bg) 9 n) 10 a) 11 fa) zl (uf f 1 tb) fl 1) (fun rv h => ∃ r : Int, ∃ a' : Int, ∃ fa' : Int, rv = some (.int (iz r)) ∧ h = cmH (u1 (u1 (u1 (u1 z 8 bg) 9 n) 10 a') 11 fa') zl (uf f 1 tb) fl 1 ∧ ((fa = -1 ∧ r = 1 ∧ fa' = -1 ∧ sg n b (sks n b a) = k ∧ a' = sks n b a + 1) ∨ (fa = -1 ∧ r = 0 ∧ sg n b (sks n b a) ≠ k ∧ a' = sks n b a ∧ fa' = sks n b a) ∨ (fa ≠ -1 ∧ r = 0 ∧ a' = a ∧ fa' = fa)) ∧ (a ≤ a' ∧ a' ≤ n) ∧ (fa' = -1 ∨ (0 ≤ fa' ∧ fa' ≤ 160))) := by
  have s1 := sks_le n b a
  have s2 := sks_n b ha.2
  have s3 := hT.2.1
  rcases hf with hf | hf
  · subst hf
    refine (r_takes1 d z zl (uf f 1 tb) fl n a bg b hT hM ha.1 ha.2 k ⟨by omega, by omega⟩).mono (fun rv h q => ?_)
    rcases q with ⟨q1, q2, q3⟩ | ⟨q1, q2, q3⟩
    · have hlt : sks n b a < n := by rcases Int.lt_or_le (sks n b a) n with q | q; exact q; (rw [sg_ge q] at q1; omega)
      exact ⟨_, _, _, q2, q3, Or.inl ⟨rfl, rfl, rfl, q1, rfl⟩, ⟨by omega, by omega⟩, Or.inl rfl⟩
    · exact ⟨_, _, _, q2, q3, Or.inr (Or.inl ⟨rfl, rfl, q1, rfl, rfl⟩), ⟨s1, s2⟩, Or.inr ⟨by omega, by omega⟩⟩
  · refine (r_takesS1 d z zl (uf f 1 tb) fl n a bg fa b hT hM ha.1 ha.2 k hf.1 hf.2).mono (fun rv h q => ?_)
    exact ⟨_, _, _, q.1, q.2, Or.inr (Or.inr ⟨by omega, rfl, rfl, rfl⟩), ⟨Int.le_refl _, ha.2⟩, Or.inr hf⟩
set_option maxRecDepth 100000 in
set_option maxHeartbeats 4000000 in
theorem m_look2 (d : Nat) (z : Nat → Int) (zl : Nat → Int) (f : Nat → Int → Int) (fl : Nat → Int → Int) (tx : Nat)  (n : Int) (a : Int) (bg : Int) (fa : Int) (tb : Int → Int) (b : Int → Int) (hT : tOK n b) (hM : mOK n bg 640 tb b) (ha : 0 ≤ a ∧ a ≤ n) : Rx (d) m_X12_look 0 (am_ent [.ref 0] 1) [] (cmH (u1 (u1 (u1 (u1 z 8 bg) 9 n) 10 a) 11 fa) zl (uf f 2 tb) fl 2) (fun rv h => ∃ r : Int, ∃ a' : Int, rv = some (.int (iz r)) ∧ h = cmH (u1 (u1 (u1 (u1 z 8 bg) 9 n) 10 a') 11 fa) zl (uf f 2 tb) fl 2 ∧ a' = sks n b a ∧ r = sg n b a' ∧ (a ≤ a' ∧ a' ≤ n) ∧ (-1 ≤ r ∧ r ≤ 255)) := by
  refine (r_look2 d z zl (uf f 2 tb) fl n a bg fa b hT hM ha.1 ha.2).mono (fun rv h q => ?_)
  exact ⟨_, _, q.1, q.2, rfl, rfl, ⟨sks_le _ _ _, sks_n _ ha.2⟩, sg_bI hT (Int.le_trans ha.1 (sks_le _ _ _))⟩
set_option maxRecDepth 100000 in
set_option maxHeartbeats 4000000 in
theorem m_isDig2 (d : Nat) (z : Nat → Int) (zl : Nat → Int) (f : Nat → Int → Int) (fl : Nat → Int → Int) (tx : Nat)  (n : Int) (a : Int) (bg : Int) (fa : Int) (tb : Int → Int) (b : Int → Int) (hT : tOK n b) (hM : mOK n bg 640 tb b) (ha : 0 ≤ a ∧ a ≤ n) : Rx (d) m_X12_isDigit 0 (am_ent [.ref 0] 1) [] (cmH (u1 (u1 (u1 (u1 z 8 bg) 9 n) 10 a) 11 fa) zl (uf f 2 tb) fl 2) (fun rv h => ∃ r : Int, rv = some (.int (iz r)) ∧ h = cmH (u1 (u1 (u1 (u1 z 8 bg) 9 n) 10 a) 11 fa) zl (uf f 2 tb) fl 2 ∧ ((r = 1 ∧ isD n b a = true) ∨ (r = 0 ∧ isD n b a = false))) := by
  refine (r_isDigit2 d z zl (uf f 2 tb) fl n a bg fa b hT hM ha.1 ha.2).mono (fun rv h q => ?_)
  cases e : isD n b a with
  | true => exact ⟨1, by rw [q.1, e]; rfl, q.2, Or.inl ⟨rfl, rfl⟩⟩
  | false => exact ⟨0, by rw [q.1, e]; rfl, q.2, Or.inr ⟨rfl, rfl⟩⟩
set_option maxRecDepth 100000 in
set_option maxHeartbeats 4000000 in
theorem m_takes2 (d : Nat) (z : Nat → Int) (zl : Nat → Int) (f : Nat → Int → Int) (fl : Nat → Int → Int) (tx : Nat)  (k : Int) (n : Int) (a : Int) (bg : Int) (fa : Int) (tb : Int → Int) (b : Int → Int) (hT : tOK n b) (hM : mOK n bg 640 tb b) (ha : 0 ≤ a ∧ a ≤ n) (hk : 0 ≤ k ∧ k < 256) (hf : fa = -1 ∨ (0 ≤ fa ∧ fa ≤ 160)) : Rx (d + 1) m_X12_takes 0 (am_ent [.ref 0, .int (iz k)] 2) [] (cmH (u1 (u1 (u1 (u1 z 8 bg) 9 n) 10 a) 11 fa) zl (uf f 2 tb) fl 2) (fun rv h => ∃ r : Int, ∃ a' : Int, ∃ fa' : Int, rv = some (.int (iz r)) ∧ h = cmH (u1 (u1 (u1 (u1 z 8 bg) 9 n) 10 a') 11 fa') zl (uf f 2 tb) fl 2 ∧ ((fa = -1 ∧ r = 1 ∧ fa' = -1 ∧ sg n b (sks n b a) = k ∧ a' = sks n b a + 1) ∨ (fa = -1 ∧ r = 0 ∧ sg n b (sks n b a) ≠ k ∧ a' = sks n b a ∧ fa' = sks n b a) ∨ (fa ≠ -1 ∧ r = 0 ∧ a' = a ∧ fa' = fa)) ∧ (a ≤ a' ∧ a' ≤ n) ∧ (fa' = -1 ∨ (0 ≤ fa' ∧ fa' ≤ 160))) := by
  have s1 := sks_le n b a
  have s2 := sks_n b ha.2
  have s3 := hT.2.1
  rcases hf with hf | hf
  · subst hf
    refine (r_takes2 d z zl (uf f 2 tb) fl n a bg b hT hM ha.1 ha.2 k ⟨by omega, by omega⟩).mono (fun rv h q => ?_)
    rcases q with ⟨q1, q2, q3⟩ | ⟨q1, q2, q3⟩
    · have hlt : sks n b a < n := by rcases Int.lt_or_le (sks n b a) n with q | q; exact q; (rw [sg_ge q] at q1; omega)
      exact ⟨_, _, _, q2, q3, Or.inl ⟨rfl, rfl, rfl, q1, rfl⟩, ⟨by omega, by omega⟩, Or.inl rfl⟩
    · exact ⟨_, _, _, q2, q3, Or.inr (Or.inl ⟨rfl, rfl, q1, rfl, rfl⟩), ⟨s1, s2⟩, Or.inr ⟨by omega, by omega⟩⟩
  · refine (r_takesS2 d z zl (uf f 2 tb) fl n a bg fa b hT hM ha.1 ha.2 k hf.1 hf.2).mono (fun rv h q => ?_)
    exact ⟨_, _, _, q.1, q.2, Or.inr (Or.inr ⟨by omega, rfl, rfl, rfl⟩), ⟨Int.le_refl _, ha.2⟩, Or.inr hf⟩

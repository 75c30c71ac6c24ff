/-! the baker of the model: coins handed back (printed by wip/whole/genmbk.py) -/
theorem bkF_0 {w : Int → Int} (hw : wOK w) {l : Int} : bkF w 0 l = 0 := by unfold bkF; split <;> rfl
/-- where the greatest lies that fits: 0, 1 the pipes, 2 the tray -/
def bkS (w : Int → Int) (p0 p1 l fr kd : Int) : Prop := kd + 1 = max (bkF w (p0 % 5) l) (bkF w (p1 % 5) l) ∧ ((kd = -1 ∧ fr = -1) ∨ (kd ≠ -1 ∧ fr = 0 ∧ bkF w (p0 % 5) l = kd + 1) ∨ (kd ≠ -1 ∧ fr = 1 ∧ bkF w (p0 % 5) l ≠ kd + 1 ∧ bkF w (p1 % 5) l = kd + 1))
def bkT (w : Int → Int) (p0 p1 t l fr kd : Int) : Prop := kd + 1 = bkG w p0 p1 t l ∧ ((kd = -1) ∨ (kd ≠ -1 ∧ fr = 0 ∧ bkF w (p0 % 5) l = kd + 1) ∨ (kd ≠ -1 ∧ fr = 1 ∧ bkF w (p0 % 5) l ≠ kd + 1 ∧ bkF w (p1 % 5) l = kd + 1) ∨ (kd ≠ -1 ∧ fr = 2 ∧ bkF w (p0 % 5) l ≠ kd + 1 ∧ bkF w (p1 % 5) l ≠ kd + 1 ∧ t = kd + 1))
theorem mtI_ty {K : Int} {pp li ty : Int → Int} {p0 p1 t : Int} (h : mtI K pp li ty p0 p1 t) {k : Int} (k0 : 0 ≤ k) (k1 : k < 4) : (t = k + 1 ∧ ty k = 1) ∨ (t ≠ k + 1 ∧ ty k = 0) := by
  obtain ⟨-, -, -, -, -, -, -, q⟩ := h
  rw [q k k0 k1]
  split
  · exact Or.inl ⟨by assumption, rfl⟩
  · exact Or.inr ⟨by assumption, rfl⟩
set_option maxRecDepth 100000 in
set_option maxHeartbeats 4000000 in
theorem m_gback_p (d : Nat) (z : Nat → Int) (zl : Nat → Int) (f : Nat → Int → Int) (fl : Nat → Int → Int) (tx : Nat)  (due : Int) (l : Int) (p0 : Int) (p1 : Int) (t : Int) (pp : Int → Int) (li : Int → Int) (ty : Int → Int) (K : Int) (pi : Int) (va : Int → Int) (w : Int → Int) (w3 : Option Value) (w4 : Option Value) (w5 : Option Value) (w6 : Option Value) (hw : wOK w) (hva : ∀ k : Int, 0 ≤ k → k < K → va k = w (k + 1)) (hK : 1 ≤ K ∧ K ≤ 4) (hpi : pi = 1 ∨ pi = 2) (hM : mtI K pp li ty p0 p1 t) (hl : 1 ≤ l ∧ l ≤ 10000) (h1p : pi = 1 → p1 = 0) (P : Option Value → AmH → Prop) (hx0 : ∀ (fr' : Int) (kd' : Int) (x5' : Option Value) (x6' : Option Value), (bkS w p0 p1 l fr' kd') → (-1 ≤ kd' ∧ kd' < K) → Rx (d + 1) m_X12_givesBack 77 [some (.ref 0), some (.int (iz due)), some (.int (iz l)), some (.int (iz fr')), some (.int (iz kd')), x5', x6'] [] (cmH (u1 (u1 z 21 K) 22 pi) zl (uf (uf (uf (uf f 5 va) 10 pp) 11 li) 12 ty) fl tx) P) : ∀ (kF : Nat), 0 < (kF : Int) → Rx (d + 1) m_X12_givesBack 6 [some (.ref 0), some (.int (iz due)), some (.int (iz l)), w3, w4, w5, w6] [] (cmH (u1 (u1 z 21 K) 22 pi) zl (uf (uf (uf (uf f 5 va) 10 pp) 11 li) 12 ty) fl tx) P := by
  obtain ⟨⟨hm1, hm2, hm3⟩, ⟨hm4, hm5, hm6⟩, hm7, hm8, hm9⟩ := mtI_b hM
  intro kF
  induction kF with
  | zero =>
    intro   hk
    exfalso; omega
  | succ kF ih =>
    intro   hk
    refine Rx.walk 9 (pc' := 20) (L' := [some (.ref 0), some (.int (iz due)), some (.int (iz l)), some (.int (iz (-1))), some (.int (iz (-1))), some (.int (iz 0)), w6]) (st' := [.int (iz pi), .int (iz 0)]) (h' := cmH (u1 (u1 z 21 K) 22 pi) zl (uf (uf (uf (uf f 5 va) 10 pp) 11 li) 12 ty) fl tx) rfl ?_
    refine Rx.ge2 rfl rfl ⟨by omega, by omega⟩ ⟨by omega, by omega⟩ (fun b1 => by omega) (fun b1 => ?_)
    refine Rx.walk 2 (pc' := 26) (L' := [some (.ref 0), some (.int (iz due)), some (.int (iz l)), some (.int (iz (-1))), some (.int (iz (-1))), some (.int (iz 0)), w6]) (st' := [.int (iz 0), .ref 0]) (h' := cmH (u1 (u1 z 21 K) 22 pi) zl (uf (uf (uf (uf f 5 va) 10 pp) 11 li) 12 ty) fl tx) rfl ?_
    refine Rx.callx (m' := m_X12_top) (as := [.ref 0, .int (iz 0)]) (rest := []) rfl (m_top0 _ (u1 (u1 z 21 K) 22 pi) zl (uf (uf (uf (uf f 5 va) 10 pp) 11 li) 12 ty) fl tx  K p0 p1 t pp li ty hM) (fun v5 h6 q7 => ?_)
    obtain ⟨r_2, rfl, rfl, f3, f4⟩ := q7
    refine Rx.walk 0 (pc' := 29) (L' := [some (.ref 0), some (.int (iz due)), some (.int (iz l)), some (.int (iz (-1))), some (.int (iz (-1))), some (.int (iz 0)), w6]) (st' := [.int (iz r_2)]) (h' := cmH (u1 (u1 z 21 K) 22 pi) zl (uf (uf (uf (uf f 5 va) 10 pp) 11 li) 12 ty) fl tx) rfl ?_
    have hf0 := bkF_c w (p0 % 5) l
    have he0 : r_2 + 1 = p0 % 5 := by omega
    refine Rx.walk 3 (pc' := 34) (L' := [some (.ref 0), some (.int (iz due)), some (.int (iz l)), some (.int (iz (-1))), some (.int (iz (-1))), some (.int (iz 0)), some (.int (iz r_2))]) (st' := [.int (iz (-1)), .int (iz r_2)]) (h' := cmH (u1 (u1 z 21 K) 22 pi) zl (uf (uf (uf (uf f 5 va) 10 pp) 11 li) 12 ty) fl tx) rfl ?_
    refine Rx.eq2 rfl rfl ⟨by omega, by omega⟩ ⟨by omega, by omega⟩ (fun b9 => ?_) (fun b9 => ?_)
    · refine Rx.iinc (b := 1) rfl rfl rfl ?_
      refine Rx.walk 0 (pc' := 74) (L' := [some (.ref 0), some (.int (iz due)), some (.int (iz l)), some (.int (iz (-1))), some (.int (iz (-1))), some (.int (iz 1)), some (.int (iz r_2))]) (st' := []) (h' := cmH (u1 (u1 z 21 K) 22 pi) zl (uf (uf (uf (uf f 5 va) 10 pp) 11 li) 12 ty) fl tx) rfl ?_
      refine Rx.walk 4 (pc' := 20) (L' := [some (.ref 0), some (.int (iz due)), some (.int (iz l)), some (.int (iz (-1))), some (.int (iz (-1))), some (.int (iz 1)), some (.int (iz r_2))]) (st' := [.int (iz pi), .int (iz 1)]) (h' := cmH (u1 (u1 z 21 K) 22 pi) zl (uf (uf (uf (uf f 5 va) 10 pp) 11 li) 12 ty) fl tx) rfl ?_
      refine Rx.ge2 rfl rfl ⟨by omega, by omega⟩ ⟨by omega, by omega⟩ (fun b10 => ?_) (fun b10 => ?_)
      · exact hx0 _ _ _ _ (by rw [h1p (by omega)]; have hf1 := bkF_c w (0 % 5) l; unfold bkS; have hw0 := hw.1; rw [show (0 : Int) % 5 = 0 by decide] at hf1 ⊢; exact ⟨by omega, by omega⟩) ⟨by omega, by omega⟩
      · refine Rx.walk 2 (pc' := 26) (L' := [some (.ref 0), some (.int (iz due)), some (.int (iz l)), some (.int (iz (-1))), some (.int (iz (-1))), some (.int (iz 1)), some (.int (iz r_2))]) (st' := [.int (iz 1), .ref 0]) (h' := cmH (u1 (u1 z 21 K) 22 pi) zl (uf (uf (uf (uf f 5 va) 10 pp) 11 li) 12 ty) fl tx) rfl ?_
        refine Rx.callx (m' := m_X12_top) (as := [.ref 0, .int (iz 1)]) (rest := []) rfl (m_top1 _ (u1 (u1 z 21 K) 22 pi) zl (uf (uf (uf (uf f 5 va) 10 pp) 11 li) 12 ty) fl tx  K p0 p1 t pp li ty hM) (fun v14 h15 q16 => ?_)
        obtain ⟨r_11, rfl, rfl, f12, f13⟩ := q16
        refine Rx.walk 0 (pc' := 29) (L' := [some (.ref 0), some (.int (iz due)), some (.int (iz l)), some (.int (iz (-1))), some (.int (iz (-1))), some (.int (iz 1)), some (.int (iz r_2))]) (st' := [.int (iz r_11)]) (h' := cmH (u1 (u1 z 21 K) 22 pi) zl (uf (uf (uf (uf f 5 va) 10 pp) 11 li) 12 ty) fl tx) rfl ?_
        have hf1 := bkF_c w (p1 % 5) l
        have he1 : r_11 + 1 = p1 % 5 := by omega
        refine Rx.walk 3 (pc' := 34) (L' := [some (.ref 0), some (.int (iz due)), some (.int (iz l)), some (.int (iz (-1))), some (.int (iz (-1))), some (.int (iz 1)), some (.int (iz r_11))]) (st' := [.int (iz (-1)), .int (iz r_11)]) (h' := cmH (u1 (u1 z 21 K) 22 pi) zl (uf (uf (uf (uf f 5 va) 10 pp) 11 li) 12 ty) fl tx) rfl ?_
        refine Rx.eq2 rfl rfl ⟨by omega, by omega⟩ ⟨by omega, by omega⟩ (fun b18 => ?_) (fun b18 => ?_)
        · refine Rx.iinc (b := 1) rfl rfl rfl ?_
          refine Rx.walk 0 (pc' := 74) (L' := [some (.ref 0), some (.int (iz due)), some (.int (iz l)), some (.int (iz (-1))), some (.int (iz (-1))), some (.int (iz 2)), some (.int (iz r_11))]) (st' := []) (h' := cmH (u1 (u1 z 21 K) 22 pi) zl (uf (uf (uf (uf f 5 va) 10 pp) 11 li) 12 ty) fl tx) rfl ?_
          refine Rx.walk 4 (pc' := 20) (L' := [some (.ref 0), some (.int (iz due)), some (.int (iz l)), some (.int (iz (-1))), some (.int (iz (-1))), some (.int (iz 2)), some (.int (iz r_11))]) (st' := [.int (iz pi), .int (iz 2)]) (h' := cmH (u1 (u1 z 21 K) 22 pi) zl (uf (uf (uf (uf f 5 va) 10 pp) 11 li) 12 ty) fl tx) rfl ?_
          refine Rx.ge2 rfl rfl ⟨by omega, by omega⟩ ⟨by omega, by omega⟩ (fun b19 => ?_) (fun b19 => by omega)
          exact hx0 _ _ _ _ (by unfold bkS; have hw0 := hw.1; exact ⟨by omega, by omega⟩) ⟨by omega, by omega⟩
        · have hwv1 : va r_11 = w (p1 % 5) := by rw [hva r_11 (by omega) (by omega), he1]
          refine Rx.walk 3 (pc' := 43) (L' := [some (.ref 0), some (.int (iz due)), some (.int (iz l)), some (.int (iz (-1))), some (.int (iz (-1))), some (.int (iz 1)), some (.int (iz r_11))]) (st' := [.int (iz r_11), .ref 5]) (h' := cmH (u1 (u1 z 21 K) 22 pi) zl (uf (uf (uf (uf f 5 va) 10 pp) 11 li) 12 ty) fl tx) rfl ?_
          refine Rx.ial (g := va) rfl rfl (by omega) (by omega) (by omega) ?_
          have hx20 := hva r_11 (by omega) (by omega)
          have hy20 := hw.2 (r_11 + 1) (by omega) (by omega)
          rw [← hx20] at hy20
          refine Rx.walk 1 (pc' := 45) (L' := [some (.ref 0), some (.int (iz due)), some (.int (iz l)), some (.int (iz (-1))), some (.int (iz (-1))), some (.int (iz 1)), some (.int (iz r_11))]) (st' := [.int (iz l), .int (iz (va r_11))]) (h' := cmH (u1 (u1 z 21 K) 22 pi) zl (uf (uf (uf (uf f 5 va) 10 pp) 11 li) 12 ty) fl tx) rfl ?_
          refine Rx.gt2 rfl rfl ⟨by omega, by omega⟩ ⟨by omega, by omega⟩ (fun b21 => ?_) (fun b21 => ?_)
          · refine Rx.iinc (b := 1) rfl rfl rfl ?_
            refine Rx.walk 0 (pc' := 74) (L' := [some (.ref 0), some (.int (iz due)), some (.int (iz l)), some (.int (iz (-1))), some (.int (iz (-1))), some (.int (iz 2)), some (.int (iz r_11))]) (st' := []) (h' := cmH (u1 (u1 z 21 K) 22 pi) zl (uf (uf (uf (uf f 5 va) 10 pp) 11 li) 12 ty) fl tx) rfl ?_
            refine Rx.walk 4 (pc' := 20) (L' := [some (.ref 0), some (.int (iz due)), some (.int (iz l)), some (.int (iz (-1))), some (.int (iz (-1))), some (.int (iz 2)), some (.int (iz r_11))]) (st' := [.int (iz pi), .int (iz 2)]) (h' := cmH (u1 (u1 z 21 K) 22 pi) zl (uf (uf (uf (uf f 5 va) 10 pp) 11 li) 12 ty) fl tx) rfl ?_
            refine Rx.ge2 rfl rfl ⟨by omega, by omega⟩ ⟨by omega, by omega⟩ (fun b22 => ?_) (fun b22 => by omega)
            exact hx0 _ _ _ _ (by unfold bkS; have hw0 := hw.1; exact ⟨by omega, by omega⟩) ⟨by omega, by omega⟩
          · refine Rx.walk 2 (pc' := 51) (L' := [some (.ref 0), some (.int (iz due)), some (.int (iz l)), some (.int (iz (-1))), some (.int (iz (-1))), some (.int (iz 1)), some (.int (iz r_11))]) (st' := [.int (iz (-1)), .int (iz (-1))]) (h' := cmH (u1 (u1 z 21 K) 22 pi) zl (uf (uf (uf (uf f 5 va) 10 pp) 11 li) 12 ty) fl tx) rfl ?_
            refine Rx.eq2 rfl rfl ⟨by omega, by omega⟩ ⟨by omega, by omega⟩ (fun b23 => ?_) (fun b23 => by omega)
            refine Rx.walk 4 (pc' := 71) (L' := [some (.ref 0), some (.int (iz due)), some (.int (iz l)), some (.int (iz 1)), some (.int (iz r_11)), some (.int (iz 1)), some (.int (iz r_11))]) (st' := []) (h' := cmH (u1 (u1 z 21 K) 22 pi) zl (uf (uf (uf (uf f 5 va) 10 pp) 11 li) 12 ty) fl tx) rfl ?_
            refine Rx.iinc (b := 1) rfl rfl rfl ?_
            refine Rx.walk 0 (pc' := 74) (L' := [some (.ref 0), some (.int (iz due)), some (.int (iz l)), some (.int (iz 1)), some (.int (iz r_11)), some (.int (iz 2)), some (.int (iz r_11))]) (st' := []) (h' := cmH (u1 (u1 z 21 K) 22 pi) zl (uf (uf (uf (uf f 5 va) 10 pp) 11 li) 12 ty) fl tx) rfl ?_
            refine Rx.walk 4 (pc' := 20) (L' := [some (.ref 0), some (.int (iz due)), some (.int (iz l)), some (.int (iz 1)), some (.int (iz r_11)), some (.int (iz 2)), some (.int (iz r_11))]) (st' := [.int (iz pi), .int (iz 2)]) (h' := cmH (u1 (u1 z 21 K) 22 pi) zl (uf (uf (uf (uf f 5 va) 10 pp) 11 li) 12 ty) fl tx) rfl ?_
            refine Rx.ge2 rfl rfl ⟨by omega, by omega⟩ ⟨by omega, by omega⟩ (fun b24 => ?_) (fun b24 => by omega)
            exact hx0 _ _ _ _ (by unfold bkS; have hw0 := hw.1; exact ⟨by omega, by omega⟩) ⟨by omega, by omega⟩
    · have hwv0 : va r_2 = w (p0 % 5) := by rw [hva r_2 (by omega) (by omega), he0]
      refine Rx.walk 3 (pc' := 43) (L' := [some (.ref 0), some (.int (iz due)), some (.int (iz l)), some (.int (iz (-1))), some (.int (iz (-1))), some (.int (iz 0)), some (.int (iz r_2))]) (st' := [.int (iz r_2), .ref 5]) (h' := cmH (u1 (u1 z 21 K) 22 pi) zl (uf (uf (uf (uf f 5 va) 10 pp) 11 li) 12 ty) fl tx) rfl ?_
      refine Rx.ial (g := va) rfl rfl (by omega) (by omega) (by omega) ?_
      have hx25 := hva r_2 (by omega) (by omega)
      have hy25 := hw.2 (r_2 + 1) (by omega) (by omega)
      rw [← hx25] at hy25
      refine Rx.walk 1 (pc' := 45) (L' := [some (.ref 0), some (.int (iz due)), some (.int (iz l)), some (.int (iz (-1))), some (.int (iz (-1))), some (.int (iz 0)), some (.int (iz r_2))]) (st' := [.int (iz l), .int (iz (va r_2))]) (h' := cmH (u1 (u1 z 21 K) 22 pi) zl (uf (uf (uf (uf f 5 va) 10 pp) 11 li) 12 ty) fl tx) rfl ?_
      refine Rx.gt2 rfl rfl ⟨by omega, by omega⟩ ⟨by omega, by omega⟩ (fun b26 => ?_) (fun b26 => ?_)
      · refine Rx.iinc (b := 1) rfl rfl rfl ?_
        refine Rx.walk 0 (pc' := 74) (L' := [some (.ref 0), some (.int (iz due)), some (.int (iz l)), some (.int (iz (-1))), some (.int (iz (-1))), some (.int (iz 1)), some (.int (iz r_2))]) (st' := []) (h' := cmH (u1 (u1 z 21 K) 22 pi) zl (uf (uf (uf (uf f 5 va) 10 pp) 11 li) 12 ty) fl tx) rfl ?_
        refine Rx.walk 4 (pc' := 20) (L' := [some (.ref 0), some (.int (iz due)), some (.int (iz l)), some (.int (iz (-1))), some (.int (iz (-1))), some (.int (iz 1)), some (.int (iz r_2))]) (st' := [.int (iz pi), .int (iz 1)]) (h' := cmH (u1 (u1 z 21 K) 22 pi) zl (uf (uf (uf (uf f 5 va) 10 pp) 11 li) 12 ty) fl tx) rfl ?_
        refine Rx.ge2 rfl rfl ⟨by omega, by omega⟩ ⟨by omega, by omega⟩ (fun b27 => ?_) (fun b27 => ?_)
        · exact hx0 _ _ _ _ (by rw [h1p (by omega)]; have hf1 := bkF_c w (0 % 5) l; unfold bkS; have hw0 := hw.1; rw [show (0 : Int) % 5 = 0 by decide] at hf1 ⊢; exact ⟨by omega, by omega⟩) ⟨by omega, by omega⟩
        · refine Rx.walk 2 (pc' := 26) (L' := [some (.ref 0), some (.int (iz due)), some (.int (iz l)), some (.int (iz (-1))), some (.int (iz (-1))), some (.int (iz 1)), some (.int (iz r_2))]) (st' := [.int (iz 1), .ref 0]) (h' := cmH (u1 (u1 z 21 K) 22 pi) zl (uf (uf (uf (uf f 5 va) 10 pp) 11 li) 12 ty) fl tx) rfl ?_
          refine Rx.callx (m' := m_X12_top) (as := [.ref 0, .int (iz 1)]) (rest := []) rfl (m_top1 _ (u1 (u1 z 21 K) 22 pi) zl (uf (uf (uf (uf f 5 va) 10 pp) 11 li) 12 ty) fl tx  K p0 p1 t pp li ty hM) (fun v31 h32 q33 => ?_)
          obtain ⟨r_28, rfl, rfl, f29, f30⟩ := q33
          refine Rx.walk 0 (pc' := 29) (L' := [some (.ref 0), some (.int (iz due)), some (.int (iz l)), some (.int (iz (-1))), some (.int (iz (-1))), some (.int (iz 1)), some (.int (iz r_2))]) (st' := [.int (iz r_28)]) (h' := cmH (u1 (u1 z 21 K) 22 pi) zl (uf (uf (uf (uf f 5 va) 10 pp) 11 li) 12 ty) fl tx) rfl ?_
          have hf1 := bkF_c w (p1 % 5) l
          have he1 : r_28 + 1 = p1 % 5 := by omega
          refine Rx.walk 3 (pc' := 34) (L' := [some (.ref 0), some (.int (iz due)), some (.int (iz l)), some (.int (iz (-1))), some (.int (iz (-1))), some (.int (iz 1)), some (.int (iz r_28))]) (st' := [.int (iz (-1)), .int (iz r_28)]) (h' := cmH (u1 (u1 z 21 K) 22 pi) zl (uf (uf (uf (uf f 5 va) 10 pp) 11 li) 12 ty) fl tx) rfl ?_
          refine Rx.eq2 rfl rfl ⟨by omega, by omega⟩ ⟨by omega, by omega⟩ (fun b35 => ?_) (fun b35 => ?_)
          · refine Rx.iinc (b := 1) rfl rfl rfl ?_
            refine Rx.walk 0 (pc' := 74) (L' := [some (.ref 0), some (.int (iz due)), some (.int (iz l)), some (.int (iz (-1))), some (.int (iz (-1))), some (.int (iz 2)), some (.int (iz r_28))]) (st' := []) (h' := cmH (u1 (u1 z 21 K) 22 pi) zl (uf (uf (uf (uf f 5 va) 10 pp) 11 li) 12 ty) fl tx) rfl ?_
            refine Rx.walk 4 (pc' := 20) (L' := [some (.ref 0), some (.int (iz due)), some (.int (iz l)), some (.int (iz (-1))), some (.int (iz (-1))), some (.int (iz 2)), some (.int (iz r_28))]) (st' := [.int (iz pi), .int (iz 2)]) (h' := cmH (u1 (u1 z 21 K) 22 pi) zl (uf (uf (uf (uf f 5 va) 10 pp) 11 li) 12 ty) fl tx) rfl ?_
            refine Rx.ge2 rfl rfl ⟨by omega, by omega⟩ ⟨by omega, by omega⟩ (fun b36 => ?_) (fun b36 => by omega)
            exact hx0 _ _ _ _ (by unfold bkS; have hw0 := hw.1; exact ⟨by omega, by omega⟩) ⟨by omega, by omega⟩
          · have hwv1 : va r_28 = w (p1 % 5) := by rw [hva r_28 (by omega) (by omega), he1]
            refine Rx.walk 3 (pc' := 43) (L' := [some (.ref 0), some (.int (iz due)), some (.int (iz l)), some (.int (iz (-1))), some (.int (iz (-1))), some (.int (iz 1)), some (.int (iz r_28))]) (st' := [.int (iz r_28), .ref 5]) (h' := cmH (u1 (u1 z 21 K) 22 pi) zl (uf (uf (uf (uf f 5 va) 10 pp) 11 li) 12 ty) fl tx) rfl ?_
            refine Rx.ial (g := va) rfl rfl (by omega) (by omega) (by omega) ?_
            have hx37 := hva r_28 (by omega) (by omega)
            have hy37 := hw.2 (r_28 + 1) (by omega) (by omega)
            rw [← hx37] at hy37
            refine Rx.walk 1 (pc' := 45) (L' := [some (.ref 0), some (.int (iz due)), some (.int (iz l)), some (.int (iz (-1))), some (.int (iz (-1))), some (.int (iz 1)), some (.int (iz r_28))]) (st' := [.int (iz l), .int (iz (va r_28))]) (h' := cmH (u1 (u1 z 21 K) 22 pi) zl (uf (uf (uf (uf f 5 va) 10 pp) 11 li) 12 ty) fl tx) rfl ?_
            refine Rx.gt2 rfl rfl ⟨by omega, by omega⟩ ⟨by omega, by omega⟩ (fun b38 => ?_) (fun b38 => ?_)
            · refine Rx.iinc (b := 1) rfl rfl rfl ?_
              refine Rx.walk 0 (pc' := 74) (L' := [some (.ref 0), some (.int (iz due)), some (.int (iz l)), some (.int (iz (-1))), some (.int (iz (-1))), some (.int (iz 2)), some (.int (iz r_28))]) (st' := []) (h' := cmH (u1 (u1 z 21 K) 22 pi) zl (uf (uf (uf (uf f 5 va) 10 pp) 11 li) 12 ty) fl tx) rfl ?_
              refine Rx.walk 4 (pc' := 20) (L' := [some (.ref 0), some (.int (iz due)), some (.int (iz l)), some (.int (iz (-1))), some (.int (iz (-1))), some (.int (iz 2)), some (.int (iz r_28))]) (st' := [.int (iz pi), .int (iz 2)]) (h' := cmH (u1 (u1 z 21 K) 22 pi) zl (uf (uf (uf (uf f 5 va) 10 pp) 11 li) 12 ty) fl tx) rfl ?_
              refine Rx.ge2 rfl rfl ⟨by omega, by omega⟩ ⟨by omega, by omega⟩ (fun b39 => ?_) (fun b39 => by omega)
              exact hx0 _ _ _ _ (by unfold bkS; have hw0 := hw.1; exact ⟨by omega, by omega⟩) ⟨by omega, by omega⟩
            · refine Rx.walk 2 (pc' := 51) (L' := [some (.ref 0), some (.int (iz due)), some (.int (iz l)), some (.int (iz (-1))), some (.int (iz (-1))), some (.int (iz 1)), some (.int (iz r_28))]) (st' := [.int (iz (-1)), .int (iz (-1))]) (h' := cmH (u1 (u1 z 21 K) 22 pi) zl (uf (uf (uf (uf f 5 va) 10 pp) 11 li) 12 ty) fl tx) rfl ?_
              refine Rx.eq2 rfl rfl ⟨by omega, by omega⟩ ⟨by omega, by omega⟩ (fun b40 => ?_) (fun b40 => by omega)
              refine Rx.walk 4 (pc' := 71) (L' := [some (.ref 0), some (.int (iz due)), some (.int (iz l)), some (.int (iz 1)), some (.int (iz r_28)), some (.int (iz 1)), some (.int (iz r_28))]) (st' := []) (h' := cmH (u1 (u1 z 21 K) 22 pi) zl (uf (uf (uf (uf f 5 va) 10 pp) 11 li) 12 ty) fl tx) rfl ?_
              refine Rx.iinc (b := 1) rfl rfl rfl ?_
              refine Rx.walk 0 (pc' := 74) (L' := [some (.ref 0), some (.int (iz due)), some (.int (iz l)), some (.int (iz 1)), some (.int (iz r_28)), some (.int (iz 2)), some (.int (iz r_28))]) (st' := []) (h' := cmH (u1 (u1 z 21 K) 22 pi) zl (uf (uf (uf (uf f 5 va) 10 pp) 11 li) 12 ty) fl tx) rfl ?_
              refine Rx.walk 4 (pc' := 20) (L' := [some (.ref 0), some (.int (iz due)), some (.int (iz l)), some (.int (iz 1)), some (.int (iz r_28)), some (.int (iz 2)), some (.int (iz r_28))]) (st' := [.int (iz pi), .int (iz 2)]) (h' := cmH (u1 (u1 z 21 K) 22 pi) zl (uf (uf (uf (uf f 5 va) 10 pp) 11 li) 12 ty) fl tx) rfl ?_
              refine Rx.ge2 rfl rfl ⟨by omega, by omega⟩ ⟨by omega, by omega⟩ (fun b41 => ?_) (fun b41 => by omega)
              exact hx0 _ _ _ _ (by unfold bkS; have hw0 := hw.1; exact ⟨by omega, by omega⟩) ⟨by omega, by omega⟩
      · refine Rx.walk 2 (pc' := 51) (L' := [some (.ref 0), some (.int (iz due)), some (.int (iz l)), some (.int (iz (-1))), some (.int (iz (-1))), some (.int (iz 0)), some (.int (iz r_2))]) (st' := [.int (iz (-1)), .int (iz (-1))]) (h' := cmH (u1 (u1 z 21 K) 22 pi) zl (uf (uf (uf (uf f 5 va) 10 pp) 11 li) 12 ty) fl tx) rfl ?_
        refine Rx.eq2 rfl rfl ⟨by omega, by omega⟩ ⟨by omega, by omega⟩ (fun b42 => ?_) (fun b42 => by omega)
        refine Rx.walk 4 (pc' := 71) (L' := [some (.ref 0), some (.int (iz due)), some (.int (iz l)), some (.int (iz 0)), some (.int (iz r_2)), some (.int (iz 0)), some (.int (iz r_2))]) (st' := []) (h' := cmH (u1 (u1 z 21 K) 22 pi) zl (uf (uf (uf (uf f 5 va) 10 pp) 11 li) 12 ty) fl tx) rfl ?_
        refine Rx.iinc (b := 1) rfl rfl rfl ?_
        refine Rx.walk 0 (pc' := 74) (L' := [some (.ref 0), some (.int (iz due)), some (.int (iz l)), some (.int (iz 0)), some (.int (iz r_2)), some (.int (iz 1)), some (.int (iz r_2))]) (st' := []) (h' := cmH (u1 (u1 z 21 K) 22 pi) zl (uf (uf (uf (uf f 5 va) 10 pp) 11 li) 12 ty) fl tx) rfl ?_
        refine Rx.walk 4 (pc' := 20) (L' := [some (.ref 0), some (.int (iz due)), some (.int (iz l)), some (.int (iz 0)), some (.int (iz r_2)), some (.int (iz 1)), some (.int (iz r_2))]) (st' := [.int (iz pi), .int (iz 1)]) (h' := cmH (u1 (u1 z 21 K) 22 pi) zl (uf (uf (uf (uf f 5 va) 10 pp) 11 li) 12 ty) fl tx) rfl ?_
        refine Rx.ge2 rfl rfl ⟨by omega, by omega⟩ ⟨by omega, by omega⟩ (fun b43 => ?_) (fun b43 => ?_)
        · exact hx0 _ _ _ _ (by rw [h1p (by omega)]; have hf1 := bkF_c w (0 % 5) l; unfold bkS; have hw0 := hw.1; rw [show (0 : Int) % 5 = 0 by decide] at hf1 ⊢; exact ⟨by omega, by omega⟩) ⟨by omega, by omega⟩
        · refine Rx.walk 2 (pc' := 26) (L' := [some (.ref 0), some (.int (iz due)), some (.int (iz l)), some (.int (iz 0)), some (.int (iz r_2)), some (.int (iz 1)), some (.int (iz r_2))]) (st' := [.int (iz 1), .ref 0]) (h' := cmH (u1 (u1 z 21 K) 22 pi) zl (uf (uf (uf (uf f 5 va) 10 pp) 11 li) 12 ty) fl tx) rfl ?_
          refine Rx.callx (m' := m_X12_top) (as := [.ref 0, .int (iz 1)]) (rest := []) rfl (m_top1 _ (u1 (u1 z 21 K) 22 pi) zl (uf (uf (uf (uf f 5 va) 10 pp) 11 li) 12 ty) fl tx  K p0 p1 t pp li ty hM) (fun v47 h48 q49 => ?_)
          obtain ⟨r_44, rfl, rfl, f45, f46⟩ := q49
          refine Rx.walk 0 (pc' := 29) (L' := [some (.ref 0), some (.int (iz due)), some (.int (iz l)), some (.int (iz 0)), some (.int (iz r_2)), some (.int (iz 1)), some (.int (iz r_2))]) (st' := [.int (iz r_44)]) (h' := cmH (u1 (u1 z 21 K) 22 pi) zl (uf (uf (uf (uf f 5 va) 10 pp) 11 li) 12 ty) fl tx) rfl ?_
          have hf1 := bkF_c w (p1 % 5) l
          have he1 : r_44 + 1 = p1 % 5 := by omega
          refine Rx.walk 3 (pc' := 34) (L' := [some (.ref 0), some (.int (iz due)), some (.int (iz l)), some (.int (iz 0)), some (.int (iz r_2)), some (.int (iz 1)), some (.int (iz r_44))]) (st' := [.int (iz (-1)), .int (iz r_44)]) (h' := cmH (u1 (u1 z 21 K) 22 pi) zl (uf (uf (uf (uf f 5 va) 10 pp) 11 li) 12 ty) fl tx) rfl ?_
          refine Rx.eq2 rfl rfl ⟨by omega, by omega⟩ ⟨by omega, by omega⟩ (fun b51 => ?_) (fun b51 => ?_)
          · refine Rx.iinc (b := 1) rfl rfl rfl ?_
            refine Rx.walk 0 (pc' := 74) (L' := [some (.ref 0), some (.int (iz due)), some (.int (iz l)), some (.int (iz 0)), some (.int (iz r_2)), some (.int (iz 2)), some (.int (iz r_44))]) (st' := []) (h' := cmH (u1 (u1 z 21 K) 22 pi) zl (uf (uf (uf (uf f 5 va) 10 pp) 11 li) 12 ty) fl tx) rfl ?_
            refine Rx.walk 4 (pc' := 20) (L' := [some (.ref 0), some (.int (iz due)), some (.int (iz l)), some (.int (iz 0)), some (.int (iz r_2)), some (.int (iz 2)), some (.int (iz r_44))]) (st' := [.int (iz pi), .int (iz 2)]) (h' := cmH (u1 (u1 z 21 K) 22 pi) zl (uf (uf (uf (uf f 5 va) 10 pp) 11 li) 12 ty) fl tx) rfl ?_
            refine Rx.ge2 rfl rfl ⟨by omega, by omega⟩ ⟨by omega, by omega⟩ (fun b52 => ?_) (fun b52 => by omega)
            exact hx0 _ _ _ _ (by unfold bkS; have hw0 := hw.1; exact ⟨by omega, by omega⟩) ⟨by omega, by omega⟩
          · have hwv1 : va r_44 = w (p1 % 5) := by rw [hva r_44 (by omega) (by omega), he1]
            refine Rx.walk 3 (pc' := 43) (L' := [some (.ref 0), some (.int (iz due)), some (.int (iz l)), some (.int (iz 0)), some (.int (iz r_2)), some (.int (iz 1)), some (.int (iz r_44))]) (st' := [.int (iz r_44), .ref 5]) (h' := cmH (u1 (u1 z 21 K) 22 pi) zl (uf (uf (uf (uf f 5 va) 10 pp) 11 li) 12 ty) fl tx) rfl ?_
            refine Rx.ial (g := va) rfl rfl (by omega) (by omega) (by omega) ?_
            have hx53 := hva r_44 (by omega) (by omega)
            have hy53 := hw.2 (r_44 + 1) (by omega) (by omega)
            rw [← hx53] at hy53
            refine Rx.walk 1 (pc' := 45) (L' := [some (.ref 0), some (.int (iz due)), some (.int (iz l)), some (.int (iz 0)), some (.int (iz r_2)), some (.int (iz 1)), some (.int (iz r_44))]) (st' := [.int (iz l), .int (iz (va r_44))]) (h' := cmH (u1 (u1 z 21 K) 22 pi) zl (uf (uf (uf (uf f 5 va) 10 pp) 11 li) 12 ty) fl tx) rfl ?_
            refine Rx.gt2 rfl rfl ⟨by omega, by omega⟩ ⟨by omega, by omega⟩ (fun b54 => ?_) (fun b54 => ?_)
            · refine Rx.iinc (b := 1) rfl rfl rfl ?_
              refine Rx.walk 0 (pc' := 74) (L' := [some (.ref 0), some (.int (iz due)), some (.int (iz l)), some (.int (iz 0)), some (.int (iz r_2)), some (.int (iz 2)), some (.int (iz r_44))]) (st' := []) (h' := cmH (u1 (u1 z 21 K) 22 pi) zl (uf (uf (uf (uf f 5 va) 10 pp) 11 li) 12 ty) fl tx) rfl ?_
              refine Rx.walk 4 (pc' := 20) (L' := [some (.ref 0), some (.int (iz due)), some (.int (iz l)), some (.int (iz 0)), some (.int (iz r_2)), some (.int (iz 2)), some (.int (iz r_44))]) (st' := [.int (iz pi), .int (iz 2)]) (h' := cmH (u1 (u1 z 21 K) 22 pi) zl (uf (uf (uf (uf f 5 va) 10 pp) 11 li) 12 ty) fl tx) rfl ?_
              refine Rx.ge2 rfl rfl ⟨by omega, by omega⟩ ⟨by omega, by omega⟩ (fun b55 => ?_) (fun b55 => by omega)
              exact hx0 _ _ _ _ (by unfold bkS; have hw0 := hw.1; exact ⟨by omega, by omega⟩) ⟨by omega, by omega⟩
            · refine Rx.walk 2 (pc' := 51) (L' := [some (.ref 0), some (.int (iz due)), some (.int (iz l)), some (.int (iz 0)), some (.int (iz r_2)), some (.int (iz 1)), some (.int (iz r_44))]) (st' := [.int (iz (-1)), .int (iz r_2)]) (h' := cmH (u1 (u1 z 21 K) 22 pi) zl (uf (uf (uf (uf f 5 va) 10 pp) 11 li) 12 ty) fl tx) rfl ?_
              refine Rx.eq2 rfl rfl ⟨by omega, by omega⟩ ⟨by omega, by omega⟩ (fun b56 => ?_) (fun b56 => ?_)
              · refine Rx.walk 4 (pc' := 71) (L' := [some (.ref 0), some (.int (iz due)), some (.int (iz l)), some (.int (iz 1)), some (.int (iz r_44)), some (.int (iz 1)), some (.int (iz r_44))]) (st' := []) (h' := cmH (u1 (u1 z 21 K) 22 pi) zl (uf (uf (uf (uf f 5 va) 10 pp) 11 li) 12 ty) fl tx) rfl ?_
                refine Rx.iinc (b := 1) rfl rfl rfl ?_
                refine Rx.walk 0 (pc' := 74) (L' := [some (.ref 0), some (.int (iz due)), some (.int (iz l)), some (.int (iz 1)), some (.int (iz r_44)), some (.int (iz 2)), some (.int (iz r_44))]) (st' := []) (h' := cmH (u1 (u1 z 21 K) 22 pi) zl (uf (uf (uf (uf f 5 va) 10 pp) 11 li) 12 ty) fl tx) rfl ?_
                refine Rx.walk 4 (pc' := 20) (L' := [some (.ref 0), some (.int (iz due)), some (.int (iz l)), some (.int (iz 1)), some (.int (iz r_44)), some (.int (iz 2)), some (.int (iz r_44))]) (st' := [.int (iz pi), .int (iz 2)]) (h' := cmH (u1 (u1 z 21 K) 22 pi) zl (uf (uf (uf (uf f 5 va) 10 pp) 11 li) 12 ty) fl tx) rfl ?_
                refine Rx.ge2 rfl rfl ⟨by omega, by omega⟩ ⟨by omega, by omega⟩ (fun b57 => ?_) (fun b57 => by omega)
                exact hx0 _ _ _ _ (by unfold bkS; have hw0 := hw.1; exact ⟨by omega, by omega⟩) ⟨by omega, by omega⟩
              · refine Rx.walk 2 (pc' := 58) (L' := [some (.ref 0), some (.int (iz due)), some (.int (iz l)), some (.int (iz 0)), some (.int (iz r_2)), some (.int (iz 1)), some (.int (iz r_44))]) (st' := [.int (iz r_2), .int (iz r_44)]) (h' := cmH (u1 (u1 z 21 K) 22 pi) zl (uf (uf (uf (uf f 5 va) 10 pp) 11 li) 12 ty) fl tx) rfl ?_
                refine Rx.gt2 rfl rfl ⟨by omega, by omega⟩ ⟨by omega, by omega⟩ (fun b58 => ?_) (fun b58 => ?_)
                · refine Rx.walk 4 (pc' := 71) (L' := [some (.ref 0), some (.int (iz due)), some (.int (iz l)), some (.int (iz 1)), some (.int (iz r_44)), some (.int (iz 1)), some (.int (iz r_44))]) (st' := []) (h' := cmH (u1 (u1 z 21 K) 22 pi) zl (uf (uf (uf (uf f 5 va) 10 pp) 11 li) 12 ty) fl tx) rfl ?_
                  refine Rx.iinc (b := 1) rfl rfl rfl ?_
                  refine Rx.walk 0 (pc' := 74) (L' := [some (.ref 0), some (.int (iz due)), some (.int (iz l)), some (.int (iz 1)), some (.int (iz r_44)), some (.int (iz 2)), some (.int (iz r_44))]) (st' := []) (h' := cmH (u1 (u1 z 21 K) 22 pi) zl (uf (uf (uf (uf f 5 va) 10 pp) 11 li) 12 ty) fl tx) rfl ?_
                  refine Rx.walk 4 (pc' := 20) (L' := [some (.ref 0), some (.int (iz due)), some (.int (iz l)), some (.int (iz 1)), some (.int (iz r_44)), some (.int (iz 2)), some (.int (iz r_44))]) (st' := [.int (iz pi), .int (iz 2)]) (h' := cmH (u1 (u1 z 21 K) 22 pi) zl (uf (uf (uf (uf f 5 va) 10 pp) 11 li) 12 ty) fl tx) rfl ?_
                  refine Rx.ge2 rfl rfl ⟨by omega, by omega⟩ ⟨by omega, by omega⟩ (fun b59 => ?_) (fun b59 => by omega)
                  exact hx0 _ _ _ _ (by unfold bkS; have hw0 := hw.1; exact ⟨by omega, by omega⟩) ⟨by omega, by omega⟩
                · refine Rx.walk 1 (pc' := 71) (L' := [some (.ref 0), some (.int (iz due)), some (.int (iz l)), some (.int (iz 0)), some (.int (iz r_2)), some (.int (iz 1)), some (.int (iz r_44))]) (st' := []) (h' := cmH (u1 (u1 z 21 K) 22 pi) zl (uf (uf (uf (uf f 5 va) 10 pp) 11 li) 12 ty) fl tx) rfl ?_
                  refine Rx.iinc (b := 1) rfl rfl rfl ?_
                  refine Rx.walk 0 (pc' := 74) (L' := [some (.ref 0), some (.int (iz due)), some (.int (iz l)), some (.int (iz 0)), some (.int (iz r_2)), some (.int (iz 2)), some (.int (iz r_44))]) (st' := []) (h' := cmH (u1 (u1 z 21 K) 22 pi) zl (uf (uf (uf (uf f 5 va) 10 pp) 11 li) 12 ty) fl tx) rfl ?_
                  refine Rx.walk 4 (pc' := 20) (L' := [some (.ref 0), some (.int (iz due)), some (.int (iz l)), some (.int (iz 0)), some (.int (iz r_2)), some (.int (iz 2)), some (.int (iz r_44))]) (st' := [.int (iz pi), .int (iz 2)]) (h' := cmH (u1 (u1 z 21 K) 22 pi) zl (uf (uf (uf (uf f 5 va) 10 pp) 11 li) 12 ty) fl tx) rfl ?_
                  refine Rx.ge2 rfl rfl ⟨by omega, by omega⟩ ⟨by omega, by omega⟩ (fun b60 => ?_) (fun b60 => by omega)
                  exact hx0 _ _ _ _ (by unfold bkS; have hw0 := hw.1; exact ⟨by omega, by omega⟩) ⟨by omega, by omega⟩
set_option maxRecDepth 100000 in
set_option maxHeartbeats 4000000 in
theorem m_gback_t (d : Nat) (z : Nat → Int) (zl : Nat → Int) (f : Nat → Int → Int) (fl : Nat → Int → Int) (tx : Nat)  (due : Int) (l : Int) (p0 : Int) (p1 : Int) (t : Int) (fr0 : Int) (kd0 : Int) (pp : Int → Int) (li : Int → Int) (ty : Int → Int) (K : Int) (pi : Int) (va : Int → Int) (w : Int → Int) (w6 : Option Value) (hw : wOK w) (hva : ∀ k : Int, 0 ≤ k → k < K → va k = w (k + 1)) (hK : 1 ≤ K ∧ K ≤ 4) (hpi : pi = 1 ∨ pi = 2) (hM : mtI K pp li ty p0 p1 t) (hl : 1 ≤ l ∧ l ≤ 10000) (hS : bkS w p0 p1 l fr0 kd0) (hk0 : -1 ≤ kd0 ∧ kd0 < K) (P : Option Value → AmH → Prop) (hx0 : ∀ (fr' : Int) (kd' : Int) (x5' : Option Value), (bkT w p0 p1 t l fr' kd') → (-1 ≤ kd' ∧ kd' < K) → Rx (d) m_X12_givesBack 138 [some (.ref 0), some (.int (iz due)), some (.int (iz l)), some (.int (iz fr')), some (.int (iz kd')), x5', w6] [] (cmH (u1 (u1 z 21 K) 22 pi) zl (uf (uf (uf (uf f 5 va) 10 pp) 11 li) 12 ty) fl tx) P) : ∀ (kF : Nat) (k : Int) (fr : Int) (kd : Int), (0 ≤ k ∧ k ≤ K) → (-1 ≤ kd ∧ kd < K) → ((1 ≤ t ∧ t ≤ k ∧ w t ≤ l ∧ kd0 < t - 1 ∧ kd = t - 1 ∧ fr = 2) ∨ (¬ (1 ≤ t ∧ t ≤ k ∧ w t ≤ l ∧ kd0 < t - 1) ∧ kd = kd0 ∧ fr = fr0)) → (K - k) < (kF : Int) → Rx (d) m_X12_givesBack 80 [some (.ref 0), some (.int (iz due)), some (.int (iz l)), some (.int (iz fr)), some (.int (iz kd)), some (.int (iz k)), w6] [] (cmH (u1 (u1 z 21 K) 22 pi) zl (uf (uf (uf (uf f 5 va) 10 pp) 11 li) 12 ty) fl tx) P := by
  obtain ⟨⟨hm1, hm2, hm3⟩, ⟨hm4, hm5, hm6⟩, hm7, hm8, hm9⟩ := mtI_b hM
  intro kF
  induction kF with
  | zero =>
    intro k fr kd hk hkd hI hk
    exfalso; omega
  | succ kF ih =>
    intro k fr kd hk hkd hI hk
    refine Rx.walk 3 (pc' := 86) (L' := [some (.ref 0), some (.int (iz due)), some (.int (iz l)), some (.int (iz fr)), some (.int (iz kd)), some (.int (iz k)), w6]) (st' := [.int (iz K), .int (iz k)]) (h' := cmH (u1 (u1 z 21 K) 22 pi) zl (uf (uf (uf (uf f 5 va) 10 pp) 11 li) 12 ty) fl tx) rfl ?_
    refine Rx.ge2 rfl rfl ⟨by omega, by omega⟩ ⟨by omega, by omega⟩ (fun b1 => ?_) (fun b1 => ?_)
    · exact hx0 _ _ _ (by have hf := bkF_c w t l; have hw0 := hw.1; have q := hS; unfold bkS at q; unfold bkT bkG; rcases (show t = 0 ∨ 1 ≤ t by omega) with z | z; (subst z; omega); omega) ⟨by omega, by omega⟩
    · refine Rx.walk 3 (pc' := 95) (L' := [some (.ref 0), some (.int (iz due)), some (.int (iz l)), some (.int (iz fr)), some (.int (iz kd)), some (.int (iz k)), w6]) (st' := [.int (iz k), .ref 12]) (h' := cmH (u1 (u1 z 21 K) 22 pi) zl (uf (uf (uf (uf f 5 va) 10 pp) 11 li) 12 ty) fl tx) rfl ?_
      refine Rx.ial (g := ty) rfl rfl (by omega) (by omega) (by omega) ?_
      have hty := mtI_ty hM (k := k) (by omega) (by omega)
      refine Rx.eq1 rfl rfl ⟨by omega, by omega⟩ (fun b2 => ?_) (fun b2 => ?_)
      · refine Rx.iinc (b := 1) rfl rfl rfl ?_
        refine Rx.walk 0 (pc' := 135) (L' := [some (.ref 0), some (.int (iz due)), some (.int (iz l)), some (.int (iz fr)), some (.int (iz kd)), some (.int (iz (k + 1))), w6]) (st' := []) (h' := cmH (u1 (u1 z 21 K) 22 pi) zl (uf (uf (uf (uf f 5 va) 10 pp) 11 li) 12 ty) fl tx) rfl ?_
        refine Rx.walk 1 (pc' := 80) (L' := [some (.ref 0), some (.int (iz due)), some (.int (iz l)), some (.int (iz fr)), some (.int (iz kd)), some (.int (iz (k + 1))), w6]) (st' := []) (h' := cmH (u1 (u1 z 21 K) 22 pi) zl (uf (uf (uf (uf f 5 va) 10 pp) 11 li) 12 ty) fl tx) rfl ?_
        exact ih (k + 1) fr kd ⟨by omega, by omega⟩ ⟨by omega, by omega⟩ (by first | omega | (rw [← hx]; omega)) (by omega) 
      · refine Rx.walk 3 (pc' := 105) (L' := [some (.ref 0), some (.int (iz due)), some (.int (iz l)), some (.int (iz fr)), some (.int (iz kd)), some (.int (iz k)), w6]) (st' := [.int (iz k), .ref 5]) (h' := cmH (u1 (u1 z 21 K) 22 pi) zl (uf (uf (uf (uf f 5 va) 10 pp) 11 li) 12 ty) fl tx) rfl ?_
        refine Rx.ial (g := va) rfl rfl (by omega) (by omega) (by omega) ?_
        have hx := hva k (by omega) (by omega)
        have hy := hw.2 (k + 1) (by omega) (by omega)
        rw [← hx] at hy
        obtain rfl : t = k + 1 := by omega
        rw [← hx] at hI
        refine Rx.walk 1 (pc' := 107) (L' := [some (.ref 0), some (.int (iz due)), some (.int (iz l)), some (.int (iz fr)), some (.int (iz kd)), some (.int (iz k)), w6]) (st' := [.int (iz l), .int (iz (va k))]) (h' := cmH (u1 (u1 z 21 K) 22 pi) zl (uf (uf (uf (uf f 5 va) 10 pp) 11 li) 12 ty) fl tx) rfl ?_
        refine Rx.gt2 rfl rfl ⟨by omega, by omega⟩ ⟨by omega, by omega⟩ (fun b3 => ?_) (fun b3 => ?_)
        · refine Rx.iinc (b := 1) rfl rfl rfl ?_
          refine Rx.walk 0 (pc' := 135) (L' := [some (.ref 0), some (.int (iz due)), some (.int (iz l)), some (.int (iz fr)), some (.int (iz kd)), some (.int (iz (k + 1))), w6]) (st' := []) (h' := cmH (u1 (u1 z 21 K) 22 pi) zl (uf (uf (uf (uf f 5 va) 10 pp) 11 li) 12 ty) fl tx) rfl ?_
          refine Rx.walk 1 (pc' := 80) (L' := [some (.ref 0), some (.int (iz due)), some (.int (iz l)), some (.int (iz fr)), some (.int (iz kd)), some (.int (iz (k + 1))), w6]) (st' := []) (h' := cmH (u1 (u1 z 21 K) 22 pi) zl (uf (uf (uf (uf f 5 va) 10 pp) 11 li) 12 ty) fl tx) rfl ?_
          exact ih (k + 1) fr kd ⟨by omega, by omega⟩ ⟨by omega, by omega⟩ (by first | omega | (rw [← hx]; omega)) (by omega) 
        · refine Rx.walk 2 (pc' := 113) (L' := [some (.ref 0), some (.int (iz due)), some (.int (iz l)), some (.int (iz fr)), some (.int (iz kd)), some (.int (iz k)), w6]) (st' := [.int (iz (-1)), .int (iz kd)]) (h' := cmH (u1 (u1 z 21 K) 22 pi) zl (uf (uf (uf (uf f 5 va) 10 pp) 11 li) 12 ty) fl tx) rfl ?_
          refine Rx.eq2 rfl rfl ⟨by omega, by omega⟩ ⟨by omega, by omega⟩ (fun b4 => ?_) (fun b4 => ?_)
          · refine Rx.walk 4 (pc' := 132) (L' := [some (.ref 0), some (.int (iz due)), some (.int (iz l)), some (.int (iz 2)), some (.int (iz k)), some (.int (iz k)), w6]) (st' := []) (h' := cmH (u1 (u1 z 21 K) 22 pi) zl (uf (uf (uf (uf f 5 va) 10 pp) 11 li) 12 ty) fl tx) rfl ?_
            refine Rx.iinc (b := 1) rfl rfl rfl ?_
            refine Rx.walk 0 (pc' := 135) (L' := [some (.ref 0), some (.int (iz due)), some (.int (iz l)), some (.int (iz 2)), some (.int (iz k)), some (.int (iz (k + 1))), w6]) (st' := []) (h' := cmH (u1 (u1 z 21 K) 22 pi) zl (uf (uf (uf (uf f 5 va) 10 pp) 11 li) 12 ty) fl tx) rfl ?_
            refine Rx.walk 1 (pc' := 80) (L' := [some (.ref 0), some (.int (iz due)), some (.int (iz l)), some (.int (iz 2)), some (.int (iz k)), some (.int (iz (k + 1))), w6]) (st' := []) (h' := cmH (u1 (u1 z 21 K) 22 pi) zl (uf (uf (uf (uf f 5 va) 10 pp) 11 li) 12 ty) fl tx) rfl ?_
            exact ih (k + 1) 2 k ⟨by omega, by omega⟩ ⟨by omega, by omega⟩ (by first | omega | (rw [← hx]; omega)) (by omega) 
          · refine Rx.walk 2 (pc' := 120) (L' := [some (.ref 0), some (.int (iz due)), some (.int (iz l)), some (.int (iz fr)), some (.int (iz kd)), some (.int (iz k)), w6]) (st' := [.int (iz kd), .int (iz k)]) (h' := cmH (u1 (u1 z 21 K) 22 pi) zl (uf (uf (uf (uf f 5 va) 10 pp) 11 li) 12 ty) fl tx) rfl ?_
            refine Rx.gt2 rfl rfl ⟨by omega, by omega⟩ ⟨by omega, by omega⟩ (fun b5 => ?_) (fun b5 => ?_)
            · refine Rx.walk 4 (pc' := 132) (L' := [some (.ref 0), some (.int (iz due)), some (.int (iz l)), some (.int (iz 2)), some (.int (iz k)), some (.int (iz k)), w6]) (st' := []) (h' := cmH (u1 (u1 z 21 K) 22 pi) zl (uf (uf (uf (uf f 5 va) 10 pp) 11 li) 12 ty) fl tx) rfl ?_
              refine Rx.iinc (b := 1) rfl rfl rfl ?_
              refine Rx.walk 0 (pc' := 135) (L' := [some (.ref 0), some (.int (iz due)), some (.int (iz l)), some (.int (iz 2)), some (.int (iz k)), some (.int (iz (k + 1))), w6]) (st' := []) (h' := cmH (u1 (u1 z 21 K) 22 pi) zl (uf (uf (uf (uf f 5 va) 10 pp) 11 li) 12 ty) fl tx) rfl ?_
              refine Rx.walk 1 (pc' := 80) (L' := [some (.ref 0), some (.int (iz due)), some (.int (iz l)), some (.int (iz 2)), some (.int (iz k)), some (.int (iz (k + 1))), w6]) (st' := []) (h' := cmH (u1 (u1 z 21 K) 22 pi) zl (uf (uf (uf (uf f 5 va) 10 pp) 11 li) 12 ty) fl tx) rfl ?_
              exact ih (k + 1) 2 k ⟨by omega, by omega⟩ ⟨by omega, by omega⟩ (by first | omega | (rw [← hx]; omega)) (by omega) 
            · refine Rx.walk 1 (pc' := 132) (L' := [some (.ref 0), some (.int (iz due)), some (.int (iz l)), some (.int (iz fr)), some (.int (iz kd)), some (.int (iz k)), w6]) (st' := []) (h' := cmH (u1 (u1 z 21 K) 22 pi) zl (uf (uf (uf (uf f 5 va) 10 pp) 11 li) 12 ty) fl tx) rfl ?_
              refine Rx.iinc (b := 1) rfl rfl rfl ?_
              refine Rx.walk 0 (pc' := 135) (L' := [some (.ref 0), some (.int (iz due)), some (.int (iz l)), some (.int (iz fr)), some (.int (iz kd)), some (.int (iz (k + 1))), w6]) (st' := []) (h' := cmH (u1 (u1 z 21 K) 22 pi) zl (uf (uf (uf (uf f 5 va) 10 pp) 11 li) 12 ty) fl tx) rfl ?_
              refine Rx.walk 1 (pc' := 80) (L' := [some (.ref 0), some (.int (iz due)), some (.int (iz l)), some (.int (iz fr)), some (.int (iz kd)), some (.int (iz (k + 1))), w6]) (st' := []) (h' := cmH (u1 (u1 z 21 K) 22 pi) zl (uf (uf (uf (uf f 5 va) 10 pp) 11 li) 12 ty) fl tx) rfl ?_
              exact ih (k + 1) fr kd ⟨by omega, by omega⟩ ⟨by omega, by omega⟩ (by first | omega | (rw [← hx]; omega)) (by omega) 
set_option maxRecDepth 100000 in
set_option maxHeartbeats 4000000 in
theorem m_gback_l (d : Nat) (z : Nat → Int) (zl : Nat → Int) (f : Nat → Int → Int) (fl : Nat → Int → Int) (tx : Nat)  (due : Int) (pp : Int → Int) (K : Int) (pi : Int) (va : Int → Int) (w : Int → Int) (Rz : Int × Int × Int × Int) (hw : wOK w) (hva : ∀ k : Int, 0 ≤ k → k < K → va k = w (k + 1)) (hK : 1 ≤ K ∧ K ≤ 4) (hpi : pi = 1 ∨ pi = 2) (P : Option Value → AmH → Prop) (hx0 : ∀ (r : Int) (li' : Int → Int) (ty' : Int → Int), (r = Rz.1 ∧ mtI K pp li' ty' Rz.2.1 Rz.2.2.1 Rz.2.2.2) → (r = 0 ∨ r = 1) → (pi = 1 → Rz.2.2.1 = 0) → P (some (.int (iz r))) (cmH (u1 (u1 z 21 K) 22 pi) zl (uf (uf (uf (uf f 5 va) 10 pp) 11 li') 12 ty') fl tx)) : ∀ (kF : Nat) (l : Int) (p0 : Int) (p1 : Int) (t : Int) (li : Int → Int) (ty : Int → Int) (k : Nat) (w3 : Option Value) (w4 : Option Value) (w5 : Option Value) (w6 : Option Value), (mtI K pp li ty p0 p1 t) → (0 ≤ l ∧ l ≤ 10000) → (pi = 1 → p1 = 0) → (ht p0 + ht p1 + (if t = 0 then 0 else 1) ≤ (k : Int)) → (Rz = hbk w k p0 p1 t l) → (k : Int) < (kF : Int) → Rx (d + 1) m_X12_givesBack 2 [some (.ref 0), some (.int (iz due)), some (.int (iz l)), w3, w4, w5, w6] [] (cmH (u1 (u1 z 21 K) 22 pi) zl (uf (uf (uf (uf f 5 va) 10 pp) 11 li) 12 ty) fl tx) P := by
  intro kF
  induction kF with
  | zero =>
    intro l p0 p1 t li ty k w3 w4 w5 w6 hM hl h1p hk hH hk
    exfalso; omega
  | succ kF ih =>
    intro l p0 p1 t li ty k w3 w4 w5 w6 hM hl h1p hk hH hk
    obtain ⟨⟨hm1, hm2, hm3⟩, ⟨hm4, hm5, hm6⟩, hm7, hm8, hm9⟩ := mtI_b hM
    refine Rx.walk 1 (pc' := 3) (L' := [some (.ref 0), some (.int (iz due)), some (.int (iz l)), w3, w4, w5, w6]) (st' := [.int (iz l)]) (h' := cmH (u1 (u1 z 21 K) 22 pi) zl (uf (uf (uf (uf f 5 va) 10 pp) 11 li) 12 ty) fl tx) rfl ?_
    refine Rx.le1 rfl rfl ⟨by omega, by omega⟩ (fun b1 => ?_) (fun b1 => ?_)
    · refine Rx.walk 1 (pc' := 189) (L' := [some (.ref 0), some (.int (iz due)), some (.int (iz l)), w3, w4, w5, w6]) (st' := [.int (iz 1)]) (h' := cmH (u1 (u1 z 21 K) 22 pi) zl (uf (uf (uf (uf f 5 va) 10 pp) 11 li) 12 ty) fl tx) rfl ?_
      refine Rx.ret rfl ?_
      exact hx0 _ _ _ (by rw [hbk_0 (by omega)] at hH; rw [hH]; exact ⟨rfl, hM⟩) (Or.inr rfl) (by rw [hbk_0 (by omega)] at hH; rw [hH]; exact h1p)
    · refine m_gback_p _ (u1 (u1 z 21 K) 22 pi) zl (uf (uf (uf (uf f 5 va) 10 pp) 11 li) 12 ty) fl tx  due l p0 p1 t pp li ty K pi va w w3 w4 w5 w6 hw hva hK hpi hM ⟨by omega, by omega⟩ h1p _ ?_ (0 + 1 : Int).toNat   (by omega) 
      intro fr_2 kd_3 x5_4 x6_5 f6 f7
      refine Rx.walk 0 (pc' := 77) (L' := [some (.ref 0), some (.int (iz due)), some (.int (iz l)), some (.int (iz fr_2)), some (.int (iz kd_3)), x5_4, x6_5]) (st' := []) (h' := cmH (u1 (u1 z 21 K) 22 pi) zl (uf (uf (uf (uf f 5 va) 10 pp) 11 li) 12 ty) fl tx) rfl ?_
      refine Rx.walk 2 (pc' := 80) (L' := [some (.ref 0), some (.int (iz due)), some (.int (iz l)), some (.int (iz fr_2)), some (.int (iz kd_3)), some (.int (iz 0)), x6_5]) (st' := []) (h' := cmH (u1 (u1 z 21 K) 22 pi) zl (uf (uf (uf (uf f 5 va) 10 pp) 11 li) 12 ty) fl tx) rfl ?_
      refine m_gback_t _ (u1 (u1 z 21 K) 22 pi) zl (uf (uf (uf (uf f 5 va) 10 pp) 11 li) 12 ty) fl tx  due l p0 p1 t fr_2 kd_3 pp li ty K pi va w x6_5 hw hva hK hpi hM ⟨by omega, by omega⟩ f6 f7 _ ?_ ((K - 0) + 1 : Int).toNat 0 fr_2 kd_3 ⟨by omega, by omega⟩ f7 (Or.inr ⟨by omega, rfl, rfl⟩) (by omega) 
      intro fr_8 kd_9 x5_10 f11 f12
      refine Rx.walk 0 (pc' := 138) (L' := [some (.ref 0), some (.int (iz due)), some (.int (iz l)), some (.int (iz fr_8)), some (.int (iz kd_9)), x5_10, x6_5]) (st' := []) (h' := cmH (u1 (u1 z 21 K) 22 pi) zl (uf (uf (uf (uf f 5 va) 10 pp) 11 li) 12 ty) fl tx) rfl ?_
      refine Rx.walk 2 (pc' := 141) (L' := [some (.ref 0), some (.int (iz due)), some (.int (iz l)), some (.int (iz fr_8)), some (.int (iz kd_9)), x5_10, x6_5]) (st' := [.int (iz (-1)), .int (iz kd_9)]) (h' := cmH (u1 (u1 z 21 K) 22 pi) zl (uf (uf (uf (uf f 5 va) 10 pp) 11 li) 12 ty) fl tx) rfl ?_
      refine Rx.ne2 rfl rfl ⟨by omega, by omega⟩ ⟨by omega, by omega⟩ (fun b13 => ?_) (fun b13 => ?_)
      · obtain ⟨hT1, hT2⟩ : bkT w p0 p1 t l fr_8 kd_9 := f11
        have hgn : bkG w p0 p1 t l ≠ 0 := by omega
        have hgw := bkG_w (w := w) (l := l) hm1 hm4 hm7 (by omega) hgn
        have hx := hva kd_9 (by omega) (by omega)
        have hy := hw.2 (kd_9 + 1) (by omega) (by omega)
        rw [← hx] at hy
        have hxx : va kd_9 = w (bkG w p0 p1 t l) := by rw [hx, hT1]
        have hd0 := ht_div (p := p0)
        have hd1 := ht_div (p := p1)
        have hf0 := bkF_c w (p0 % 5) l
        have hf1 := bkF_c w (p1 % 5) l
        have hc0 := ht_c p0
        have hc1 := ht_c p1
        obtain ⟨k, rfl⟩ : ∃ k2 : Nat, k = k2 + 1 := ⟨k - 1, by rcases hT2 with z | z | z | z; (exfalso; omega); (have : p0 ≠ 0 := (fun y => by rw [y] at hf0; have := hw.1; omega); split at hk <;> omega); (have : p1 ≠ 0 := (fun y => by rw [y] at hf1; have := hw.1; omega); split at hk <;> omega); (rw [if_neg (by omega)] at hk; omega)⟩
        refine Rx.walk 4 (pc' := 153) (L' := [some (.ref 0), some (.int (iz due)), some (.int (iz l)), some (.int (iz fr_8)), some (.int (iz kd_9)), x5_10, x6_5]) (st' := [.int (iz kd_9), .ref 5, .int (iz l)]) (h' := cmH (u1 (u1 z 21 K) 22 pi) zl (uf (uf (uf (uf f 5 va) 10 pp) 11 li) 12 ty) fl tx) rfl ?_
        refine Rx.ial (g := va) rfl rfl (by omega) (by omega) (by omega) ?_
        refine Rx.isub rfl ?_
        refine Rx.walk 3 (pc' := 158) (L' := [some (.ref 0), some (.int (iz due)), some (.int (iz (l - (va kd_9)))), some (.int (iz fr_8)), some (.int (iz kd_9)), x5_10, x6_5]) (st' := [.int (iz 2), .int (iz fr_8)]) (h' := cmH (u1 (u1 z 21 K) 22 pi) zl (uf (uf (uf (uf f 5 va) 10 pp) 11 li) 12 ty) fl tx) rfl ?_
        refine Rx.ne2 rfl rfl ⟨by omega, by omega⟩ ⟨by omega, by omega⟩ (fun b14 => ?_) (fun b14 => ?_)
        · refine Rx.walk 4 (pc' := 181) (L' := [some (.ref 0), some (.int (iz due)), some (.int (iz (l - (va kd_9)))), some (.int (iz fr_8)), some (.int (iz kd_9)), x5_10, x6_5]) (st' := [.int (iz fr_8), .ref 11, .int (iz fr_8), .ref 11]) (h' := cmH (u1 (u1 z 21 K) 22 pi) zl (uf (uf (uf (uf f 5 va) 10 pp) 11 li) 12 ty) fl tx) rfl ?_
          refine Rx.ial (g := li) rfl rfl (by omega) (by omega) (by omega) ?_
          refine Rx.walk 1 (pc' := 183) (L' := [some (.ref 0), some (.int (iz due)), some (.int (iz (l - (va kd_9)))), some (.int (iz fr_8)), some (.int (iz kd_9)), x5_10, x6_5]) (st' := [.int (iz 1), .int (iz (li fr_8)), .int (iz fr_8), .ref 11]) (h' := cmH (u1 (u1 z 21 K) 22 pi) zl (uf (uf (uf (uf f 5 va) 10 pp) 11 li) 12 ty) fl tx) rfl ?_
          refine Rx.isub rfl ?_
          refine Rx.ias (g := li) (h' := cmH (u1 (u1 z 21 K) 22 pi) zl (uf (uf (uf (uf f 5 va) 10 pp) 11 (iu li fr_8 ((li fr_8) - 1))) 12 ty) fl tx) rfl rfl (by omega) (by omega) (by omega) rfl ?_
          refine Rx.walk 1 (pc' := 2) (L' := [some (.ref 0), some (.int (iz due)), some (.int (iz (l - (va kd_9)))), some (.int (iz fr_8)), some (.int (iz kd_9)), x5_10, x6_5]) (st' := []) (h' := cmH (u1 (u1 z 21 K) 22 pi) zl (uf (uf (uf (uf f 5 va) 10 pp) 11 (iu li fr_8 ((li fr_8) - 1))) 12 ty) fl tx) rfl ?_
          exact ih (l - (va kd_9)) (if fr_8 = 0 then p0 / 5 else p0) (if fr_8 = 0 then p1 else p1 / 5) t (iu li fr_8 ((li fr_8) - 1)) ty k (some (.int (iz fr_8))) (some (.int (iz kd_9))) x5_10 x6_5 (by rcases hT2 with z | z | z | z; (exfalso; omega); (obtain ⟨z1, z2, z3⟩ := z; rw [z2]; have hn0 : 1 ≤ p0 := (by have := hw.1; rcases (show p0 = 0 ∨ 1 ≤ p0 by omega) with y | y; (subst y; exfalso; rw [show (0 : Int) % 5 = 0 by decide] at hf0 z3; omega); exact y); rw [if_pos rfl, if_pos rfl]; exact mtI_pop0 hM (by omega)); (obtain ⟨z1, z2, z3, z4⟩ := z; rw [z2]; have hn1 : 1 ≤ p1 := (by have := hw.1; rcases (show p1 = 0 ∨ 1 ≤ p1 by omega) with y | y; (subst y; exfalso; rw [show (0 : Int) % 5 = 0 by decide] at hf1 z4; omega); exact y); rw [if_neg (by decide), if_neg (by decide)]; exact mtI_pop1 hM (by omega)); (exfalso; omega)) ⟨by omega, by omega⟩ (by rcases hT2 with z | z | z | z; (exfalso; omega); (obtain ⟨z1, z2, z3⟩ := z; rw [z2]; rw [if_pos rfl]; exact h1p); (obtain ⟨z1, z2, z3, z4⟩ := z; rw [z2]; rw [if_neg (by decide)]; exact fun y => by rw [h1p y]; rfl); (exfalso; omega)) (by rcases hT2 with z | z | z | z; (exfalso; omega); (obtain ⟨z1, z2, z3⟩ := z; rw [z2]; have hn0 : 1 ≤ p0 := (by have := hw.1; rcases (show p0 = 0 ∨ 1 ≤ p0 by omega) with y | y; (subst y; exfalso; rw [show (0 : Int) % 5 = 0 by decide] at hf0 z3; omega); exact y); rw [if_pos rfl, if_pos rfl]; have := hd0 hn0 hm2; omega); (obtain ⟨z1, z2, z3, z4⟩ := z; rw [z2]; have hn1 : 1 ≤ p1 := (by have := hw.1; rcases (show p1 = 0 ∨ 1 ≤ p1 by omega) with y | y; (subst y; exfalso; rw [show (0 : Int) % 5 = 0 by decide] at hf1 z4; omega); exact y); rw [if_neg (by decide), if_neg (by decide)]; have := hd1 hn1 hm5; omega); (exfalso; omega)) (by rcases hT2 with z | z | z | z; (exfalso; omega); (obtain ⟨z1, z2, z3⟩ := z; rw [z2]; rw [if_pos rfl, if_pos rfl, hxx, ← hbk_a (by omega) hgn (by omega)]; exact hH); (obtain ⟨z1, z2, z3, z4⟩ := z; rw [z2]; rw [if_neg (by decide), if_neg (by decide), hxx, ← hbk_b (by omega) hgn (by omega) (by omega)]; exact hH); (exfalso; omega)) (by omega) 
        · refine Rx.walk 4 (pc' := 168) (L' := [some (.ref 0), some (.int (iz due)), some (.int (iz (l - (va kd_9)))), some (.int (iz fr_8)), some (.int (iz kd_9)), x5_10, x6_5]) (st' := [.int (iz kd_9), .ref 12, .int (iz kd_9), .ref 12]) (h' := cmH (u1 (u1 z 21 K) 22 pi) zl (uf (uf (uf (uf f 5 va) 10 pp) 11 li) 12 ty) fl tx) rfl ?_
          refine Rx.ial (g := ty) rfl rfl (by omega) (by omega) (by omega) ?_
          have htx := mtI_ty hM (k := kd_9) (by omega) (by omega)
          refine Rx.walk 1 (pc' := 170) (L' := [some (.ref 0), some (.int (iz due)), some (.int (iz (l - (va kd_9)))), some (.int (iz fr_8)), some (.int (iz kd_9)), x5_10, x6_5]) (st' := [.int (iz 1), .int (iz (ty kd_9)), .int (iz kd_9), .ref 12]) (h' := cmH (u1 (u1 z 21 K) 22 pi) zl (uf (uf (uf (uf f 5 va) 10 pp) 11 li) 12 ty) fl tx) rfl ?_
          refine Rx.isub rfl ?_
          refine Rx.ias (g := ty) (h' := cmH (u1 (u1 z 21 K) 22 pi) zl (uf (uf (uf (uf f 5 va) 10 pp) 11 li) 12 (iu ty kd_9 ((ty kd_9) - 1))) fl tx) rfl rfl (by omega) (by omega) (by omega) rfl ?_
          refine Rx.walk 2 (pc' := 2) (L' := [some (.ref 0), some (.int (iz due)), some (.int (iz (l - (va kd_9)))), some (.int (iz fr_8)), some (.int (iz kd_9)), x5_10, x6_5]) (st' := []) (h' := cmH (u1 (u1 z 21 K) 22 pi) zl (uf (uf (uf (uf f 5 va) 10 pp) 11 li) 12 (iu ty kd_9 ((ty kd_9) - 1))) fl tx) rfl ?_
          exact ih (l - (va kd_9)) p0 p1 0 li (iu ty kd_9 ((ty kd_9) - 1)) k (some (.int (iz fr_8))) (some (.int (iz kd_9))) x5_10 x6_5 (by have q := mtI_tray (k := kd_9) (x := ty kd_9 - 1) hM (by omega) (by omega) (Or.inr ⟨(show t = kd_9 + 1 by rcases hT2 with z | z | z | z; (exfalso; omega); (exfalso; omega); (exfalso; omega); exact z.2.2.2.2), by have := mtI_ty hM (k := kd_9) (by omega) (by omega); have := (show t = kd_9 + 1 by rcases hT2 with z | z | z | z; (exfalso; omega); (exfalso; omega); (exfalso; omega); exact z.2.2.2.2); omega⟩); rw [if_neg (by have := mtI_ty hM (k := kd_9) (by omega) (by omega); have := (show t = kd_9 + 1 by rcases hT2 with z | z | z | z; (exfalso; omega); (exfalso; omega); (exfalso; omega); exact z.2.2.2.2); omega)] at q; exact q) ⟨by omega, by omega⟩ h1p (by have := (show t = kd_9 + 1 by rcases hT2 with z | z | z | z; (exfalso; omega); (exfalso; omega); (exfalso; omega); exact z.2.2.2.2); rw [if_neg (by omega)] at hk; rw [if_pos rfl]; omega) (by rw [hxx, ← hbk_c (by omega) hgn (by omega) (by omega)]; exact hH) (by omega) 
      · refine Rx.walk 1 (pc' := 145) (L' := [some (.ref 0), some (.int (iz due)), some (.int (iz l)), some (.int (iz fr_8)), some (.int (iz kd_9)), x5_10, x6_5]) (st' := [.int (iz 0)]) (h' := cmH (u1 (u1 z 21 K) 22 pi) zl (uf (uf (uf (uf f 5 va) 10 pp) 11 li) 12 ty) fl tx) rfl ?_
        refine Rx.ret rfl ?_
        exact hx0 _ _ _ (by have hg : bkG w p0 p1 t l = 0 := (by have := (f11).1; omega); have hh : Rz = (0, p0, p1, t) := (by cases k with | zero => (rw [hH, hbk_z (by omega)]) | succ k => (rw [hH, hbk_f (by omega) hg])); rw [hh]; exact ⟨rfl, hM⟩) (Or.inl rfl) (by have hg : bkG w p0 p1 t l = 0 := (by have := (f11).1; omega); have hh : Rz = (0, p0, p1, t) := (by cases k with | zero => (rw [hH, hbk_z (by omega)]) | succ k => (rw [hH, hbk_f (by omega) hg])); rw [hh]; exact h1p)
set_option maxRecDepth 100000 in
set_option maxHeartbeats 4000000 in
theorem m_gback (d : Nat) (z : Nat → Int) (zl : Nat → Int) (f : Nat → Int → Int) (fl : Nat → Int → Int) (tx : Nat)  (due : Int) (p0 : Int) (p1 : Int) (t : Int) (pp : Int → Int) (li : Int → Int) (ty : Int → Int) (K : Int) (pi : Int) (va : Int → Int) (w : Int → Int) (hw : wOK w) (hva : ∀ k : Int, 0 ≤ k → k < K → va k = w (k + 1)) (hK : 1 ≤ K ∧ K ≤ 4) (hpi : pi = 1 ∨ pi = 2) (hM : mtI K pp li ty p0 p1 t) (hl : 0 ≤ due ∧ due ≤ 10000) (h1p : pi = 1 → p1 = 0) : Rx (d + 1) m_X12_givesBack 0 (am_ent [.ref 0, .int (iz due)] 7) [] (cmH (u1 (u1 z 21 K) 22 pi) zl (uf (uf (uf (uf f 5 va) 10 pp) 11 li) 12 ty) fl tx) (fun rv h => ∃ r : Int, ∃ li' : Int → Int, ∃ ty' : Int → Int, rv = some (.int (iz r)) ∧ h = cmH (u1 (u1 z 21 K) 22 pi) zl (uf (uf (uf (uf f 5 va) 10 pp) 11 li') 12 ty') fl tx ∧ (r = (hbk w 11 p0 p1 t due).1 ∧ mtI K pp li' ty' (hbk w 11 p0 p1 t due).2.1 (hbk w 11 p0 p1 t due).2.2.1 (hbk w 11 p0 p1 t due).2.2.2) ∧ (r = 0 ∨ r = 1) ∧ (pi = 1 → (hbk w 11 p0 p1 t due).2.2.1 = 0)) := by
  obtain ⟨⟨hm1, hm2, hm3⟩, ⟨hm4, hm5, hm6⟩, hm7, hm8, hm9⟩ := mtI_b hM
  refine Rx.walk 0 (pc' := 0) (L' := [some (.ref 0), some (.int (iz due)), none, none, none, none, none]) (st' := []) (h' := cmH (u1 (u1 z 21 K) 22 pi) zl (uf (uf (uf (uf f 5 va) 10 pp) 11 li) 12 ty) fl tx) rfl ?_
  refine Rx.walk 2 (pc' := 2) (L' := [some (.ref 0), some (.int (iz due)), some (.int (iz due)), none, none, none, none]) (st' := []) (h' := cmH (u1 (u1 z 21 K) 22 pi) zl (uf (uf (uf (uf f 5 va) 10 pp) 11 li) 12 ty) fl tx) rfl ?_
  refine m_gback_l _ (u1 (u1 z 21 K) 22 pi) zl (uf (uf (uf (uf f 5 va) 10 pp) 11 li) 12 ty) fl tx  due pp K pi va w (hbk w 11 p0 p1 t due) hw hva hK hpi _ ?_ ((11 : Int) + 1 : Int).toNat due p0 p1 t li ty 11 none none none none hM hl h1p (by have := ht_c p0; have := ht_c p1; split <;> omega) rfl (by omega) 
  intro r_1 li_2 ty_3 f4 f5 f6
  show (fun (rv : Option Value) (h : AmH) => ∃ r : Int, ∃ li' : Int → Int, ∃ ty' : Int → Int, rv = some (.int (iz r)) ∧ h = cmH (u1 (u1 z 21 K) 22 pi) zl (uf (uf (uf (uf f 5 va) 10 pp) 11 li') 12 ty') fl tx ∧ (r = (hbk w 11 p0 p1 t due).1 ∧ mtI K pp li' ty' (hbk w 11 p0 p1 t due).2.1 (hbk w 11 p0 p1 t due).2.2.1 (hbk w 11 p0 p1 t due).2.2.2) ∧ (r = 0 ∨ r = 1) ∧ (pi = 1 → (hbk w 11 p0 p1 t due).2.2.1 = 0)) (some (Value.int (iz r_1))) (cmH (u1 (u1 z 21 K) 22 pi) zl (uf (uf (uf (uf f 5 va) 10 pp) 11 li_2) 12 ty_3) fl tx)
  exact ⟨_, _, _, rfl, rfl, f4, f5, f6⟩

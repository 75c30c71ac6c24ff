/-! the baker of the model: coins handed back (printed by wip/whole/genmbk.py) -/
theorem bkF_0 {w : Int → Int} (hw : wOK w) {l : Int} : bkF w 0 l = 0 := by unfold bkF; split <;> rfl
/-- where the greatest lies that fits: 0, 1 the pipes, 2 the tray -/
def bkS (w : Int → Int) (p0 p1 l fr kd : Int) : Prop := kd + 1 = max (bkF w (p0 % 5) l) (bkF w (p1 % 5) l) ∧ ((kd = -1 ∧ fr = -1) ∨ (kd ≠ -1 ∧ fr = 0 ∧ bkF w (p0 % 5) l = kd + 1) ∨ (kd ≠ -1 ∧ fr = 1 ∧ bkF w (p0 % 5) l ≠ kd + 1 ∧ bkF w (p1 % 5) l = kd + 1))
def bkT (w : Int → Int) (p0 p1 t l fr kd : Int) : Prop := kd + 1 = bkG w p0 p1 t l ∧ ((kd = -1) ∨ (kd ≠ -1 ∧ fr = 0 ∧ bkF w (p0 % 5) l = kd + 1) ∨ (kd ≠ -1 ∧ fr = 1 ∧ bkF w (p0 % 5) l ≠ kd + 1 ∧ bkF w (p1 % 5) l = kd + 1) ∨ (kd ≠ -1 ∧ fr = 2 ∧ bkF w (p0 % 5) l ≠ kd + 1 ∧ bkF w (p1 % 5) l ≠ kd + 1 ∧ t = kd + 1))
theorem mtI_ty {K : Int} {pp li ty : Int → Int} {p0 p1 t : Int} (h : mtI K pp li ty p0 p1 t) {k : Int} (k0 : 0 ≤ k) (k1 : k < 4) : (t = k + 1 ∧ ty k = 1) ∨ (t ≠ k + 1 ∧ ty k = 0) := by
  obtain ⟨-, -, -, -, -, -, -, q⟩ := h
  rw [q k k0 k1]
  split
  · exact Or.inl ⟨by assumption, rfl⟩
  · exact Or.inr ⟨by assumption, rfl⟩
set_option maxRecDepth 100000 in
set_option maxHeartbeats 4000000 in
theorem m_gback_p (d : Nat) (z : Nat → Int) (zl : Nat → Int) (f : Nat → Int → Int) (fl : Nat → Int → Int) (tx : Nat)  (due : Int) (l : Int) (p0 : Int) (p1 : Int) (t : Int) (pp : Int → Int) (li : Int → Int) (ty : Int → Int) (K : Int) (pi : Int) (va : Int → Int) (w : Int → Int) (w3 : Option Value) (w4 : Option Value) (w5 : Option Value) (w6 : Option Value) (hw : wOK w) (hva : ∀ k : Int, 0 ≤ k → k < K → va k = w (k + 1)) (hK : 1 ≤ K ∧ K ≤ 4) (hpi : pi = 1 ∨ pi = 2) (hM : mtI K pp li ty p0 p1 t) (hl : 1 ≤ l ∧ l ≤ 10000) (h1p : pi = 1 → p1 = 0) (P : Option Value → AmH → Prop) (hx0 : ∀ (fr' : Int) (kd' : Int) (x5' : Option Value) (x6' : Option Value), (bkS w p0 p1 l fr' kd') → (-1 ≤ kd' ∧ kd' < K) → Rx (d + 1) m_X12_givesBack 77 [some (.ref 0), some (.int (iz due)), some (.int (iz l)), some (.int (iz fr')), some (.int (iz kd')), x5', x6'] [] (cmH (u1 (u1 z 21 K) 22 pi) zl (uf (uf (uf (uf f 5 va) 10 pp) 11 li) 12 ty) fl tx) P) : ∀ (kF : Nat), 0 < (kF : Int) → Rx (d + 1) m_X12_givesBack 6 [some (.ref 0), some (.int (iz due)), some (.int (iz l)), w3, w4, w5, w6] [] (cmH (u1 (u1 z 21 K) 22 pi) zl (uf (uf (uf (uf f 5 va) 10 pp) 11 li) 12 ty) fl tx) P := by
  obtain ⟨⟨hm1, hm2, hm3⟩, ⟨hm4, hm5, hm6⟩, hm7, hm8, hm9⟩ := mtI_b hM
  intro kF
  induction kF with
  | zero =>
    intro   hk
    exfalso; omega
  | succ kF ih =>
    intro   hk
    refine Rx.walk 9 (pc' := 20) (L' := [some (.ref 0), some (.int (iz due)), some (.int (iz l)), some (.int (iz (-1))), some (.int (iz (-1))), some (.int (iz 0)), w6]) (st' := [.int (iz pi), .int (iz 0)]) (h' := cmH (u1 (u1 z 21 K) 22 pi) zl (uf (uf (uf (uf f 5 va) 10 pp) 11 li) 12 ty) fl tx) rfl ?_
    refine Rx.ge2 rfl rfl ⟨by omega, by omega⟩ ⟨by omega, by omega⟩ (fun b1 => by omega) (fun b1 => ?_)
    refine Rx.walk 2 (pc' := 26) (L' := [some (.ref 0), some (.int (iz due)), some (.int (iz l)), some (.int (iz (-1))), some (.int (iz (-1))), some (.int (iz 0)), w6]) (st' := [.int (iz 0), .ref 0]) (h' := cmH (u1 (u1 z 21 K) 22 pi) zl (uf (uf (uf (uf f 5 va) 10 pp) 11 li) 12 ty) fl tx) rfl ?_
    refine Rx.callx (m' := m_X12_top) (as := [.ref 0, .int (iz 0)]) (rest := []) rfl (m_top0 _ (u1 (u1 z 21 K) 22 pi) zl (uf f 5 va) fl tx  K p0 p1 t pp li ty hM) (fun v5 h6 q7 => ?_)
    obtain ⟨r_2, rfl, rfl, f3, f4⟩ := q7
    refine Rx.walk 0 (pc' := 29) (L' := [some (.ref 0), some (.int (iz due)), some (.int (iz l)), some (.int (iz (-1))), some (.int (iz (-1))), some (.int (iz 0)), w6]) (st' := [.int (iz r_2)]) (h' := cmH (u1 (u1 z 21 K) 22 pi) zl (uf (uf (uf (uf f 5 va) 10 pp) 11 li) 12 ty) fl tx) rfl ?_
    have hf0 := bkF_c w (p0 % 5) l
    have he0 : r_2 + 1 = p0 % 5 := by omega
    refine Rx.walk 3 (pc' := 34) (L' := [some (.ref 0), some (.int (iz due)), some (.int (iz l)), some (.int (iz (-1))), some (.int (iz (-1))), some (.int (iz 0)), some (.int (iz r_2))]) (st' := [.int (iz (-1)), .int (iz r_2)]) (h' := cmH (u1 (u1 z 21 K) 22 pi) zl (uf (uf (uf (uf f 5 va) 10 pp) 11 li) 12 ty) fl tx) rfl ?_
    refine Rx.eq2 rfl rfl ⟨by omega, by omega⟩ ⟨by omega, by omega⟩ (fun b9 => ?_) (fun b9 => ?_)
    · refine Rx.iinc (b := 1) rfl rfl rfl ?_
      refine Rx.walk 0 (pc' := 74) (L' := [some (.ref 0), some (.int (iz due)), some (.int (iz l)), some (.int (iz (-1))), some (.int (iz (-1))), some (.int (iz 1)), some (.int (iz r_2))]) (st' := []) (h' := cmH (u1 (u1 z 21 K) 22 pi) zl (uf (uf (uf (uf f 5 va) 10 pp) 11 li) 12 ty) fl tx) rfl ?_
      refine Rx.walk 4 (pc' := 20) (L' := [some (.ref 0), some (.int (iz due)), some (.int (iz l)), some (.int (iz (-1))), some (.int (iz (-1))), some (.int (iz 1)), some (.int (iz r_2))]) (st' := [.int (iz pi), .int (iz 1)]) (h' := cmH (u1 (u1 z 21 K) 22 pi) zl (uf (uf (uf (uf f 5 va) 10 pp) 11 li) 12 ty) fl tx) rfl ?_
      refine Rx.ge2 rfl rfl ⟨by omega, by omega⟩ ⟨by omega, by omega⟩ (fun b10 => ?_) (fun b10 => ?_)
      · exact hx0 _ _ _ _ (by rw [h1p (by omega)]; have hf1 := bkF_c w (0 % 5) l; unfold bkS; have hw0 := hw.1; rw [show (0 : Int) % 5 = 0 by decide] at hf1 ⊢; exact ⟨by omega, by omega⟩) ⟨by omega, by omega⟩
      · refine Rx.walk 2 (pc' := 26) (L' := [some (.ref 0), some (.int (iz due)), some (.int (iz l)), some (.int (iz (-1))), some (.int (iz (-1))), some (.int (iz 1)), some (.int (iz r_2))]) (st' := [.int (iz 1), .ref 0]) (h' := cmH (u1 (u1 z 21 K) 22 pi) zl (uf (uf (uf (uf f 5 va) 10 pp) 11 li) 12 ty) fl tx) rfl ?_
        refine Rx.callx (m' := m_X12_top) (as := [.ref 0, .int (iz 1)]) (rest := []) rfl (m_top1 _ (u1 (u1 z 21 K) 22 pi) zl (uf f 5 va) fl tx  K p0 p1 t pp li ty hM) (fun v14 h15 q16 => ?_)
        obtain ⟨r_11, rfl, rfl, f12, f13⟩ := q16
        refine Rx.walk 0 (pc' := 29) (L' := [some (.ref 0), some (.int (iz due)), some (.int (iz l)), some (.int (iz (-1))), some (.int (iz (-1))), some (.int (iz 1)), some (.int (iz r_2))]) (st' := [.int (iz r_11)]) (h' := cmH (u1 (u1 z 21 K) 22 pi) zl (uf (uf (uf (uf f 5 va) 10 pp) 11 li) 12 ty) fl tx) rfl ?_
        have hf1 := bkF_c w (p1 % 5) l
        have he1 : r_11 + 1 = p1 % 5 := by omega
        refine Rx.walk 3 (pc' := 34) (L' := [some (.ref 0), some (.int (iz due)), some (.int (iz l)), some (.int (iz (-1))), some (.int (iz (-1))), some (.int (iz 1)), some (.int (iz r_11))]) (st' := [.int (iz (-1)), .int (iz r_11)]) (h' := cmH (u1 (u1 z 21 K) 22 pi) zl (uf (uf (uf (uf f 5 va) 10 pp) 11 li) 12 ty) fl tx) rfl ?_
        refine Rx.eq2 rfl rfl ⟨by omega, by omega⟩ ⟨by omega, by omega⟩ (fun b18 => ?_) (fun b18 => ?_)
        · refine Rx.iinc (b := 1) rfl rfl rfl ?_
          refine Rx.walk 0 (pc' := 74) (L' := [some (.ref 0), some (.int (iz due)), some (.int (iz l)), some (.int (iz (-1))), some (.int (iz (-1))), some (.int (iz 2)), some (.int (iz r_11))]) (st' := []) (h' := cmH (u1 (u1 z 21 K) 22 pi) zl (uf (uf (uf (uf f 5 va) 10 pp) 11 li) 12 ty) fl tx) rfl ?_
          refine Rx.walk 4 (pc' := 20) (L' := [some (.ref 0), some (.int (iz due)), some (.int (iz l)), some (.int (iz (-1))), some (.int (iz (-1))), some (.int (iz 2)), some (.int (iz r_11))]) (st' := [.int (iz pi), .int (iz 2)]) (h' := cmH (u1 (u1 z 21 K) 22 pi) zl (uf (uf (uf (uf f 5 va) 10 pp) 11 li) 12 ty) fl tx) rfl ?_
          refine Rx.ge2 rfl rfl ⟨by omega, by omega⟩ ⟨by omega, by omega⟩ (fun b19 => ?_) (fun b19 => by omega)
          exact hx0 _ _ _ _ (by unfold bkS; have hw0 := hw.1; exact ⟨by omega, by omega⟩) ⟨by omega, by omega⟩
        · have hwv1 : va r_11 = w (p1 % 5) := by rw [hva r_11 (by omega) (by omega), he1]
          refine Rx.walk 3 (pc' := 43) (L' := [some (.ref 0), some (.int (iz due)), some (.int (iz l)), some (.int (iz (-1))), some (.int (iz (-1))), some (.int (iz 1)), some (.int (iz r_11))]) (st' := [.int (iz r_11), .ref 5]) (h' := cmH (u1 (u1 z 21 K) 22 pi) zl (uf (uf (uf (uf f 5 va) 10 pp) 11 li) 12 ty) fl tx) rfl ?_
          refine Rx.ial (g := va) rfl rfl (by omega) (by omega) (by omega) ?_
          have hx20 := hva r_11 (by omega) (by omega)
          have hy20 := hw.2 (r_11 + 1) (by omega) (by omega)
          rw [← hx20] at hy20
          refine Rx.walk 1 (pc' := 45) (L' := [some (.ref 0), some (.int (iz due)), some (.int (iz l)), some (.int (iz (-1))), some (.int (iz (-1))), some (.int (iz 1)), some (.int (iz r_11))]) (st' := [.int (iz l), .int (iz (va r_11))]) (h' := cmH (u1 (u1 z 21 K) 22 pi) zl (uf (uf (uf (uf f 5 va) 10 pp) 11 li) 12 ty) fl tx) rfl ?_
          refine Rx.gt2 rfl rfl ⟨by omega, by omega⟩ ⟨by omega, by omega⟩ (fun b21 => ?_) (fun b21 => ?_)
          · refine Rx.iinc (b := 1) rfl rfl rfl ?_
            refine Rx.walk 0 (pc' := 74) (L' := [some (.ref 0), some (.int (iz due)), some (.int (iz l)), some (.int (iz (-1))), some (.int (iz (-1))), some (.int (iz 2)), some (.int (iz r_11))]) (st' := []) (h' := cmH (u1 (u1 z 21 K) 22 pi) zl (uf (uf (uf (uf f 5 va) 10 pp) 11 li) 12 ty) fl tx) rfl ?_
            refine Rx.walk 4 (pc' := 20) (L' := [some (.ref 0), some (.int (iz due)), some (.int (iz l)), some (.int (iz (-1))), some (.int (iz (-1))), some (.int (iz 2)), some (.int (iz r_11))]) (st' := [.int (iz pi), .int (iz 2)]) (h' := cmH (u1 (u1 z 21 K) 22 pi) zl (uf (uf (uf (uf f 5 va) 10 pp) 11 li) 12 ty) fl tx) rfl ?_
            refine Rx.ge2 rfl rfl ⟨by omega, by omega⟩ ⟨by omega, by omega⟩ (fun b22 => ?_) (fun b22 => by omega)
            exact hx0 _ _ _ _ (by unfold bkS; have hw0 := hw.1; exact ⟨by omega, by omega⟩) ⟨by omega, by omega⟩
          · refine Rx.walk 2 (pc' := 51) (L' := [some (.ref 0), some (.int (iz due)), some (.int (iz l)), some (.int (iz (-1))), some (.int (iz (-1))), some (.int (iz 1)), some (.int (iz r_11))]) (st' := [.int (iz (-1)), .int (iz (-1))]) (h' := cmH (u1 (u1 z 21 K) 22 pi) zl (uf (uf (uf (uf f 5 va) 10 pp) 11 li) 12 ty) fl tx) rfl ?_
            refine Rx.eq2 rfl rfl ⟨by omega, by omega⟩ ⟨by omega, by omega⟩ (fun b23 => ?_) (fun b23 => by omega)
            refine Rx.walk 4 (pc' := 71) (L' := [some (.ref 0), some (.int (iz due)), some (.int (iz l)), some (.int (iz 1)), some (.int (iz r_11)), some (.int (iz 1)), some (.int (iz r_11))]) (st' := []) (h' := cmH (u1 (u1 z 21 K) 22 pi) zl (uf (uf (uf (uf f 5 va) 10 pp) 11 li) 12 ty) fl tx) rfl ?_
            refine Rx.iinc (b := 1) rfl rfl rfl ?_
            refine Rx.walk 0 (pc' := 74) (L' := [some (.ref 0), some (.int (iz due)), some (.int (iz l)), some (.int (iz 1)), some (.int (iz r_11)), some (.int (iz 2)), some (.int (iz r_11))]) (st' := []) (h' := cmH (u1 (u1 z 21 K) 22 pi) zl (uf (uf (uf (uf f 5 va) 10 pp) 11 li) 12 ty) fl tx) rfl ?_
            refine Rx.walk 4 (pc' := 20) (L' := [some (.ref 0), some (.int (iz due)), some (.int (iz l)), some (.int (iz 1)), some (.int (iz r_11)), some (.int (iz 2)), some (.int (iz r_11))]) (st' := [.int (iz pi), .int (iz 2)]) (h' := cmH (u1 (u1 z 21 K) 22 pi) zl (uf (uf (uf (uf f 5 va) 10 pp) 11 li) 12 ty) fl tx) rfl ?_
            refine Rx.ge2 rfl rfl ⟨by omega, by omega⟩ ⟨by omega, by omega⟩ (fun b24 => ?_) (fun b24 => by omega)
            exact hx0 _ _ _ _ (by unfold bkS; have hw0 := hw.1; exact ⟨by omega, by omega⟩) ⟨by omega, by omega⟩
    · have hwv0 : va r_2 = w (p0 % 5) := by rw [hva r_2 (by omega) (by omega), he0]
      refine Rx.walk 3 (pc' := 43) (L' := [some (.ref 0), some (.int (iz due)), some (.int (iz l)), some (.int (iz (-1))), some (.int (iz (-1))), some (.int (iz 0)), some (.int (iz r_2))]) (st' := [.int (iz r_2), .ref 5]) (h' := cmH (u1 (u1 z 21 K) 22 pi) zl (uf (uf (uf (uf f 5 va) 10 pp) 11 li) 12 ty) fl tx) rfl ?_
      refine Rx.ial (g := va) rfl rfl (by omega) (by omega) (by omega) ?_
      have hx25 := hva r_2 (by omega) (by omega)
      have hy25 := hw.2 (r_2 + 1) (by omega) (by omega)
      rw [← hx25] at hy25
      refine Rx.walk 1 (pc' := 45) (L' := [some (.ref 0), some (.int (iz due)), some (.int (iz l)), some (.int (iz (-1))), some (.int (iz (-1))), some (.int (iz 0)), some (.int (iz r_2))]) (st' := [.int (iz l), .int (iz (va r_2))]) (h' := cmH (u1 (u1 z 21 K) 22 pi) zl (uf (uf (uf (uf f 5 va) 10 pp) 11 li) 12 ty) fl tx) rfl ?_
      refine Rx.gt2 rfl rfl ⟨by omega, by omega⟩ ⟨by omega, by omega⟩ (fun b26 => ?_) (fun b26 => ?_)
      · refine Rx.iinc (b := 1) rfl rfl rfl ?_
        refine Rx.walk 0 (pc' := 74) (L' := [some (.ref 0), some (.int (iz due)), some (.int (iz l)), some (.int (iz (-1))), some (.int (iz (-1))), some (.int (iz 1)), some (.int (iz r_2))]) (st' := []) (h' := cmH (u1 (u1 z 21 K) 22 pi) zl (uf (uf (uf (uf f 5 va) 10 pp) 11 li) 12 ty) fl tx) rfl ?_
        refine Rx.walk 4 (pc' := 20) (L' := [some (.ref 0), some (.int (iz due)), some (.int (iz l)), some (.int (iz (-1))), some (.int (iz (-1))), some (.int (iz 1)), some (.int (iz r_2))]) (st' := [.int (iz pi), .int (iz 1)]) (h' := cmH (u1 (u1 z 21 K) 22 pi) zl (uf (uf (uf (uf f 5 va) 10 pp) 11 li) 12 ty) fl tx) rfl ?_
        refine Rx.ge2 rfl rfl ⟨by omega, by omega⟩ ⟨by omega, by omega⟩ (fun b27 => ?_) (fun b27 => ?_)
        · exact hx0 _ _ _ _ (by rw [h1p (by omega)]; have hf1 := bkF_c w (0 % 5) l; unfold bkS; have hw0 := hw.1; rw [show (0 : Int) % 5 = 0 by decide] at hf1 ⊢; exact ⟨by omega, by omega⟩) ⟨by omega, by omega⟩
        · refine Rx.walk 2 (pc' := 26) (L' := [some (.ref 0), some (.int (iz due)), some (.int (iz l)), some (.int (iz (-1))), some (.int (iz (-1))), some (.int (iz 1)), some (.int (iz r_2))]) (st' := [.int (iz 1), .ref 0]) (h' := cmH (u1 (u1 z 21 K) 22 pi) zl (uf (uf (uf (uf f 5 va) 10 pp) 11 li) 12 ty) fl tx) rfl ?_
          refine Rx.callx (m' := m_X12_top) (as := [.ref 0, .int (iz 1)]) (rest := []) rfl (m_top1 _ (u1 (u1 z 21 K) 22 pi) zl (uf f 5 va) fl tx  K p0 p1 t pp li ty hM) (fun v31 h32 q33 => ?_)
          obtain ⟨r_28, rfl, rfl, f29, f30⟩ := q33
          refine Rx.walk 0 (pc' := 29) (L' := [some (.ref 0), some (.int (iz due)), some (.int (iz l)), some (.int (iz (-1))), some (.int (iz (-1))), some (.int (iz 1)), some (.int (iz r_2))]) (st' := [.int (iz r_28)]) (h' := cmH (u1 (u1 z 21 K) 22 pi) zl (uf (uf (uf (uf f 5 va) 10 pp) 11 li) 12 ty) fl tx) rfl ?_
          have hf1 := bkF_c w (p1 % 5) l
          have he1 : r_28 + 1 = p1 % 5 := by omega
          refine Rx.walk 3 (pc' := 34) (L' := [some (.ref 0), some (.int (iz due)), some (.int (iz l)), some (.int (iz (-1))), some (.int (iz (-1))), some (.int (iz 1)), some (.int (iz r_28))]) (st' := [.int (iz (-1)), .int (iz r_28)]) (h' := cmH (u1 (u1 z 21 K) 22 pi) zl (uf (uf (uf (uf f 5 va) 10 pp) 11 li) 12 ty) fl tx) rfl ?_
          refine Rx.eq2 rfl rfl ⟨by omega, by omega⟩ ⟨by omega, by omega⟩ (fun b35 => ?_) (fun b35 => ?_)
          · refine Rx.iinc (b := 1) rfl rfl rfl ?_
            refine Rx.walk 0 (pc' := 74) (L' := [some (.ref 0), some (.int (iz due)), some (.int (iz l)), some (.int (iz (-1))), some (.int (iz (-1))), some (.int (iz 2)), some (.int (iz r_28))]) (st' := []) (h' := cmH (u1 (u1 z 21 K) 22 pi) zl (uf (uf (uf (uf f 5 va) 10 pp) 11 li) 12 ty) fl tx) rfl ?_
            refine Rx.walk 4 (pc' := 20) (L' := [some (.ref 0), some (.int (iz due)), some (.int (iz l)), some (.int (iz (-1))), some (.int (iz (-1))), some (.int (iz 2)), some (.int (iz r_28))]) (st' := [.int (iz pi), .int (iz 2)]) (h' := cmH (u1 (u1 z 21 K) 22 pi) zl (uf (uf (uf (uf f 5 va) 10 pp) 11 li) 12 ty) fl tx) rfl ?_
            refine Rx.ge2 rfl rfl ⟨by omega, by omega⟩ ⟨by omega, by omega⟩ (fun b36 => ?_) (fun b36 => by omega)
            exact hx0 _ _ _ _ (by unfold bkS; have hw0 := hw.1; exact ⟨by omega, by omega⟩) ⟨by omega, by omega⟩
          · have hwv1 : va r_28 = w (p1 % 5) := by rw [hva r_28 (by omega) (by omega), he1]
            refine Rx.walk 3 (pc' := 43) (L' := [some (.ref 0), some (.int (iz due)), some (.int (iz l)), some (.int (iz (-1))), some (.int (iz (-1))), some (.int (iz 1)), some (.int (iz r_28))]) (st' := [.int (iz r_28), .ref 5]) (h' := cmH (u1 (u1 z 21 K) 22 pi) zl (uf (uf (uf (uf f 5 va) 10 pp) 11 li) 12 ty) fl tx) rfl ?_
            refine Rx.ial (g := va) rfl rfl (by omega) (by omega) (by omega) ?_
            have hx37 := hva r_28 (by omega) (by omega)
            have hy37 := hw.2 (r_28 + 1) (by omega) (by omega)
            rw [← hx37] at hy37
            refine Rx.walk 1 (pc' := 45) (L' := [some (.ref 0), some (.int (iz due)), some (.int (iz l)), some (.int (iz (-1))), some (.int (iz (-1))), some (.int (iz 1)), some (.int (iz r_28))]) (st' := [.int (iz l), .int (iz (va r_28))]) (h' := cmH (u1 (u1 z 21 K) 22 pi) zl (uf (uf (uf (uf f 5 va) 10 pp) 11 li) 12 ty) fl tx) rfl ?_
            refine Rx.gt2 rfl rfl ⟨by omega, by omega⟩ ⟨by omega, by omega⟩ (fun b38 => ?_) (fun b38 => ?_)
            · refine Rx.iinc (b := 1) rfl rfl rfl ?_
              refine Rx.walk 0 (pc' := 74) (L' := [some (.ref 0), some (.int (iz due)), some (.int (iz l)), some (.int (iz (-1))), some (.int (iz (-1))), some (.int (iz 2)), some (.int (iz r_28))]) (st' := []) (h' := cmH (u1 (u1 z 21 K) 22 pi) zl (uf (uf (uf (uf f 5 va) 10 pp) 11 li) 12 ty) fl tx) rfl ?_
              refine Rx.walk 4 (pc' := 20) (L' := [some (.ref 0), some (.int (iz due)), some (.int (iz l)), some (.int (iz (-1))), some (.int (iz (-1))), some (.int (iz 2)), some (.int (iz r_28))]) (st' := [.int (iz pi), .int (iz 2)]) (h' := cmH (u1 (u1 z 21 K) 22 pi) zl (uf (uf (uf (uf f 5 va) 10 pp) 11 li) 12 ty) fl tx) rfl ?_
              refine Rx.ge2 rfl rfl ⟨by omega, by omega⟩ ⟨by omega, by omega⟩ (fun b39 => ?_) (fun b39 => by omega)
              exact hx0 _ _ _ _ (by unfold bkS; have hw0 := hw.1; exact ⟨by omega, by omega⟩) ⟨by omega, by omega⟩
            · refine Rx.walk 2 (pc' := 51) (L' := [some (.ref 0), some (.int (iz due)), some (.int (iz l)), some (.int (iz (-1))), some (.int (iz (-1))), some (.int (iz 1)), some (.int (iz r_28))]) (st' := [.int (iz (-1)), .int (iz (-1))]) (h' := cmH (u1 (u1 z 21 K) 22 pi) zl (uf (uf (uf (uf f 5 va) 10 pp) 11 li) 12 ty) fl tx) rfl ?_
              refine Rx.eq2 rfl rfl ⟨by omega, by omega⟩ ⟨by omega, by omega⟩ (fun b40 => ?_) (fun b40 => by omega)
              refine Rx.walk 4 (pc' := 71) (L' := [some (.ref 0), some (.int (iz due)), some (.int (iz l)), some (.int (iz 1)), some (.int (iz r_28)), some (.int (iz 1)), some (.int (iz r_28))]) (st' := []) (h' := cmH (u1 (u1 z 21 K) 22 pi) zl (uf (uf (uf (uf f 5 va) 10 pp) 11 li) 12 ty) fl tx) rfl ?_
              refine Rx.iinc (b := 1) rfl rfl rfl ?_
              refine Rx.walk 0 (pc' := 74) (L' := [some (.ref 0), some (.int (iz due)), some (.int (iz l)), some (.int (iz 1)), some (.int (iz r_28)), some (.int (iz 2)), some (.int (iz r_28))]) (st' := []) (h' := cmH (u1 (u1 z 21 K) 22 pi) zl (uf (uf (uf (uf f 5 va) 10 pp) 11 li) 12 ty) fl tx) rfl ?_
              refine Rx.walk 4 (pc' := 20) (L' := [some (.ref 0), some (.int (iz due)), some (.int (iz l)), some (.int (iz 1)), some (.int (iz r_28)), some (.int (iz 2)), some (.int (iz r_28))]) (st' := [.int (iz pi), .int (iz 2)]) (h' := cmH (u1 (u1 z 21 K) 22 pi) zl (uf (uf (uf (uf f 5 va) 10 pp) 11 li) 12 ty) fl tx) rfl ?_
              refine Rx.ge2 rfl rfl ⟨by omega, by omega⟩ ⟨by omega, by omega⟩ (fun b41 => ?_) (fun b41 => by omega)
              exact hx0 _ _ _ _ (by unfold bkS; have hw0 := hw.1; exact ⟨by omega, by omega⟩) ⟨by omega, by omega⟩
      · refine Rx.walk 2 (pc' := 51) (L' := [some (.ref 0), some (.int (iz due)), some (.int (iz l)), some (.int (iz (-1))), some (.int (iz (-1))), some (.int (iz 0)), some (.int (iz r_2))]) (st' := [.int (iz (-1)), .int (iz (-1))]) (h' := cmH (u1 (u1 z 21 K) 22 pi) zl (uf (uf (uf (uf f 5 va) 10 pp) 11 li) 12 ty) fl tx) rfl ?_
        refine Rx.eq2 rfl rfl ⟨by omega, by omega⟩ ⟨by omega, by omega⟩ (fun b42 => ?_) (fun b42 => by omega)
        refine Rx.walk 4 (pc' := 71) (L' := [some (.ref 0), some (.int (iz due)), some (.int (iz l)), some (.int (iz 0)), some (.int (iz r_2)), some (.int (iz 0)), some (.int (iz r_2))]) (st' := []) (h' := cmH (u1 (u1 z 21 K) 22 pi) zl (uf (uf (uf (uf f 5 va) 10 pp) 11 li) 12 ty) fl tx) rfl ?_
        refine Rx.iinc (b := 1) rfl rfl rfl ?_
        refine Rx.walk 0 (pc' := 74) (L' := [some (.ref 0), some (.int (iz due)), some (.int (iz l)), some (.int (iz 0)), some (.int (iz r_2)), some (.int (iz 1)), some (.int (iz r_2))]) (st' := []) (h' := cmH (u1 (u1 z 21 K) 22 pi) zl (uf (uf (uf (uf f 5 va) 10 pp) 11 li) 12 ty) fl tx) rfl ?_
        refine Rx.walk 4 (pc' := 20) (L' := [some (.ref 0), some (.int (iz due)), some (.int (iz l)), some (.int (iz 0)), some (.int (iz r_2)), some (.int (iz 1)), some (.int (iz r_2))]) (st' := [.int (iz pi), .int (iz 1)]) (h' := cmH (u1 (u1 z 21 K) 22 pi) zl (uf (uf (uf (uf f 5 va) 10 pp) 11 li) 12 ty) fl tx) rfl ?_
        refine Rx.ge2 rfl rfl ⟨by omega, by omega⟩ ⟨by omega, by omega⟩ (fun b43 => ?_) (fun b43 => ?_)
        · exact hx0 _ _ _ _ (by rw [h1p (by omega)]; have hf1 := bkF_c w (0 % 5) l; unfold bkS; have hw0 := hw.1; rw [show (0 : Int) % 5 = 0 by decide] at hf1 ⊢; exact ⟨by omega, by omega⟩) ⟨by omega, by omega⟩
        · refine Rx.walk 2 (pc' := 26) (L' := [some (.ref 0), some (.int (iz due)), some (.int (iz l)), some (.int (iz 0)), some (.int (iz r_2)), some (.int (iz 1)), some (.int (iz r_2))]) (st' := [.int (iz 1), .ref 0]) (h' := cmH (u1 (u1 z 21 K) 22 pi) zl (uf (uf (uf (uf f 5 va) 10 pp) 11 li) 12 ty) fl tx) rfl ?_
          refine Rx.callx (m' := m_X12_top) (as := [.ref 0, .int (iz 1)]) (rest := []) rfl (m_top1 _ (u1 (u1 z 21 K) 22 pi) zl (uf f 5 va) fl tx  K p0 p1 t pp li ty hM) (fun v47 h48 q49 => ?_)
          obtain ⟨r_44, rfl, rfl, f45, f46⟩ := q49
          refine Rx.walk 0 (pc' := 29) (L' := [some (.ref 0), some (.int (iz due)), some (.int (iz l)), some (.int (iz 0)), some (.int (iz r_2)), some (.int (iz 1)), some (.int (iz r_2))]) (st' := [.int (iz r_44)]) (h' := cmH (u1 (u1 z 21 K) 22 pi) zl (uf (uf (uf (uf f 5 va) 10 pp) 11 li) 12 ty) fl tx) rfl ?_
          have hf1 := bkF_c w (p1 % 5) l
          have he1 : r_44 + 1 = p1 % 5 := by omega
          refine Rx.walk 3 (pc' := 34) (L' := [some (.ref 0), some (.int (iz due)), some (.int (iz l)), some (.int (iz 0)), some (.int (iz r_2)), some (.int (iz 1)), some (.int (iz r_44))]) (st' := [.int (iz (-1)), .int (iz r_44)]) (h' := cmH (u1 (u1 z 21 K) 22 pi) zl (uf (uf (uf (uf f 5 va) 10 pp) 11 li) 12 ty) fl tx) rfl ?_
          refine Rx.eq2 rfl rfl ⟨by omega, by omega⟩ ⟨by omega, by omega⟩ (fun b51 => ?_) (fun b51 => ?_)
          · refine Rx.iinc (b := 1) rfl rfl rfl ?_
            refine Rx.walk 0 (pc' := 74) (L' := [some (.ref 0), some (.int (iz due)), some (.int (iz l)), some (.int (iz 0)), some (.int (iz r_2)), some (.int (iz 2)), some (.int (iz r_44))]) (st' := []) (h' := cmH (u1 (u1 z 21 K) 22 pi) zl (uf (uf (uf (uf f 5 va) 10 pp) 11 li) 12 ty) fl tx) rfl ?_
            refine Rx.walk 4 (pc' := 20) (L' := [some (.ref 0), some (.int (iz due)), some (.int (iz l)), some (.int (iz 0)), some (.int (iz r_2)), some (.int (iz 2)), some (.int (iz r_44))]) (st' := [.int (iz pi), .int (iz 2)]) (h' := cmH (u1 (u1 z 21 K) 22 pi) zl (uf (uf (uf (uf f 5 va) 10 pp) 11 li) 12 ty) fl tx) rfl ?_
            refine Rx.ge2 rfl rfl ⟨by omega, by omega⟩ ⟨by omega, by omega⟩ (fun b52 => ?_) (fun b52 => by omega)
            exact hx0 _ _ _ _ (by unfold bkS; have hw0 := hw.1; exact ⟨by omega, by omega⟩) ⟨by omega, by omega⟩
          · have hwv1 : va r_44 = w (p1 % 5) := by rw [hva r_44 (by omega) (by omega), he1]
            refine Rx.walk 3 (pc' := 43) (L' := [some (.ref 0), some (.int (iz due)), some (.int (iz l)), some (.int (iz 0)), some (.int (iz r_2)), some (.int (iz 1)), some (.int (iz r_44))]) (st' := [.int (iz r_44), .ref 5]) (h' := cmH (u1 (u1 z 21 K) 22 pi) zl (uf (uf (uf (uf f 5 va) 10 pp) 11 li) 12 ty) fl tx) rfl ?_
            refine Rx.ial (g := va) rfl rfl (by omega) (by omega) (by omega) ?_
            have hx53 := hva r_44 (by omega) (by omega)
            have hy53 := hw.2 (r_44 + 1) (by omega) (by omega)
            rw [← hx53] at hy53
            refine Rx.walk 1 (pc' := 45) (L' := [some (.ref 0), some (.int (iz due)), some (.int (iz l)), some (.int (iz 0)), some (.int (iz r_2)), some (.int (iz 1)), some (.int (iz r_44))]) (st' := [.int (iz l), .int (iz (va r_44))]) (h' := cmH (u1 (u1 z 21 K) 22 pi) zl (uf (uf (uf (uf f 5 va) 10 pp) 11 li) 12 ty) fl tx) rfl ?_
            refine Rx.gt2 rfl rfl ⟨by omega, by omega⟩ ⟨by omega, by omega⟩ (fun b54 => ?_) (fun b54 => ?_)
            · refine Rx.iinc (b := 1) rfl rfl rfl ?_
              refine Rx.walk 0 (pc' := 74) (L' := [some (.ref 0), some (.int (iz due)), some (.int (iz l)), some (.int (iz 0)), some (.int (iz r_2)), some (.int (iz 2)), some (.int (iz r_44))]) (st' := []) (h' := cmH (u1 (u1 z 21 K) 22 pi) zl (uf (uf (uf (uf f 5 va) 10 pp) 11 li) 12 ty) fl tx) rfl ?_
              refine Rx.walk 4 (pc' := 20) (L' := [some (.ref 0), some (.int (iz due)), some (.int (iz l)), some (.int (iz 0)), some (.int (iz r_2)), some (.int (iz 2)), some (.int (iz r_44))]) (st' := [.int (iz pi), .int (iz 2)]) (h' := cmH (u1 (u1 z 21 K) 22 pi) zl (uf (uf (uf (uf f 5 va) 10 pp) 11 li) 12 ty) fl tx) rfl ?_
              refine Rx.ge2 rfl rfl ⟨by omega, by omega⟩ ⟨by omega, by omega⟩ (fun b55 => ?_) (fun b55 => by omega)
              exact hx0 _ _ _ _ (by unfold bkS; have hw0 := hw.1; exact ⟨by omega, by omega⟩) ⟨by omega, by omega⟩
            · refine Rx.walk 2 (pc' := 51) (L' := [some (.ref 0), some (.int (iz due)), some (.int (iz l)), some (.int (iz 0)), some (.int (iz r_2)), some (.int (iz 1)), some (.int (iz r_44))]) (st' := [.int (iz (-1)), .int (iz r_2)]) (h' := cmH (u1 (u1 z 21 K) 22 pi) zl (uf (uf (uf (uf f 5 va) 10 pp) 11 li) 12 ty) fl tx) rfl ?_
              refine Rx.eq2 rfl rfl ⟨by omega, by omega⟩ ⟨by omega, by omega⟩ (fun b56 => ?_) (fun b56 => ?_)
              · refine Rx.walk 4 (pc' := 71) (L' := [some (.ref 0), some (.int (iz due)), some (.int (iz l)), some (.int (iz 1)), some (.int (iz r_44)), some (.int (iz 1)), some (.int (iz r_44))]) (st' := []) (h' := cmH (u1 (u1 z 21 K) 22 pi) zl (uf (uf (uf (uf f 5 va) 10 pp) 11 li) 12 ty) fl tx) rfl ?_
                refine Rx.iinc (b := 1) rfl rfl rfl ?_
                refine Rx.walk 0 (pc' := 74) (L' := [some (.ref 0), some (.int (iz due)), some (.int (iz l)), some (.int (iz 1)), some (.int (iz r_44)), some (.int (iz 2)), some (.int (iz r_44))]) (st' := []) (h' := cmH (u1 (u1 z 21 K) 22 pi) zl (uf (uf (uf (uf f 5 va) 10 pp) 11 li) 12 ty) fl tx) rfl ?_
                refine Rx.walk 4 (pc' := 20) (L' := [some (.ref 0), some (.int (iz due)), some (.int (iz l)), some (.int (iz 1)), some (.int (iz r_44)), some (.int (iz 2)), some (.int (iz r_44))]) (st' := [.int (iz pi), .int (iz 2)]) (h' := cmH (u1 (u1 z 21 K) 22 pi) zl (uf (uf (uf (uf f 5 va) 10 pp) 11 li) 12 ty) fl tx) rfl ?_
                refine Rx.ge2 rfl rfl ⟨by omega, by omega⟩ ⟨by omega, by omega⟩ (fun b57 => ?_) (fun b57 => by omega)
                exact hx0 _ _ _ _ (by unfold bkS; have hw0 := hw.1; exact ⟨by omega, by omega⟩) ⟨by omega, by omega⟩
              · refine Rx.walk 2 (pc' := 58) (L' := [some (.ref 0), some (.int (iz due)), some (.int (iz l)), some (.int (iz 0)), some (.int (iz r_2)), some (.int (iz 1)), some (.int (iz r_44))]) (st' := [.int (iz r_2), .int (iz r_44)]) (h' := cmH (u1 (u1 z 21 K) 22 pi) zl (uf (uf (uf (uf f 5 va) 10 pp) 11 li) 12 ty) fl tx) rfl ?_
                refine Rx.gt2 rfl rfl ⟨by omega, by omega⟩ ⟨by omega, by omega⟩ (fun b58 => ?_) (fun b58 => ?_)
                · refine Rx.walk 4 (pc' := 71) (L' := [some (.ref 0), some (.int (iz due)), some (.int (iz l)), some (.int (iz 1)), some (.int (iz r_44)), some (.int (iz 1)), some (.int (iz r_44))]) (st' := []) (h' := cmH (u1 (u1 z 21 K) 22 pi) zl (uf (uf (uf (uf f 5 va) 10 pp) 11 li) 12 ty) fl tx) rfl ?_
                  refine Rx.iinc (b := 1) rfl rfl rfl ?_
                  refine Rx.walk 0 (pc' := 74) (L' := [some (.ref 0), some (.int (iz due)), some (.int (iz l)), some (.int (iz 1)), some (.int (iz r_44)), some (.int (iz 2)), some (.int (iz r_44))]) (st' := []) (h' := cmH (u1 (u1 z 21 K) 22 pi) zl (uf (uf (uf (uf f 5 va) 10 pp) 11 li) 12 ty) fl tx) rfl ?_
                  refine Rx.walk 4 (pc' := 20) (L' := [some (.ref 0), some (.int (iz due)), some (.int (iz l)), some (.int (iz 1)), some (.int (iz r_44)), some (.int (iz 2)), some (.int (iz r_44))]) (st' := [.int (iz pi), .int (iz 2)]) (h' := cmH (u1 (u1 z 21 K) 22 pi) zl (uf (uf (uf (uf f 5 va) 10 pp) 11 li) 12 ty) fl tx) rfl ?_
                  refine Rx.ge2 rfl rfl ⟨by omega, by omega⟩ ⟨by omega, by omega⟩ (fun b59 => ?_) (fun b59 => by omega)
                  exact hx0 _ _ _ _ (by unfold bkS; have hw0 := hw.1; exact ⟨by omega, by omega⟩) ⟨by omega, by omega⟩
                · refine Rx.walk 1 (pc' := 71) (L' := [some (.ref 0), some (.int (iz due)), some (.int (iz l)), some (.int (iz 0)), some (.int (iz r_2)), some (.int (iz 1)), some (.int (iz r_44))]) (st' := []) (h' := cmH (u1 (u1 z 21 K) 22 pi) zl (uf (uf (uf (uf f 5 va) 10 pp) 11 li) 12 ty) fl tx) rfl ?_
                  refine Rx.iinc (b := 1) rfl rfl rfl ?_
                  refine Rx.walk 0 (pc' := 74) (L' := [some (.ref 0), some (.int (iz due)), some (.int (iz l)), some (.int (iz 0)), some (.int (iz r_2)), some (.int (iz 2)), some (.int (iz r_44))]) (st' := []) (h' := cmH (u1 (u1 z 21 K) 22 pi) zl (uf (uf (uf (uf f 5 va) 10 pp) 11 li) 12 ty) fl tx) rfl ?_
                  refine Rx.walk 4 (pc' := 20) (L' := [some (.ref 0), some (.int (iz due)), some (.int (iz l)), some (.int (iz 0)), some (.int (iz r_2)), some (.int (iz 2)), some (.int (iz r_44))]) (st' := [.int (iz pi), .int (iz 2)]) (h' := cmH (u1 (u1 z 21 K) 22 pi) zl (uf (uf (uf (uf f 5 va) 10 pp) 11 li) 12 ty) fl tx) rfl ?_
                  refine Rx.ge2 rfl rfl ⟨by omega, by omega⟩ ⟨by omega, by omega⟩ (fun b60 => ?_) (fun b60 => by omega)
                  exact hx0 _ _ _ _ (by unfold bkS; have hw0 := hw.1; exact ⟨by omega, by omega⟩) ⟨by omega, by omega⟩
set_option maxRecDepth 100000 in
set_option maxHeartbeats 4000000 in
theorem m_gback_t (d : Nat) (z : Nat → Int) (zl : Nat → Int) (f : Nat → Int → Int) (fl : Nat → Int → Int) (tx : Nat)  (due : Int) (l : Int) (p0 : Int) (p1 : Int) (t : Int) (fr0 : Int) (kd0 : Int) (pp : Int → Int) (li : Int → Int) (ty : Int → Int) (K : Int) (pi : Int) (va : Int → Int) (w : Int → Int) (w6 : Option Value) (hw : wOK w) (hva : ∀ k : Int, 0 ≤ k → k < K → va k = w (k + 1)) (hK : 1 ≤ K ∧ K ≤ 4) (hpi : pi = 1 ∨ pi = 2) (hM : mtI K pp li ty p0 p1 t) (hl : 1 ≤ l ∧ l ≤ 10000) (hS : bkS w p0 p1 l fr0 kd0) (hk0 : -1 ≤ kd0 ∧ kd0 < K) (P : Option Value → AmH → Prop) (hx0 : ∀ (fr' : Int) (kd' : Int) (x5' : Option Value), (bkT w p0 p1 t l fr' kd') → (-1 ≤ kd' ∧ kd' < K) → Rx (d) m_X12_givesBack 138 [some (.ref 0), some (.int (iz due)), some (.int (iz l)), some (.int (iz fr')), some (.int (iz kd')), x5', w6] [] (cmH (u1 (u1 z 21 K) 22 pi) zl (uf (uf (uf (uf f 5 va) 10 pp) 11 li) 12 ty) fl tx) P) : ∀ (kF : Nat) (k : Int) (fr : Int) (kd : Int), (0 ≤ k ∧ k ≤ K) → (-1 ≤ kd ∧ kd < K) → ((1 ≤ t ∧ t ≤ k ∧ w t ≤ l ∧ kd0 < t - 1 ∧ kd = t - 1 ∧ fr = 2) ∨ (¬ (1 ≤ t ∧ t ≤ k ∧ w t ≤ l ∧ kd0 < t - 1) ∧ kd = kd0 ∧ fr = fr0)) → (K - k) < (kF : Int) → Rx (d) m_X12_givesBack 80 [some (.ref 0), some (.int (iz due)), some (.int (iz l)), some (.int (iz fr)), some (.int (iz kd)), some (.int (iz k)), w6] [] (cmH (u1 (u1 z 21 K) 22 pi) zl (uf (uf (uf (uf f 5 va) 10 pp) 11 li) 12 ty) fl tx) P := by
  obtain ⟨⟨hm1, hm2, hm3⟩, ⟨hm4, hm5, hm6⟩, hm7, hm8, hm9⟩ := mtI_b hM
  intro kF
  induction kF with
  | zero =>
    intro k fr kd hkk hkd hI hk
    exfalso; omega
  | succ kF ih =>
    intro k fr kd hkk hkd hI hk
    refine Rx.walk 3 (pc' := 86) (L' := [some (.ref 0), some (.int (iz due)), some (.int (iz l)), some (.int (iz fr)), some (.int (iz kd)), some (.int (iz k)), w6]) (st' := [.int (iz K), .int (iz k)]) (h' := cmH (u1 (u1 z 21 K) 22 pi) zl (uf (uf (uf (uf f 5 va) 10 pp) 11 li) 12 ty) fl tx) rfl ?_
    refine Rx.ge2 rfl rfl ⟨by omega, by omega⟩ ⟨by omega, by omega⟩ (fun b1 => ?_) (fun b1 => ?_)
    · exact hx0 _ _ _ (by have hf := bkF_c w t l; have hw0 := hw.1; have q := hS; unfold bkS at q; unfold bkT bkG; rcases (show t = 0 ∨ 1 ≤ t by omega) with z | z; (subst z; omega); omega) ⟨by omega, by omega⟩
    · refine Rx.walk 3 (pc' := 95) (L' := [some (.ref 0), some (.int (iz due)), some (.int (iz l)), some (.int (iz fr)), some (.int (iz kd)), some (.int (iz k)), w6]) (st' := [.int (iz k), .ref 12]) (h' := cmH (u1 (u1 z 21 K) 22 pi) zl (uf (uf (uf (uf f 5 va) 10 pp) 11 li) 12 ty) fl tx) rfl ?_
      refine Rx.ial (g := ty) rfl rfl (by omega) (by omega) (by omega) ?_
      have hty := mtI_ty hM (k := k) (by omega) (by omega)
      refine Rx.eq1 rfl rfl ⟨by omega, by omega⟩ (fun b2 => ?_) (fun b2 => ?_)
      · refine Rx.iinc (b := 1) rfl rfl rfl ?_
        refine Rx.walk 0 (pc' := 135) (L' := [some (.ref 0), some (.int (iz due)), some (.int (iz l)), some (.int (iz fr)), some (.int (iz kd)), some (.int (iz (k + 1))), w6]) (st' := []) (h' := cmH (u1 (u1 z 21 K) 22 pi) zl (uf (uf (uf (uf f 5 va) 10 pp) 11 li) 12 ty) fl tx) rfl ?_
        refine Rx.walk 1 (pc' := 80) (L' := [some (.ref 0), some (.int (iz due)), some (.int (iz l)), some (.int (iz fr)), some (.int (iz kd)), some (.int (iz (k + 1))), w6]) (st' := []) (h' := cmH (u1 (u1 z 21 K) 22 pi) zl (uf (uf (uf (uf f 5 va) 10 pp) 11 li) 12 ty) fl tx) rfl ?_
        exact ih (k + 1) fr kd ⟨by omega, by omega⟩ ⟨by omega, by omega⟩ (by first | omega | (rw [← hx]; omega)) (by omega) 
      · refine Rx.walk 3 (pc' := 105) (L' := [some (.ref 0), some (.int (iz due)), some (.int (iz l)), some (.int (iz fr)), some (.int (iz kd)), some (.int (iz k)), w6]) (st' := [.int (iz k), .ref 5]) (h' := cmH (u1 (u1 z 21 K) 22 pi) zl (uf (uf (uf (uf f 5 va) 10 pp) 11 li) 12 ty) fl tx) rfl ?_
        refine Rx.ial (g := va) rfl rfl (by omega) (by omega) (by omega) ?_
        have hx := hva k (by omega) (by omega)
        have hy := hw.2 (k + 1) (by omega) (by omega)
        rw [← hx] at hy
        obtain rfl : t = k + 1 := by omega
        rw [← hx] at hI
        refine Rx.walk 1 (pc' := 107) (L' := [some (.ref 0), some (.int (iz due)), some (.int (iz l)), some (.int (iz fr)), some (.int (iz kd)), some (.int (iz k)), w6]) (st' := [.int (iz l), .int (iz (va k))]) (h' := cmH (u1 (u1 z 21 K) 22 pi) zl (uf (uf (uf (uf f 5 va) 10 pp) 11 li) 12 ty) fl tx) rfl ?_
        refine Rx.gt2 rfl rfl ⟨by omega, by omega⟩ ⟨by omega, by omega⟩ (fun b3 => ?_) (fun b3 => ?_)
        · refine Rx.iinc (b := 1) rfl rfl rfl ?_
          refine Rx.walk 0 (pc' := 135) (L' := [some (.ref 0), some (.int (iz due)), some (.int (iz l)), some (.int (iz fr)), some (.int (iz kd)), some (.int (iz (k + 1))), w6]) (st' := []) (h' := cmH (u1 (u1 z 21 K) 22 pi) zl (uf (uf (uf (uf f 5 va) 10 pp) 11 li) 12 ty) fl tx) rfl ?_
          refine Rx.walk 1 (pc' := 80) (L' := [some (.ref 0), some (.int (iz due)), some (.int (iz l)), some (.int (iz fr)), some (.int (iz kd)), some (.int (iz (k + 1))), w6]) (st' := []) (h' := cmH (u1 (u1 z 21 K) 22 pi) zl (uf (uf (uf (uf f 5 va) 10 pp) 11 li) 12 ty) fl tx) rfl ?_
          exact ih (k + 1) fr kd ⟨by omega, by omega⟩ ⟨by omega, by omega⟩ (by first | omega | (rw [← hx]; omega)) (by omega) 
        · refine Rx.walk 2 (pc' := 113) (L' := [some (.ref 0), some (.int (iz due)), some (.int (iz l)), some (.int (iz fr)), some (.int (iz kd)), some (.int (iz k)), w6]) (st' := [.int (iz (-1)), .int (iz kd)]) (h' := cmH (u1 (u1 z 21 K) 22 pi) zl (uf (uf (uf (uf f 5 va) 10 pp) 11 li) 12 ty) fl tx) rfl ?_
          refine Rx.eq2 rfl rfl ⟨by omega, by omega⟩ ⟨by omega, by omega⟩ (fun b4 => ?_) (fun b4 => ?_)
          · refine Rx.walk 4 (pc' := 132) (L' := [some (.ref 0), some (.int (iz due)), some (.int (iz l)), some (.int (iz 2)), some (.int (iz k)), some (.int (iz k)), w6]) (st' := []) (h' := cmH (u1 (u1 z 21 K) 22 pi) zl (uf (uf (uf (uf f 5 va) 10 pp) 11 li) 12 ty) fl tx) rfl ?_
            refine Rx.iinc (b := 1) rfl rfl rfl ?_
            refine Rx.walk 0 (pc' := 135) (L' := [some (.ref 0), some (.int (iz due)), some (.int (iz l)), some (.int (iz 2)), some (.int (iz k)), some (.int (iz (k + 1))), w6]) (st' := []) (h' := cmH (u1 (u1 z 21 K) 22 pi) zl (uf (uf (uf (uf f 5 va) 10 pp) 11 li) 12 ty) fl tx) rfl ?_
            refine Rx.walk 1 (pc' := 80) (L' := [some (.ref 0), some (.int (iz due)), some (.int (iz l)), some (.int (iz 2)), some (.int (iz k)), some (.int (iz (k + 1))), w6]) (st' := []) (h' := cmH (u1 (u1 z 21 K) 22 pi) zl (uf (uf (uf (uf f 5 va) 10 pp) 11 li) 12 ty) fl tx) rfl ?_
            exact ih (k + 1) 2 k ⟨by omega, by omega⟩ ⟨by omega, by omega⟩ (by first | omega | (rw [← hx]; omega)) (by omega) 
          · refine Rx.walk 2 (pc' := 120) (L' := [some (.ref 0), some (.int (iz due)), some (.int (iz l)), some (.int (iz fr)), some (.int (iz kd)), some (.int (iz k)), w6]) (st' := [.int (iz kd), .int (iz k)]) (h' := cmH (u1 (u1 z 21 K) 22 pi) zl (uf (uf (uf (uf f 5 va) 10 pp) 11 li) 12 ty) fl tx) rfl ?_
            refine Rx.gt2 rfl rfl ⟨by omega, by omega⟩ ⟨by omega, by omega⟩ (fun b5 => ?_) (fun b5 => ?_)
            · refine Rx.walk 4 (pc' := 132) (L' := [some (.ref 0), some (.int (iz due)), some (.int (iz l)), some (.int (iz 2)), some (.int (iz k)), some (.int (iz k)), w6]) (st' := []) (h' := cmH (u1 (u1 z 21 K) 22 pi) zl (uf (uf (uf (uf f 5 va) 10 pp) 11 li) 12 ty) fl tx) rfl ?_
              refine Rx.iinc (b := 1) rfl rfl rfl ?_
              refine Rx.walk 0 (pc' := 135) (L' := [some (.ref 0), some (.int (iz due)), some (.int (iz l)), some (.int (iz 2)), some (.int (iz k)), some (.int (iz (k + 1))), w6]) (st' := []) (h' := cmH (u1 (u1 z 21 K) 22 pi) zl (uf (uf (uf (uf f 5 va) 10 pp) 11 li) 12 ty) fl tx) rfl ?_
              refine Rx.walk 1 (pc' := 80) (L' := [some (.ref 0), some (.int (iz due)), some (.int (iz l)), some (.int (iz 2)), some (.int (iz k)), some (.int (iz (k + 1))), w6]) (st' := []) (h' := cmH (u1 (u1 z 21 K) 22 pi) zl (uf (uf (uf (uf f 5 va) 10 pp) 11 li) 12 ty) fl tx) rfl ?_
              exact ih (k + 1) 2 k ⟨by omega, by omega⟩ ⟨by omega, by omega⟩ (by first | omega | (rw [← hx]; omega)) (by omega) 
            · refine Rx.walk 1 (pc' := 132) (L' := [some (.ref 0), some (.int (iz due)), some (.int (iz l)), some (.int (iz fr)), some (.int (iz kd)), some (.int (iz k)), w6]) (st' := []) (h' := cmH (u1 (u1 z 21 K) 22 pi) zl (uf (uf (uf (uf f 5 va) 10 pp) 11 li) 12 ty) fl tx) rfl ?_
              refine Rx.iinc (b := 1) rfl rfl rfl ?_
              refine Rx.walk 0 (pc' := 135) (L' := [some (.ref 0), some (.int (iz due)), some (.int (iz l)), some (.int (iz fr)), some (.int (iz kd)), some (.int (iz (k + 1))), w6]) (st' := []) (h' := cmH (u1 (u1 z 21 K) 22 pi) zl (uf (uf (uf (uf f 5 va) 10 pp) 11 li) 12 ty) fl tx) rfl ?_
              refine Rx.walk 1 (pc' := 80) (L' := [some (.ref 0), some (.int (iz due)), some (.int (iz l)), some (.int (iz fr)), some (.int (iz kd)), some (.int (iz (k + 1))), w6]) (st' := []) (h' := cmH (u1 (u1 z 21 K) 22 pi) zl (uf (uf (uf (uf f 5 va) 10 pp) 11 li) 12 ty) fl tx) rfl ?_
              exact ih (k + 1) fr kd ⟨by omega, by omega⟩ ⟨by omega, by omega⟩ (by first | omega | (rw [← hx]; omega)) (by omega) 

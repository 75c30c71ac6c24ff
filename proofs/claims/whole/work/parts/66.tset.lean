/-! sets of tills: contracts (printed by wip/whole/gents.py) -/
theorem md_s (a n : Int) : (a % n + 1) % n = (a + 1) % n := by rw [Int.add_emod, Int.emod_emod, ← Int.add_emod]
set_option maxRecDepth 100000 in
set_option maxHeartbeats 4000000 in
theorem x_add_l (d : Nat) (z : Nat → Nat → Int) (f : Nat → Int → Int) (C : Nat → CuR) (T : Nat → TsR) (rc : Nat → Nat) (tl : AmH)  (t : Nat) (till : Int) (sz : Int) (sl : Int → Int) (ho : Int → Int) (ti : Int → Int) (ht_ : t < 7) (hI : tsI t sz sl ho ti) (hv : 0 ≤ till ∧ till < 2147483648) (P : Option Value → AmH → Prop) (hx0 : ∀ (r : Int) (sz' : Int) (sl' : Int → Int) (ho' : Int → Int) (ti' : Int → Int), (tsI t sz' sl' ho' ti') → ((r = -1 ∧ sz = tlm t ∧ sz' = sz ∧ ti' = ti ∧ ∀ j : Int, 0 ≤ j → j < sz → ti j ≠ till) ∨ (0 ≤ r ∧ r < sz ∧ ti r = till ∧ sz' = sz ∧ ti' = ti) ∨ (r = sz ∧ sz < tlm t ∧ sz' = sz + 1 ∧ ti' = iu ti sz till ∧ ∀ j : Int, 0 ≤ j → j < sz → ti j ≠ till)) → P (some (.int (iz r))) (cxW z f C (uT T t (sz', sl', ho', ti')) rc tl)) : ∀ (k : Nat) (s : Int) (i : Int) (w4 : Option Value), (0 ≤ i) → (i ≤ tsn t) → (0 ≤ s) → (s < tsn t) → (s = (hs (tsh t) till + i) % tsn t) → (∀ k' : Int, 0 ≤ k' → k' < i → vsl sz sl ho ((hs (tsh t) till + k') % tsn t) ∧ ti (sl ((hs (tsh t) till + k') % tsn t)) ≠ till) → ((tsn t : Int) - i) < (k : Int) → Rx (d) m_X9_add 12 [some (.ref (tpl t)), some (.int (iz till)), some (.int (iz s)), some (.int (iz i)), w4] [] (cxW z f C (uT T t (sz, sl, ho, ti)) rc tl) P := by
  have hc := tcases ht_
  have hl := tln_tlm ht_
  obtain ⟨hI1, hI2, hI3, hI4, hI5, hI6, -⟩ := id hI
  intro k
  induction k with
  | zero =>
    intro s i w4 i0 i1 s0 s1 es hall hk
    exfalso; omega
  | succ k ih =>
    intro s i w4 i0 i1 s0 s1 es hall hk
    refine Rx.walk 2 (pc' := 14) (L' := [some (.ref (tpl t)), some (.int (iz till)), some (.int (iz s)), some (.int (iz i)), w4]) (st' := [.ref (tpl t), .int (iz i)]) (h' := cxW z f C (uT T t (sz, sl, ho, ti)) rc tl) rfl ?_
    refine Rx.gfS rfl rfl (cW_Tu (by omega)) rfl ?_
    refine Rx.alS rfl (cW_T1u (by omega)) ?_
    refine Rx.ge2 rfl rfl ⟨by omega, by omega⟩ ⟨by omega, by omega⟩ (fun b1 => ?_) (fun b1 => ?_)
    · refine Rx.walk 1 (pc' := 137) (L' := [some (.ref (tpl t)), some (.int (iz till)), some (.int (iz s)), some (.int (iz i)), w4]) (st' := [.int (iz (-1))]) (h' := cxW z f C (uT T t (sz, sl, ho, ti)) rc tl) rfl ?_
      refine Rx.ret rfl ?_
      exact hx0 _ _ _ _ _ (tsI_full ht_ hI (fun k' h0 h1 => (hall k' h0 (by omega)).1)).elim (tsI_full ht_ hI (fun k' h0 h1 => (hall k' h0 (by omega)).1)).elim
    · refine Rx.walk 1 (pc' := 22) (L' := [some (.ref (tpl t)), some (.int (iz till)), some (.int (iz s)), some (.int (iz i)), w4]) (st' := [.ref (tpl t)]) (h' := cxW z f C (uT T t (sz, sl, ho, ti)) rc tl) rfl ?_
      refine Rx.gfS rfl rfl (cW_Tu (by omega)) rfl ?_
      refine Rx.walk 1 (pc' := 26) (L' := [some (.ref (tpl t)), some (.int (iz till)), some (.int (iz s)), some (.int (iz i)), w4]) (st' := [.int (iz s), .ref (tpl t + 1)]) (h' := cxW z f C (uT T t (sz, sl, ho, ti)) rc tl) rfl ?_
      refine Rx.ial (g := sl) rfl (cW_T1u (by omega)) (by omega) (by omega) (by omega) ?_
      have r1 := hI3 s s0 s1
      refine Rx.walk 3 (pc' := 32) (L' := [some (.ref (tpl t)), some (.int (iz till)), some (.int (iz s)), some (.int (iz i)), some (.int (iz (sl s)))]) (st' := [.ref (tpl t), .int (iz (sl s))]) (h' := cxW z f C (uT T t (sz, sl, ho, ti)) rc tl) rfl ?_
      refine Rx.gfS rfl rfl (cW_Tu (by omega)) rfl ?_
      refine Rx.ge2 rfl rfl ⟨by omega, by omega⟩ ⟨by omega, by omega⟩ (fun b2 => ?_) (fun b2 => ?_)
      · refine Rx.walk 1 (pc' := 50) (L' := [some (.ref (tpl t)), some (.int (iz till)), some (.int (iz s)), some (.int (iz i)), some (.int (iz (sl s)))]) (st' := [.ref (tpl t)]) (h' := cxW z f C (uT T t (sz, sl, ho, ti)) rc tl) rfl ?_
        refine Rx.gfS rfl rfl (cW_Tu (by omega)) rfl ?_
        refine Rx.walk 1 (pc' := 54) (L' := [some (.ref (tpl t)), some (.int (iz till)), some (.int (iz s)), some (.int (iz i)), some (.int (iz (sl s)))]) (st' := [.ref (tpl t), .int (iz sz)]) (h' := cxW z f C (uT T t (sz, sl, ho, ti)) rc tl) rfl ?_
        refine Rx.gfS rfl rfl (cW_Tu (by omega)) rfl ?_
        refine Rx.lt2 rfl rfl ⟨by omega, by omega⟩ ⟨by omega, by omega⟩ (fun b3 => ?_) (fun b3 => ?_)
        · refine Rx.walk 1 (pc' := 63) (L' := [some (.ref (tpl t)), some (.int (iz till)), some (.int (iz s)), some (.int (iz i)), some (.int (iz (sl s)))]) (st' := [.ref (tpl t)]) (h' := cxW z f C (uT T t (sz, sl, ho, ti)) rc tl) rfl ?_
          refine Rx.gfS rfl rfl (cW_Tu (by omega)) rfl ?_
          refine Rx.walk 2 (pc' := 68) (L' := [some (.ref (tpl t)), some (.int (iz till)), some (.int (iz s)), some (.int (iz i)), some (.int (iz (sl s)))]) (st' := [.ref (tpl t), .int (iz s), .ref (tpl t + 1)]) (h' := cxW z f C (uT T t (sz, sl, ho, ti)) rc tl) rfl ?_
          refine Rx.gfS rfl rfl (cW_Tu (by omega)) rfl ?_
          refine Rx.ias (g := sl) (h' := cxW z f C (uT T t (sz, (iu sl s sz), ho, ti)) rc tl) rfl (cW_T1u (by omega)) (by omega) (by omega) (by omega) (cW_T1q (by omega)) ?_
          refine Rx.walk 1 (pc' := 73) (L' := [some (.ref (tpl t)), some (.int (iz till)), some (.int (iz s)), some (.int (iz i)), some (.int (iz (sl s)))]) (st' := [.ref (tpl t)]) (h' := cxW z f C (uT T t (sz, (iu sl s sz), ho, ti)) rc tl) rfl ?_
          refine Rx.gfS rfl rfl (cW_Tu (by omega)) rfl ?_
          refine Rx.walk 1 (pc' := 77) (L' := [some (.ref (tpl t)), some (.int (iz till)), some (.int (iz s)), some (.int (iz i)), some (.int (iz (sl s)))]) (st' := [.ref (tpl t), .ref (tpl t + 2)]) (h' := cxW z f C (uT T t (sz, (iu sl s sz), ho, ti)) rc tl) rfl ?_
          refine Rx.gfS rfl rfl (cW_Tu (by omega)) rfl ?_
          refine Rx.walk 1 (pc' := 81) (L' := [some (.ref (tpl t)), some (.int (iz till)), some (.int (iz s)), some (.int (iz i)), some (.int (iz (sl s)))]) (st' := [.int (iz s), .int (iz sz), .ref (tpl t + 2)]) (h' := cxW z f C (uT T t (sz, (iu sl s sz), ho, ti)) rc tl) rfl ?_
          refine Rx.ias (g := ho) (h' := cxW z f C (uT T t (sz, (iu sl s sz), (iu ho sz s), ti)) rc tl) rfl (cW_T2u (by omega)) (by omega) (by omega) (by omega) (cW_T2q (by omega)) ?_
          refine Rx.walk 1 (pc' := 83) (L' := [some (.ref (tpl t)), some (.int (iz till)), some (.int (iz s)), some (.int (iz i)), some (.int (iz (sl s)))]) (st' := [.ref (tpl t)]) (h' := cxW z f C (uT T t (sz, (iu sl s sz), (iu ho sz s), ti)) rc tl) rfl ?_
          refine Rx.gfS rfl rfl (cW_Tu (by omega)) rfl ?_
          refine Rx.walk 1 (pc' := 87) (L' := [some (.ref (tpl t)), some (.int (iz till)), some (.int (iz s)), some (.int (iz i)), some (.int (iz (sl s)))]) (st' := [.ref (tpl t), .ref (tpl t + 3)]) (h' := cxW z f C (uT T t (sz, (iu sl s sz), (iu ho sz s), ti)) rc tl) rfl ?_
          refine Rx.gfS rfl rfl (cW_Tu (by omega)) rfl ?_
          refine Rx.walk 1 (pc' := 91) (L' := [some (.ref (tpl t)), some (.int (iz till)), some (.int (iz s)), some (.int (iz i)), some (.int (iz (sl s)))]) (st' := [.int (iz till), .int (iz sz), .ref (tpl t + 3)]) (h' := cxW z f C (uT T t (sz, (iu sl s sz), (iu ho sz s), ti)) rc tl) rfl ?_
          refine Rx.ias (g := ti) (h' := cxW z f C (uT T t (sz, (iu sl s sz), (iu ho sz s), (iu ti sz till))) rc tl) rfl (cW_T3u (by omega)) (by omega) (by omega) (by omega) (cW_T3q (by omega)) ?_
          refine Rx.walk 2 (pc' := 94) (L' := [some (.ref (tpl t)), some (.int (iz till)), some (.int (iz s)), some (.int (iz i)), some (.int (iz (sl s)))]) (st' := [.ref (tpl t), .ref (tpl t)]) (h' := cxW z f C (uT T t (sz, (iu sl s sz), (iu ho sz s), (iu ti sz till))) rc tl) rfl ?_
          refine Rx.gfS rfl rfl (cW_Tu (by omega)) rfl ?_
          refine Rx.walk 2 (pc' := 99) (L' := [some (.ref (tpl t)), some (.int (iz till)), some (.int (iz s)), some (.int (iz i)), some (.int (iz (sl s)))]) (st' := [.int (iz 1), .int (iz sz), .ref (tpl t), .int (iz sz)]) (h' := cxW z f C (uT T t (sz, (iu sl s sz), (iu ho sz s), (iu ti sz till))) rc tl) rfl ?_
          refine Rx.iadd rfl ?_
          refine Rx.pfS (h' := cxW z f C (uT T t ((sz + 1), (iu sl s sz), (iu ho sz s), (iu ti sz till))) rc tl) rfl rfl (cW_Tu (by omega)) rfl (cW_T0q (by omega)) ?_
          refine Rx.walk 0 (pc' := 103) (L' := [some (.ref (tpl t)), some (.int (iz till)), some (.int (iz s)), some (.int (iz i)), some (.int (iz (sl s)))]) (st' := [.int (iz sz)]) (h' := cxW z f C (uT T t ((sz + 1), (iu sl s sz), (iu ho sz s), (iu ti sz till))) rc tl) rfl ?_
          refine Rx.ret rfl ?_
          exact hx0 _ _ _ _ _ (tsI_ins ht_ hI (by omega) (by omega) hall (by rw [← es]; rintro ⟨q1, q2⟩; omega) (by omega) hv es) (Or.inr (Or.inr ⟨rfl, by omega, rfl, rfl, tsI_new hI (by omega) (by omega) hall (by rw [← es]; rintro ⟨q1, q2⟩; omega)⟩))
        · refine Rx.walk 1 (pc' := 61) (L' := [some (.ref (tpl t)), some (.int (iz till)), some (.int (iz s)), some (.int (iz i)), some (.int (iz (sl s)))]) (st' := [.int (iz (-1))]) (h' := cxW z f C (uT T t (sz, sl, ho, ti)) rc tl) rfl ?_
          refine Rx.ret rfl ?_
          exact hx0 _ _ _ _ _ hI (Or.inl ⟨rfl, by omega, rfl, rfl, tsI_new hI (by omega) (by omega) hall (by rw [← es]; rintro ⟨q1, q2⟩; omega)⟩)
      · refine Rx.walk 1 (pc' := 39) (L' := [some (.ref (tpl t)), some (.int (iz till)), some (.int (iz s)), some (.int (iz i)), some (.int (iz (sl s)))]) (st' := [.ref (tpl t)]) (h' := cxW z f C (uT T t (sz, sl, ho, ti)) rc tl) rfl ?_
        refine Rx.gfS rfl rfl (cW_Tu (by omega)) rfl ?_
        refine Rx.walk 1 (pc' := 44) (L' := [some (.ref (tpl t)), some (.int (iz till)), some (.int (iz s)), some (.int (iz i)), some (.int (iz (sl s)))]) (st' := [.int (iz (sl s)), .ref (tpl t + 2)]) (h' := cxW z f C (uT T t (sz, sl, ho, ti)) rc tl) rfl ?_
        refine Rx.ial (g := ho) rfl (cW_T2u (by omega)) (by omega) (by omega) (by omega) ?_
        have r2 := hI4 (sl s) (by omega) (by omega)
        refine Rx.walk 1 (pc' := 46) (L' := [some (.ref (tpl t)), some (.int (iz till)), some (.int (iz s)), some (.int (iz i)), some (.int (iz (sl s)))]) (st' := [.int (iz s), .int (iz (ho (sl s)))]) (h' := cxW z f C (uT T t (sz, sl, ho, ti)) rc tl) rfl ?_
        refine Rx.eq2 rfl rfl ⟨by omega, by omega⟩ ⟨by omega, by omega⟩ (fun b4 => ?_) (fun b4 => ?_)
        · refine Rx.walk 1 (pc' := 105) (L' := [some (.ref (tpl t)), some (.int (iz till)), some (.int (iz s)), some (.int (iz i)), some (.int (iz (sl s)))]) (st' := [.ref (tpl t)]) (h' := cxW z f C (uT T t (sz, sl, ho, ti)) rc tl) rfl ?_
          refine Rx.gfS rfl rfl (cW_Tu (by omega)) rfl ?_
          refine Rx.walk 1 (pc' := 110) (L' := [some (.ref (tpl t)), some (.int (iz till)), some (.int (iz s)), some (.int (iz i)), some (.int (iz (sl s)))]) (st' := [.int (iz (sl s)), .ref (tpl t + 3)]) (h' := cxW z f C (uT T t (sz, sl, ho, ti)) rc tl) rfl ?_
          refine Rx.ial (g := ti) rfl (cW_T3u (by omega)) (by omega) (by omega) (by omega) ?_
          have r3 := hI6 (sl s) (by omega) (by omega)
          refine Rx.walk 1 (pc' := 112) (L' := [some (.ref (tpl t)), some (.int (iz till)), some (.int (iz s)), some (.int (iz i)), some (.int (iz (sl s)))]) (st' := [.int (iz till), .int (iz (ti (sl s)))]) (h' := cxW z f C (uT T t (sz, sl, ho, ti)) rc tl) rfl ?_
          refine Rx.ne2 rfl rfl ⟨by omega, by omega⟩ ⟨by omega, by omega⟩ (fun b5 => ?_) (fun b5 => ?_)
          · refine Rx.walk 2 (pc' := 120) (L' := [some (.ref (tpl t)), some (.int (iz till)), some (.int (iz s)), some (.int (iz i)), some (.int (iz (sl s)))]) (st' := [.int (iz 1), .int (iz s)]) (h' := cxW z f C (uT T t (sz, sl, ho, ti)) rc tl) rfl ?_
            refine Rx.iadd rfl ?_
            refine Rx.walk 1 (pc' := 122) (L' := [some (.ref (tpl t)), some (.int (iz till)), some (.int (iz s)), some (.int (iz i)), some (.int (iz (sl s)))]) (st' := [.ref (tpl t), .int (iz (s + 1))]) (h' := cxW z f C (uT T t (sz, sl, ho, ti)) rc tl) rfl ?_
            refine Rx.gfS rfl rfl (cW_Tu (by omega)) rfl ?_
            refine Rx.alS rfl (cW_T1u (by omega)) ?_
            refine Rx.walk 1 (pc' := 127) (L' := [some (.ref (tpl t)), some (.int (iz till)), some (.int (iz s)), some (.int (iz i)), some (.int (iz (sl s)))]) (st' := [.int (iz 1), .int (iz ((tsn t) : Int)), .int (iz (s + 1))]) (h' := cxW z f C (uT T t (sz, sl, ho, ti)) rc tl) rfl ?_
            refine Rx.isub rfl ?_
            refine Rx.iand (c := ((s + 1) % (tsn t : Int))) rfl (ts_and ht_ _) ?_
            refine Rx.walk 1 (pc' := 130) (L' := [some (.ref (tpl t)), some (.int (iz till)), some (.int (iz ((s + 1) % (tsn t : Int)))), some (.int (iz i)), some (.int (iz (sl s)))]) (st' := []) (h' := cxW z f C (uT T t (sz, sl, ho, ti)) rc tl) rfl ?_
            refine Rx.iinc (b := 1) rfl rfl rfl ?_
            refine Rx.walk 0 (pc' := 133) (L' := [some (.ref (tpl t)), some (.int (iz till)), some (.int (iz ((s + 1) % (tsn t : Int)))), some (.int (iz (i + 1))), some (.int (iz (sl s)))]) (st' := []) (h' := cxW z f C (uT T t (sz, sl, ho, ti)) rc tl) rfl ?_
            refine Rx.walk 1 (pc' := 12) (L' := [some (.ref (tpl t)), some (.int (iz till)), some (.int (iz ((s + 1) % (tsn t : Int)))), some (.int (iz (i + 1))), some (.int (iz (sl s)))]) (st' := []) (h' := cxW z f C (uT T t (sz, sl, ho, ti)) rc tl) rfl ?_
            have g1 : 0 ≤ (s + 1) % (tsn t : Int) := Int.emod_nonneg _ (by omega)
            have g2 : (s + 1) % (tsn t : Int) < tsn t := Int.emod_lt_of_pos _ (by omega)
            exact ih ((s + 1) % (tsn t : Int)) (i + 1) (some (.int (iz (sl s)))) (by first | assumption | omega) (by first | assumption | omega) g1 g2 (by rw [es, md_s, Int.add_assoc]) (fun k' h0 h1 => by rcases (show k' < i ∨ k' = i by omega) with q | q; exact hall k' h0 q; subst q; rw [← es]; exact ⟨⟨by omega, by omega⟩, by omega⟩) (by first | assumption | omega) 
          · refine Rx.walk 1 (pc' := 117) (L' := [some (.ref (tpl t)), some (.int (iz till)), some (.int (iz s)), some (.int (iz i)), some (.int (iz (sl s)))]) (st' := [.int (iz (sl s))]) (h' := cxW z f C (uT T t (sz, sl, ho, ti)) rc tl) rfl ?_
            refine Rx.ret rfl ?_
            exact hx0 _ _ _ _ _ hI (Or.inr (Or.inl ⟨by omega, by omega, by omega, rfl, rfl⟩))
        · refine Rx.walk 1 (pc' := 50) (L' := [some (.ref (tpl t)), some (.int (iz till)), some (.int (iz s)), some (.int (iz i)), some (.int (iz (sl s)))]) (st' := [.ref (tpl t)]) (h' := cxW z f C (uT T t (sz, sl, ho, ti)) rc tl) rfl ?_
          refine Rx.gfS rfl rfl (cW_Tu (by omega)) rfl ?_
          refine Rx.walk 1 (pc' := 54) (L' := [some (.ref (tpl t)), some (.int (iz till)), some (.int (iz s)), some (.int (iz i)), some (.int (iz (sl s)))]) (st' := [.ref (tpl t), .int (iz sz)]) (h' := cxW z f C (uT T t (sz, sl, ho, ti)) rc tl) rfl ?_
          refine Rx.gfS rfl rfl (cW_Tu (by omega)) rfl ?_
          refine Rx.lt2 rfl rfl ⟨by omega, by omega⟩ ⟨by omega, by omega⟩ (fun b6 => ?_) (fun b6 => ?_)
          · refine Rx.walk 1 (pc' := 63) (L' := [some (.ref (tpl t)), some (.int (iz till)), some (.int (iz s)), some (.int (iz i)), some (.int (iz (sl s)))]) (st' := [.ref (tpl t)]) (h' := cxW z f C (uT T t (sz, sl, ho, ti)) rc tl) rfl ?_
            refine Rx.gfS rfl rfl (cW_Tu (by omega)) rfl ?_
            refine Rx.walk 2 (pc' := 68) (L' := [some (.ref (tpl t)), some (.int (iz till)), some (.int (iz s)), some (.int (iz i)), some (.int (iz (sl s)))]) (st' := [.ref (tpl t), .int (iz s), .ref (tpl t + 1)]) (h' := cxW z f C (uT T t (sz, sl, ho, ti)) rc tl) rfl ?_
            refine Rx.gfS rfl rfl (cW_Tu (by omega)) rfl ?_
            refine Rx.ias (g := sl) (h' := cxW z f C (uT T t (sz, (iu sl s sz), ho, ti)) rc tl) rfl (cW_T1u (by omega)) (by omega) (by omega) (by omega) (cW_T1q (by omega)) ?_
            refine Rx.walk 1 (pc' := 73) (L' := [some (.ref (tpl t)), some (.int (iz till)), some (.int (iz s)), some (.int (iz i)), some (.int (iz (sl s)))]) (st' := [.ref (tpl t)]) (h' := cxW z f C (uT T t (sz, (iu sl s sz), ho, ti)) rc tl) rfl ?_
            refine Rx.gfS rfl rfl (cW_Tu (by omega)) rfl ?_
            refine Rx.walk 1 (pc' := 77) (L' := [some (.ref (tpl t)), some (.int (iz till)), some (.int (iz s)), some (.int (iz i)), some (.int (iz (sl s)))]) (st' := [.ref (tpl t), .ref (tpl t + 2)]) (h' := cxW z f C (uT T t (sz, (iu sl s sz), ho, ti)) rc tl) rfl ?_
            refine Rx.gfS rfl rfl (cW_Tu (by omega)) rfl ?_
            refine Rx.walk 1 (pc' := 81) (L' := [some (.ref (tpl t)), some (.int (iz till)), some (.int (iz s)), some (.int (iz i)), some (.int (iz (sl s)))]) (st' := [.int (iz s), .int (iz sz), .ref (tpl t + 2)]) (h' := cxW z f C (uT T t (sz, (iu sl s sz), ho, ti)) rc tl) rfl ?_
            refine Rx.ias (g := ho) (h' := cxW z f C (uT T t (sz, (iu sl s sz), (iu ho sz s), ti)) rc tl) rfl (cW_T2u (by omega)) (by omega) (by omega) (by omega) (cW_T2q (by omega)) ?_
            refine Rx.walk 1 (pc' := 83) (L' := [some (.ref (tpl t)), some (.int (iz till)), some (.int (iz s)), some (.int (iz i)), some (.int (iz (sl s)))]) (st' := [.ref (tpl t)]) (h' := cxW z f C (uT T t (sz, (iu sl s sz), (iu ho sz s), ti)) rc tl) rfl ?_
            refine Rx.gfS rfl rfl (cW_Tu (by omega)) rfl ?_
            refine Rx.walk 1 (pc' := 87) (L' := [some (.ref (tpl t)), some (.int (iz till)), some (.int (iz s)), some (.int (iz i)), some (.int (iz (sl s)))]) (st' := [.ref (tpl t), .ref (tpl t + 3)]) (h' := cxW z f C (uT T t (sz, (iu sl s sz), (iu ho sz s), ti)) rc tl) rfl ?_
            refine Rx.gfS rfl rfl (cW_Tu (by omega)) rfl ?_
            refine Rx.walk 1 (pc' := 91) (L' := [some (.ref (tpl t)), some (.int (iz till)), some (.int (iz s)), some (.int (iz i)), some (.int (iz (sl s)))]) (st' := [.int (iz till), .int (iz sz), .ref (tpl t + 3)]) (h' := cxW z f C (uT T t (sz, (iu sl s sz), (iu ho sz s), ti)) rc tl) rfl ?_
            refine Rx.ias (g := ti) (h' := cxW z f C (uT T t (sz, (iu sl s sz), (iu ho sz s), (iu ti sz till))) rc tl) rfl (cW_T3u (by omega)) (by omega) (by omega) (by omega) (cW_T3q (by omega)) ?_
            refine Rx.walk 2 (pc' := 94) (L' := [some (.ref (tpl t)), some (.int (iz till)), some (.int (iz s)), some (.int (iz i)), some (.int (iz (sl s)))]) (st' := [.ref (tpl t), .ref (tpl t)]) (h' := cxW z f C (uT T t (sz, (iu sl s sz), (iu ho sz s), (iu ti sz till))) rc tl) rfl ?_
            refine Rx.gfS rfl rfl (cW_Tu (by omega)) rfl ?_
            refine Rx.walk 2 (pc' := 99) (L' := [some (.ref (tpl t)), some (.int (iz till)), some (.int (iz s)), some (.int (iz i)), some (.int (iz (sl s)))]) (st' := [.int (iz 1), .int (iz sz), .ref (tpl t), .int (iz sz)]) (h' := cxW z f C (uT T t (sz, (iu sl s sz), (iu ho sz s), (iu ti sz till))) rc tl) rfl ?_
            refine Rx.iadd rfl ?_
            refine Rx.pfS (h' := cxW z f C (uT T t ((sz + 1), (iu sl s sz), (iu ho sz s), (iu ti sz till))) rc tl) rfl rfl (cW_Tu (by omega)) rfl (cW_T0q (by omega)) ?_
            refine Rx.walk 0 (pc' := 103) (L' := [some (.ref (tpl t)), some (.int (iz till)), some (.int (iz s)), some (.int (iz i)), some (.int (iz (sl s)))]) (st' := [.int (iz sz)]) (h' := cxW z f C (uT T t ((sz + 1), (iu sl s sz), (iu ho sz s), (iu ti sz till))) rc tl) rfl ?_
            refine Rx.ret rfl ?_
            exact hx0 _ _ _ _ _ (tsI_ins ht_ hI (by omega) (by omega) hall (by rw [← es]; rintro ⟨q1, q2⟩; omega) (by omega) hv es) (Or.inr (Or.inr ⟨rfl, by omega, rfl, rfl, tsI_new hI (by omega) (by omega) hall (by rw [← es]; rintro ⟨q1, q2⟩; omega)⟩))
          · refine Rx.walk 1 (pc' := 61) (L' := [some (.ref (tpl t)), some (.int (iz till)), some (.int (iz s)), some (.int (iz i)), some (.int (iz (sl s)))]) (st' := [.int (iz (-1))]) (h' := cxW z f C (uT T t (sz, sl, ho, ti)) rc tl) rfl ?_
            refine Rx.ret rfl ?_
            exact hx0 _ _ _ _ _ hI (Or.inl ⟨rfl, by omega, rfl, rfl, tsI_new hI (by omega) (by omega) hall (by rw [← es]; rintro ⟨q1, q2⟩; omega)⟩)
set_option maxRecDepth 100000 in
set_option maxHeartbeats 4000000 in
theorem x_add (d : Nat) (z : Nat → Nat → Int) (f : Nat → Int → Int) (C : Nat → CuR) (T : Nat → TsR) (rc : Nat → Nat) (tl : AmH)  (t : Nat) (till : Int) (sz : Int) (sl : Int → Int) (ho : Int → Int) (ti : Int → Int) (ht_ : t < 7) (hI : tsI t sz sl ho ti) (hv : 0 ≤ till ∧ till < 2147483648) : Rx (d) m_X9_add 0 (am_ent [.ref (tpl t), .int (iz till)] 5) [] (cxW z f C (uT T t (sz, sl, ho, ti)) rc tl) (fun rv h => ∃ r : Int, ∃ sz' : Int, ∃ sl' : Int → Int, ∃ ho' : Int → Int, ∃ ti' : Int → Int, rv = some (.int (iz r)) ∧ h = cxW z f C (uT T t (sz', sl', ho', ti')) rc tl ∧ tsI t sz' sl' ho' ti' ∧ ((r = -1 ∧ sz = tlm t ∧ sz' = sz ∧ ti' = ti ∧ ∀ j : Int, 0 ≤ j → j < sz → ti j ≠ till) ∨ (0 ≤ r ∧ r < sz ∧ ti r = till ∧ sz' = sz ∧ ti' = ti) ∨ (r = sz ∧ sz < tlm t ∧ sz' = sz + 1 ∧ ti' = iu ti sz till ∧ ∀ j : Int, 0 ≤ j → j < sz → ti j ≠ till))) := by
  have hc := tcases ht_
  have hl := tln_tlm ht_
  obtain ⟨hI1, hI2, hI3, hI4, hI5, hI6, -⟩ := id hI
  have hb := hs_b ht_ till
  refine Rx.walk 0 (pc' := 0) (L' := [some (.ref (tpl t)), some (.int (iz till)), none, none, none]) (st' := []) (h' := cxW z f C (uT T t (sz, sl, ho, ti)) rc tl) rfl ?_
  refine Rx.walk 2 (pc' := 3) (L' := [some (.ref (tpl t)), some (.int (iz till)), none, none, none]) (st' := [.int (iz (-1640531535)), .int (iz till)]) (h' := cxW z f C (uT T t (sz, sl, ho, ti)) rc tl) rfl ?_
  refine Rx.imul rfl ?_
  refine Rx.walk 1 (pc' := 5) (L' := [some (.ref (tpl t)), some (.int (iz till)), none, none, none]) (st' := [.ref (tpl t), .int (iz (till * (-1640531535)))]) (h' := cxW z f C (uT T t (sz, sl, ho, ti)) rc tl) rfl ?_
  refine Rx.gfS rfl rfl (cW_Tu (by omega)) rfl ?_
  refine Rx.iushr (c := (hs (tsh t) till)) rfl (hs_ushr ht_ till) ?_
  refine Rx.walk 3 (pc' := 12) (L' := [some (.ref (tpl t)), some (.int (iz till)), some (.int (iz (hs (tsh t) till))), some (.int (iz 0)), none]) (st' := []) (h' := cxW z f C (uT T t (sz, sl, ho, ti)) rc tl) rfl ?_
  refine x_add_l _ z f C T rc tl t till sz sl ho ti ht_ hI hv _ ?_ (((tsn t : Int) - 0) + 1).toNat (hs (tsh t) till) 0 none (by first | assumption | omega) (by first | assumption | omega) (by first | assumption | omega) (by first | assumption | omega) (by rw [Int.add_zero, Int.emod_eq_of_lt hb.1 hb.2]) (fun k' h0 h1 => by omega) (by omega) 
  intro r_1 sz_2 sl_3 ho_4 ti_5 f6 f7
  exact ⟨_, _, _, _, _, rfl, rfl, f6, f7⟩
set_option maxRecDepth 100000 in
set_option maxHeartbeats 4000000 in
theorem x_answer (d : Nat) (z : Nat → Nat → Int) (f : Nat → Int → Int) (C : Nat → CuR) (T : Nat → TsR) (rc : Nat → Nat) (tl : AmH)  (t : Nat) (k : Int) (sz : Int) (sl : Int → Int) (ho : Int → Int) (ti : Int → Int) (ht_ : t < 7) (h0 : 0 ≤ sz) (h1 : sz ≤ tlm t) (hk : bI k) : Rx (d) m_X9_answer 0 (am_ent [.ref (tpl t), .int (iz k)] 2) [] (cxW z f C (uT T t (sz, sl, ho, ti)) rc tl) (fun rv h => ∃ r : Int, rv = some (.int (iz r)) ∧ h = cxW z f C (uT T t (sz, sl, ho, ti)) rc tl ∧ ((k = -1 ∧ r = sz) ∨ (0 ≤ k ∧ k < sz ∧ r = ti k) ∨ ((k < -1 ∨ sz ≤ k) ∧ r = -1))) := by
  have hc := tcases ht_
  have hl := tln_tlm ht_
  have hk2 := hk.1
  have hk3 := hk.2
  refine Rx.walk 0 (pc' := 0) (L' := [some (.ref (tpl t)), some (.int (iz k))]) (st' := []) (h' := cxW z f C (uT T t (sz, sl, ho, ti)) rc tl) rfl ?_
  refine Rx.walk 2 (pc' := 2) (L' := [some (.ref (tpl t)), some (.int (iz k))]) (st' := [.int (iz (-1)), .int (iz k)]) (h' := cxW z f C (uT T t (sz, sl, ho, ti)) rc tl) rfl ?_
  refine Rx.ne2 rfl rfl ⟨by omega, by omega⟩ ⟨by omega, by omega⟩ (fun b1 => ?_) (fun b1 => ?_)
  · refine Rx.walk 1 (pc' := 11) (L' := [some (.ref (tpl t)), some (.int (iz k))]) (st' := [.int (iz k)]) (h' := cxW z f C (uT T t (sz, sl, ho, ti)) rc tl) rfl ?_
    refine Rx.lt1 rfl rfl ⟨by omega, by omega⟩ (fun b2 => ?_) (fun b2 => ?_)
    · refine Rx.walk 1 (pc' := 32) (L' := [some (.ref (tpl t)), some (.int (iz k))]) (st' := [.int (iz (-1))]) (h' := cxW z f C (uT T t (sz, sl, ho, ti)) rc tl) rfl ?_
      refine Rx.ret rfl ?_
      exact ⟨_, rfl, rfl, (by omega)⟩
    · refine Rx.walk 2 (pc' := 16) (L' := [some (.ref (tpl t)), some (.int (iz k))]) (st' := [.ref (tpl t), .int (iz k)]) (h' := cxW z f C (uT T t (sz, sl, ho, ti)) rc tl) rfl ?_
      refine Rx.gfS rfl rfl (cW_Tu (by omega)) rfl ?_
      refine Rx.ge2 rfl rfl ⟨by omega, by omega⟩ ⟨by omega, by omega⟩ (fun b3 => ?_) (fun b3 => ?_)
      · refine Rx.walk 1 (pc' := 32) (L' := [some (.ref (tpl t)), some (.int (iz k))]) (st' := [.int (iz (-1))]) (h' := cxW z f C (uT T t (sz, sl, ho, ti)) rc tl) rfl ?_
        refine Rx.ret rfl ?_
        exact ⟨_, rfl, rfl, (by omega)⟩
      · refine Rx.walk 1 (pc' := 23) (L' := [some (.ref (tpl t)), some (.int (iz k))]) (st' := [.ref (tpl t)]) (h' := cxW z f C (uT T t (sz, sl, ho, ti)) rc tl) rfl ?_
        refine Rx.gfS rfl rfl (cW_Tu (by omega)) rfl ?_
        refine Rx.walk 1 (pc' := 27) (L' := [some (.ref (tpl t)), some (.int (iz k))]) (st' := [.int (iz k), .ref (tpl t + 3)]) (h' := cxW z f C (uT T t (sz, sl, ho, ti)) rc tl) rfl ?_
        refine Rx.ial (g := ti) rfl (cW_T3u (by omega)) (by omega) (by omega) (by omega) ?_
        refine Rx.walk 1 (pc' := 32) (L' := [some (.ref (tpl t)), some (.int (iz k))]) (st' := [.int (iz (ti k))]) (h' := cxW z f C (uT T t (sz, sl, ho, ti)) rc tl) rfl ?_
        refine Rx.ret rfl ?_
        exact ⟨_, rfl, rfl, (by omega)⟩
  · refine Rx.walk 1 (pc' := 6) (L' := [some (.ref (tpl t)), some (.int (iz k))]) (st' := [.ref (tpl t)]) (h' := cxW z f C (uT T t (sz, sl, ho, ti)) rc tl) rfl ?_
    refine Rx.gfS rfl rfl (cW_Tu (by omega)) rfl ?_
    refine Rx.ret rfl ?_
    exact ⟨_, rfl, rfl, (by omega)⟩
def srtI (n : Int) (g : Int → Int) : Prop := ∀ a b : Int, 0 ≤ a → a < b → b < n → g a ≤ g b
def bdI (n : Int) (g : Int → Int) : Prop := ∀ a : Int, 0 ≤ a → a < n → 0 ≤ g a ∧ g a < 2147483648
theorem bdI_iu {n : Int} {g : Int → Int} {j x : Int} (h : bdI n g) (h0 : 0 ≤ x) (h1 : x < 2147483648) : bdI n (iu g j x) := fun a a0 a1 => by
  by_cases e : a = j
  · rw [e, iu_at]; omega
  · rw [iu_ne _ _ e]; exact h a a0 a1
/-- a hole goes down by one step of the sort -/
theorem cnt_hole {n : Nat} {g : Int → Int} {j k v : Int} (h0 : 0 ≤ j) (h1 : j < n) (h2 : 0 ≤ k) (h3 : k < n) (hk : k ≠ j) (x : Int) : (lsI n (iu (iu g j (g k)) k v)).count x = (lsI n (iu g j v)).count x := by
  have e1 := cnt_iu (iu g j (g k)) k v x n h2 h3
  have e2 := cnt_iu g j (g k) x n h0 h1
  have e3 := cnt_iu g j v x n h0 h1
  rw [iu_ne _ _ hk] at e1
  omega
theorem cnt_self {n : Nat} {g : Int → Int} {j : Int} (x : Int) : (lsI n (iu g j (g j))).count x = (lsI n g).count x := by
  rw [lsI_congr (g := iu g j (g j)) (h := g) (fun i h0 h1 => by by_cases e : i = j; rw [e, iu_at]; rw [iu_ne _ _ e])]
set_option maxRecDepth 100000 in
set_option maxHeartbeats 4000000 in
theorem x_sort_j (d : Nat) (z : Nat → Nat → Int) (f : Nat → Int → Int) (C : Nat → CuR) (T : Nat → TsR) (rc : Nat → Nat) (tl : AmH)  (t : Nat) (sz : Int) (sl : Int → Int) (ho : Int → Int) (ti0 : Int → Int) (gap : Int) (i : Int) (v : Int) (ht_ : t < 7) (h0 : 0 ≤ sz) (h1 : sz ≤ tlm t) (g0 : 1 ≤ gap) (i0 : gap ≤ i) (i1 : i < sz) (v0 : 0 ≤ v) (v1 : v < 2147483648) (P : Option Value → AmH → Prop) (hx0 : ∀ (j' : Int) (ti' : Int → Int), (0 ≤ j') → (j' ≤ i) → (bdI sz ti') → (∀ x : Int, (lsI sz.toNat (iu ti' j' v)).count x = (lsI sz.toNat ti0).count x) → (gap = 1 → (∀ a b : Int, 0 ≤ a → a < b → b ≤ i → a ≠ j' → b ≠ j' → ti' a ≤ ti' b) ∧ (∀ b : Int, j' < b → b ≤ i → v ≤ ti' b)) → (gap = 1 → (j' = 0 ∨ ti' (j' - 1) ≤ v)) → Rx (d) m_X9_sort 75 [some (.ref (tpl t)), some (.int (iz gap)), some (.int (iz i)), some (.int (iz v)), some (.int (iz j'))] [] (cxW z f C (uT T t (sz, sl, ho, ti')) rc tl) P) : ∀ (k : Nat) (j : Int) (ti : Int → Int), (0 ≤ j) → (j ≤ i) → (bdI sz ti) → (∀ x : Int, (lsI sz.toNat (iu ti j v)).count x = (lsI sz.toNat ti0).count x) → (gap = 1 → (∀ a b : Int, 0 ≤ a → a < b → b ≤ i → a ≠ j → b ≠ j → ti a ≤ ti b) ∧ (∀ b : Int, j < b → b ≤ i → v ≤ ti b)) → j < (k : Int) → Rx (d) m_X9_sort 31 [some (.ref (tpl t)), some (.int (iz gap)), some (.int (iz i)), some (.int (iz v)), some (.int (iz j))] [] (cxW z f C (uT T t (sz, sl, ho, ti)) rc tl) P := by
  have hc := tcases ht_
  have hl := tln_tlm ht_
  intro k
  induction k with
  | zero =>
    intro j ti j0 j1 hb hc1 hh hk
    exfalso; omega
  | succ k ih =>
    intro j ti j0 j1 hb hc1 hh hk
    refine Rx.walk 2 (pc' := 34) (L' := [some (.ref (tpl t)), some (.int (iz gap)), some (.int (iz i)), some (.int (iz v)), some (.int (iz j))]) (st' := [.int (iz gap), .int (iz j)]) (h' := cxW z f C (uT T t (sz, sl, ho, ti)) rc tl) rfl ?_
    refine Rx.lt2 rfl rfl ⟨by omega, by omega⟩ ⟨by omega, by omega⟩ (fun b1 => ?_) (fun b1 => ?_)
    · exact hx0 _ _ (by first | assumption | omega) (by first | assumption | omega) hb hc1 hh (fun q => by subst q; omega)
    · refine Rx.walk 1 (pc' := 38) (L' := [some (.ref (tpl t)), some (.int (iz gap)), some (.int (iz i)), some (.int (iz v)), some (.int (iz j))]) (st' := [.ref (tpl t)]) (h' := cxW z f C (uT T t (sz, sl, ho, ti)) rc tl) rfl ?_
      refine Rx.gfS rfl rfl (cW_Tu (by omega)) rfl ?_
      refine Rx.walk 2 (pc' := 44) (L' := [some (.ref (tpl t)), some (.int (iz gap)), some (.int (iz i)), some (.int (iz v)), some (.int (iz j))]) (st' := [.int (iz gap), .int (iz j), .ref (tpl t + 3)]) (h' := cxW z f C (uT T t (sz, sl, ho, ti)) rc tl) rfl ?_
      refine Rx.isub rfl ?_
      refine Rx.ial (g := ti) rfl (cW_T3u (by omega)) (by omega) (by omega) (by omega) ?_
      have r1 := hb (j - gap) (by omega) (by omega)
      refine Rx.walk 1 (pc' := 47) (L' := [some (.ref (tpl t)), some (.int (iz gap)), some (.int (iz i)), some (.int (iz v)), some (.int (iz j))]) (st' := [.int (iz v), .int (iz (ti (j - gap)))]) (h' := cxW z f C (uT T t (sz, sl, ho, ti)) rc tl) rfl ?_
      refine Rx.le2 rfl rfl ⟨by omega, by omega⟩ ⟨by omega, by omega⟩ (fun b2 => ?_) (fun b2 => ?_)
      · exact hx0 _ _ (by first | assumption | omega) (by first | assumption | omega) hb hc1 hh (fun q => by subst q; omega)
      · refine Rx.walk 1 (pc' := 51) (L' := [some (.ref (tpl t)), some (.int (iz gap)), some (.int (iz i)), some (.int (iz v)), some (.int (iz j))]) (st' := [.ref (tpl t)]) (h' := cxW z f C (uT T t (sz, sl, ho, ti)) rc tl) rfl ?_
        refine Rx.gfS rfl rfl (cW_Tu (by omega)) rfl ?_
        refine Rx.walk 2 (pc' := 57) (L' := [some (.ref (tpl t)), some (.int (iz gap)), some (.int (iz i)), some (.int (iz v)), some (.int (iz j))]) (st' := [.ref (tpl t), .int (iz j), .ref (tpl t + 3)]) (h' := cxW z f C (uT T t (sz, sl, ho, ti)) rc tl) rfl ?_
        refine Rx.gfS rfl rfl (cW_Tu (by omega)) rfl ?_
        refine Rx.walk 2 (pc' := 63) (L' := [some (.ref (tpl t)), some (.int (iz gap)), some (.int (iz i)), some (.int (iz v)), some (.int (iz j))]) (st' := [.int (iz gap), .int (iz j), .ref (tpl t + 3), .int (iz j), .ref (tpl t + 3)]) (h' := cxW z f C (uT T t (sz, sl, ho, ti)) rc tl) rfl ?_
        refine Rx.isub rfl ?_
        refine Rx.ial (g := ti) rfl (cW_T3u (by omega)) (by omega) (by omega) (by omega) ?_
        have r2 := hb (j - gap) (by omega) (by omega)
        refine Rx.ias (g := ti) (h' := cxW z f C (uT T t (sz, sl, ho, (iu ti j (ti (j - gap))))) rc tl) rfl (cW_T3u (by omega)) (by omega) (by omega) (by omega) (cW_T3q (by omega)) ?_
        refine Rx.walk 2 (pc' := 69) (L' := [some (.ref (tpl t)), some (.int (iz gap)), some (.int (iz i)), some (.int (iz v)), some (.int (iz j))]) (st' := [.int (iz gap), .int (iz j)]) (h' := cxW z f C (uT T t (sz, sl, ho, (iu ti j (ti (j - gap))))) rc tl) rfl ?_
        refine Rx.isub rfl ?_
        refine Rx.walk 2 (pc' := 31) (L' := [some (.ref (tpl t)), some (.int (iz gap)), some (.int (iz i)), some (.int (iz v)), some (.int (iz (j - gap)))]) (st' := []) (h' := cxW z f C (uT T t (sz, sl, ho, (iu ti j (ti (j - gap))))) rc tl) rfl ?_
        exact ih (j - gap) (iu ti j (ti (j - gap))) (by first | assumption | omega) (by first | assumption | omega) (bdI_iu hb (by omega) (by omega)) (fun x => by rw [cnt_hole (by omega) (by omega) (by omega) (by omega) (by omega)]; exact hc1 x) (fun q => by obtain ⟨p1, p2⟩ := hh q; subst q; refine ⟨fun a b a0 ab bi na nb => ?_, fun b jb bi => ?_⟩; (by_cases ea : a = j; (subst ea; rw [iu_at, iu_ne _ _ (by omega)]; exact p1 (a - 1) b (by omega) (by omega) bi (by omega) (by omega)); by_cases eb : b = j; (subst eb; rw [iu_at, iu_ne _ _ (by omega)]; exact p1 a (b - 1) a0 (by omega) (by omega) (by omega) (by omega)); rw [iu_ne _ _ ea, iu_ne _ _ eb]; exact p1 a b a0 ab bi ea eb); (by_cases eb : b = j; (subst eb; rw [iu_at]; omega); rw [iu_ne _ _ eb]; exact p2 b (by omega) bi)) (by first | assumption | omega) 
set_option maxRecDepth 100000 in
set_option maxHeartbeats 4000000 in
theorem x_sort_i (d : Nat) (z : Nat → Nat → Int) (f : Nat → Int → Int) (C : Nat → CuR) (T : Nat → TsR) (rc : Nat → Nat) (tl : AmH)  (t : Nat) (sz : Int) (sl : Int → Int) (ho : Int → Int) (ti0 : Int → Int) (gap : Int) (ht_ : t < 7) (h0 : 0 ≤ sz) (h1 : sz ≤ tlm t) (g0 : 1 ≤ gap) (g1 : gap < sz) (P : Option Value → AmH → Prop) (hx0 : ∀ (i' : Int) (ti' : Int → Int) (w3' : Option Value) (w4' : Option Value), (bdI sz ti') → (∀ x : Int, (lsI sz.toNat ti').count x = (lsI sz.toNat ti0).count x) → (gap = 1 → srtI sz ti') → Rx (d) m_X9_sort 89 [some (.ref (tpl t)), some (.int (iz gap)), some (.int (iz i')), w3', w4'] [] (cxW z f C (uT T t (sz, sl, ho, ti')) rc tl) P) : ∀ (k : Nat) (i : Int) (ti : Int → Int) (w3 : Option Value) (w4 : Option Value), (gap ≤ i) → (i ≤ sz) → (bdI sz ti) → (∀ x : Int, (lsI sz.toNat ti).count x = (lsI sz.toNat ti0).count x) → (gap = 1 → srtI i ti) → (sz - i) < (k : Int) → Rx (d) m_X9_sort 13 [some (.ref (tpl t)), some (.int (iz gap)), some (.int (iz i)), w3, w4] [] (cxW z f C (uT T t (sz, sl, ho, ti)) rc tl) P := by
  have hc := tcases ht_
  have hl := tln_tlm ht_
  intro k
  induction k with
  | zero =>
    intro i ti w3 w4 i0 i1 hb hc1 hs hk
    exfalso; omega
  | succ k ih =>
    intro i ti w3 w4 i0 i1 hb hc1 hs hk
    refine Rx.walk 2 (pc' := 15) (L' := [some (.ref (tpl t)), some (.int (iz gap)), some (.int (iz i)), w3, w4]) (st' := [.ref (tpl t), .int (iz i)]) (h' := cxW z f C (uT T t (sz, sl, ho, ti)) rc tl) rfl ?_
    refine Rx.gfS rfl rfl (cW_Tu (by omega)) rfl ?_
    refine Rx.ge2 rfl rfl ⟨by omega, by omega⟩ ⟨by omega, by omega⟩ (fun b1 => ?_) (fun b1 => ?_)
    · exact hx0 _ _ _ _ hb hc1 (fun q => by have := hs q; rwa [show i = sz by omega] at this)
    · refine Rx.walk 1 (pc' := 22) (L' := [some (.ref (tpl t)), some (.int (iz gap)), some (.int (iz i)), w3, w4]) (st' := [.ref (tpl t)]) (h' := cxW z f C (uT T t (sz, sl, ho, ti)) rc tl) rfl ?_
      refine Rx.gfS rfl rfl (cW_Tu (by omega)) rfl ?_
      refine Rx.walk 1 (pc' := 26) (L' := [some (.ref (tpl t)), some (.int (iz gap)), some (.int (iz i)), w3, w4]) (st' := [.int (iz i), .ref (tpl t + 3)]) (h' := cxW z f C (uT T t (sz, sl, ho, ti)) rc tl) rfl ?_
      refine Rx.ial (g := ti) rfl (cW_T3u (by omega)) (by omega) (by omega) (by omega) ?_
      have r1 := hb i (by omega) (by omega)
      refine Rx.walk 3 (pc' := 31) (L' := [some (.ref (tpl t)), some (.int (iz gap)), some (.int (iz i)), some (.int (iz (ti i))), some (.int (iz i))]) (st' := []) (h' := cxW z f C (uT T t (sz, sl, ho, ti)) rc tl) rfl ?_
      refine x_sort_j _ z f C T rc tl t sz sl ho ti0 gap i (ti i) (by first | assumption | omega) (by first | assumption | omega) (by first | assumption | omega) (by first | assumption | omega) (by first | assumption | omega) (by first | assumption | omega) (by first | assumption | omega) (by first | assumption | omega) _ ?_ (i + 1).toNat i ti (by first | assumption | omega) (by first | assumption | omega) hb (fun x => by rw [cnt_self]; exact hc1 x) (fun q => ⟨fun a b a0 ab bi na nb => hs q a b a0 ab (by omega), fun b x y => by omega⟩) (by omega) 
      intro j_2 ti_3 f4 f5 f6 f7 f8 f9
      refine Rx.walk 0 (pc' := 75) (L' := [some (.ref (tpl t)), some (.int (iz gap)), some (.int (iz i)), some (.int (iz (ti i))), some (.int (iz j_2))]) (st' := []) (h' := cxW z f C (uT T t (sz, sl, ho, ti_3)) rc tl) rfl ?_
      refine Rx.walk 1 (pc' := 76) (L' := [some (.ref (tpl t)), some (.int (iz gap)), some (.int (iz i)), some (.int (iz (ti i))), some (.int (iz j_2))]) (st' := [.ref (tpl t)]) (h' := cxW z f C (uT T t (sz, sl, ho, ti_3)) rc tl) rfl ?_
      refine Rx.gfS rfl rfl (cW_Tu (by omega)) rfl ?_
      refine Rx.walk 2 (pc' := 82) (L' := [some (.ref (tpl t)), some (.int (iz gap)), some (.int (iz i)), some (.int (iz (ti i))), some (.int (iz j_2))]) (st' := [.int (iz (ti i)), .int (iz j_2), .ref (tpl t + 3)]) (h' := cxW z f C (uT T t (sz, sl, ho, ti_3)) rc tl) rfl ?_
      refine Rx.ias (g := ti_3) (h' := cxW z f C (uT T t (sz, sl, ho, (iu ti_3 j_2 (ti i)))) rc tl) rfl (cW_T3u (by omega)) (by omega) (by omega) (by omega) (cW_T3q (by omega)) ?_
      refine Rx.iinc (b := 1) rfl rfl rfl ?_
      refine Rx.walk 0 (pc' := 86) (L' := [some (.ref (tpl t)), some (.int (iz gap)), some (.int (iz (i + 1))), some (.int (iz (ti i))), some (.int (iz j_2))]) (st' := []) (h' := cxW z f C (uT T t (sz, sl, ho, (iu ti_3 j_2 (ti i)))) rc tl) rfl ?_
      refine Rx.walk 1 (pc' := 13) (L' := [some (.ref (tpl t)), some (.int (iz gap)), some (.int (iz (i + 1))), some (.int (iz (ti i))), some (.int (iz j_2))]) (st' := []) (h' := cxW z f C (uT T t (sz, sl, ho, (iu ti_3 j_2 (ti i)))) rc tl) rfl ?_
      exact ih (i + 1) (iu ti_3 j_2 (ti i)) (some (.int (iz (ti i)))) (some (.int (iz j_2))) (by first | assumption | omega) (by first | assumption | omega) (bdI_iu f6 (by omega) (by omega)) f7 (fun q => by obtain ⟨p1, p2⟩ := f8 q; have p3 := f9 q; intro a b a0 ab bi; (by_cases ea : a = j_2; (subst ea; rw [iu_at, iu_ne _ _ (by omega)]; exact p2 b ab (by omega)); by_cases eb : b = j_2; (subst eb; rw [iu_at, iu_ne _ _ ea]; rcases p3 with p3 | p3; (omega); (by_cases ec : a = b - 1; (rw [ec]; exact p3); have := p1 a (b - 1) a0 (by omega) (by omega) (by omega) (by omega); omega)); rw [iu_ne _ _ ea, iu_ne _ _ eb]; exact p1 a b a0 ab (by omega) ea eb)) (by first | assumption | omega) 
set_option maxRecDepth 100000 in
set_option maxHeartbeats 4000000 in
theorem x_sort_o (d : Nat) (z : Nat → Nat → Int) (f : Nat → Int → Int) (C : Nat → CuR) (T : Nat → TsR) (rc : Nat → Nat) (tl : AmH)  (t : Nat) (sz : Int) (sl : Int → Int) (ho : Int → Int) (ti0 : Int → Int) (ht_ : t < 7) (h0 : 0 ≤ sz) (h1 : sz ≤ tlm t) (P : Option Value → AmH → Prop) (hx0 : ∀ (ti' : Int → Int), (bdI sz ti') → (∀ x : Int, (lsI sz.toNat ti').count x = (lsI sz.toNat ti0).count x) → (srtI sz ti') → P (none) (cxW z f C (uT T t (sz, sl, ho, ti')) rc tl)) : ∀ (k : Nat) (gap : Int) (ti : Int → Int) (w2 : Option Value) (w3 : Option Value) (w4 : Option Value), (0 ≤ gap) → (gap ≤ sz / 2) → (bdI sz ti) → (∀ x : Int, (lsI sz.toNat ti).count x = (lsI sz.toNat ti0).count x) → (gap = 0 → srtI sz ti) → gap < (k : Int) → Rx (d) m_X9_sort 7 [some (.ref (tpl t)), some (.int (iz gap)), w2, w3, w4] [] (cxW z f C (uT T t (sz, sl, ho, ti)) rc tl) P := by
  have hc := tcases ht_
  have hl := tln_tlm ht_
  intro k
  induction k with
  | zero =>
    intro gap ti w2 w3 w4 g0 g1 hb hc1 hs hk
    exfalso; omega
  | succ k ih =>
    intro gap ti w2 w3 w4 g0 g1 hb hc1 hs hk
    refine Rx.walk 1 (pc' := 8) (L' := [some (.ref (tpl t)), some (.int (iz gap)), w2, w3, w4]) (st' := [.int (iz gap)]) (h' := cxW z f C (uT T t (sz, sl, ho, ti)) rc tl) rfl ?_
    refine Rx.le1 rfl rfl ⟨by omega, by omega⟩ (fun b1 => ?_) (fun b1 => ?_)
    · refine Rx.ret rfl ?_
      exact hx0 _ hb hc1 (hs (by omega))
    · refine Rx.walk 2 (pc' := 13) (L' := [some (.ref (tpl t)), some (.int (iz gap)), some (.int (iz gap)), w3, w4]) (st' := []) (h' := cxW z f C (uT T t (sz, sl, ho, ti)) rc tl) rfl ?_
      refine x_sort_i _ z f C T rc tl t sz sl ho ti0 gap (by first | assumption | omega) (by first | assumption | omega) (by first | assumption | omega) (by first | assumption | omega) (by first | assumption | omega) _ ?_ ((sz - gap) + 1).toNat gap ti w3 w4 (by first | assumption | omega) (by first | assumption | omega) hb hc1 (fun q a b a0 ab bi => by omega) (by omega) 
      intro i_2 ti_3 w3_4 w4_5 f6 f7 f8
      refine Rx.walk 0 (pc' := 89) (L' := [some (.ref (tpl t)), some (.int (iz gap)), some (.int (iz i_2)), w3_4, w4_5]) (st' := []) (h' := cxW z f C (uT T t (sz, sl, ho, ti_3)) rc tl) rfl ?_
      refine Rx.walk 2 (pc' := 91) (L' := [some (.ref (tpl t)), some (.int (iz gap)), some (.int (iz i_2)), w3_4, w4_5]) (st' := [.int (iz 2), .int (iz gap)]) (h' := cxW z f C (uT T t (sz, sl, ho, ti_3)) rc tl) rfl ?_
      refine Rx.idiv rfl ⟨by omega, by omega⟩ ⟨by omega, by omega⟩ (by omega) (by omega) ?_
      refine Rx.walk 2 (pc' := 7) (L' := [some (.ref (tpl t)), some (.int (iz (gap / 2))), some (.int (iz i_2)), w3_4, w4_5]) (st' := []) (h' := cxW z f C (uT T t (sz, sl, ho, ti_3)) rc tl) rfl ?_
      exact ih (gap / 2) ti_3 (some (.int (iz i_2))) w3_4 w4_5 (by first | assumption | omega) (by first | assumption | omega) f6 f7 (fun q => f8 (by omega)) (by first | assumption | omega) 
set_option maxRecDepth 100000 in
set_option maxHeartbeats 4000000 in
theorem x_sort (d : Nat) (z : Nat → Nat → Int) (f : Nat → Int → Int) (C : Nat → CuR) (T : Nat → TsR) (rc : Nat → Nat) (tl : AmH)  (t : Nat) (sz : Int) (sl : Int → Int) (ho : Int → Int) (ti : Int → Int) (ht_ : t < 7) (h0 : 0 ≤ sz) (h1 : sz ≤ tlm t) (hb : bdI sz ti) : Rx (d) m_X9_sort 0 (am_ent [.ref (tpl t)] 5) [] (cxW z f C (uT T t (sz, sl, ho, ti)) rc tl) (fun rv h => ∃ ti' : Int → Int, rv = none ∧ h = cxW z f C (uT T t (sz, sl, ho, ti')) rc tl ∧ bdI sz ti' ∧ (∀ x : Int, (lsI sz.toNat ti').count x = (lsI sz.toNat ti).count x) ∧ srtI sz ti') := by
  have hc := tcases ht_
  have hl := tln_tlm ht_
  refine Rx.walk 0 (pc' := 0) (L' := [some (.ref (tpl t)), none, none, none, none]) (st' := []) (h' := cxW z f C (uT T t (sz, sl, ho, ti)) rc tl) rfl ?_
  refine Rx.walk 1 (pc' := 1) (L' := [some (.ref (tpl t)), none, none, none, none]) (st' := [.ref (tpl t)]) (h' := cxW z f C (uT T t (sz, sl, ho, ti)) rc tl) rfl ?_
  refine Rx.gfS rfl rfl (cW_Tu (by omega)) rfl ?_
  refine Rx.walk 1 (pc' := 5) (L' := [some (.ref (tpl t)), none, none, none, none]) (st' := [.int (iz 2), .int (iz sz)]) (h' := cxW z f C (uT T t (sz, sl, ho, ti)) rc tl) rfl ?_
  refine Rx.idiv rfl ⟨by omega, by omega⟩ ⟨by omega, by omega⟩ (by omega) (by omega) ?_
  refine Rx.walk 1 (pc' := 7) (L' := [some (.ref (tpl t)), some (.int (iz (sz / 2))), none, none, none]) (st' := []) (h' := cxW z f C (uT T t (sz, sl, ho, ti)) rc tl) rfl ?_
  refine x_sort_o _ z f C T rc tl t sz sl ho ti (by first | assumption | omega) (by first | assumption | omega) (by first | assumption | omega) _ ?_ ((sz / 2) + 1).toNat (sz / 2) ti none none none (by first | assumption | omega) (by first | assumption | omega) hb (fun x => rfl) (fun q a b a0 ab bi => by omega) (by omega) 
  intro ti_1 f2 f3 f4
  exact ⟨_, rfl, rfl, f2, f3, f4⟩

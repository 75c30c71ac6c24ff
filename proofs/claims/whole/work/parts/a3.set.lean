/-! a customer's sets: isBetter, addSet, become (printed by wip/whole/genset.py) -/
set_option maxRecDepth 100000 in
set_option maxHeartbeats 4000000 in
theorem x_isBetter_l (d : Nat) (z : Nat → Nat → Int) (f : Nat → Int → Int) (C : Nat → CuR) (T : Nat → TsR) (rc : Nat → Nat) (tl : AmH)  (c : Nat) (one : Int) (oth : Int) (prc : Int) (Pu : Int → Int) (co : Int) (se : Int) (hd : Int → Int) (hz : Int → Int) (sp : Int → Int) (ch : Int) (w : Int → Int) (pr : Int) (la : List Int) (lb : List Int) (hc : c < 4) (ho1 : 0 ≤ one ∧ one < 15) (ho2 : 0 ≤ oth ∧ oth < 15) (hza : hz one = (la.length : Int)) (hzb : hz oth = (lb.length : Int)) (hla : lsI la.length (fun i => hd (one * 4 + i)) = la) (hlb : lsI lb.length (fun i => hd (oth * 4 + i)) = lb) (hsa : sp one = wL w la - pr) (hsb : sp oth = wL w lb - pr) (hna : la.length ≤ 4) (hnb : lb.length ≤ 4) (hba : ∀ x ∈ la, 1 ≤ x ∧ x ≤ 4) (hbb : ∀ x ∈ lb, 1 ≤ x ∧ x ≤ 4) (hsr : 0 ≤ sp one ∧ sp one < 400 ∧ 0 ≤ sp oth ∧ sp oth < 400) (hww : wL w la = wL w lb) (hnn : la.length = lb.length) (P : Option Value → AmH → Prop) (hx0 : ∀ (r : Int), ((r = 1 ∧ betL w la lb) ∨ (r = 0 ∧ ¬ betL w la lb)) → P (some (.int (iz r))) (cxW z f (uC C c (prc, Pu, co, se, hd, hz, sp, ch)) T rc tl)) : ∀ (kF : Nat) (i : Int) (w4 : Option Value) (w5 : Option Value), (0 ≤ i) → (i ≤ hz one) → (∀ j : Int, 0 ≤ j → j < i → hd (one * 4 + j) = hd (oth * 4 + j)) → (hz one - i) < (kF : Int) → Rx (d) m_X2_isBetter 74 [some (.ref (cpl c)), some (.int (iz one)), some (.int (iz oth)), some (.int (iz i)), w4, w5] [] (cxW z f (uC C c (prc, Pu, co, se, hd, hz, sp, ch)) T rc tl) P := by
  intro kF
  induction kF with
  | zero =>
    intro i w4 w5 i0 i1 he hk
    exfalso; omega
  | succ kF ih =>
    intro i w4 w5 i0 i1 he hk
    refine Rx.walk 2 (pc' := 76) (L' := [some (.ref (cpl c)), some (.int (iz one)), some (.int (iz oth)), some (.int (iz i)), w4, w5]) (st' := [.ref (cpl c), .int (iz i)]) (h' := cxW z f (uC C c (prc, Pu, co, se, hd, hz, sp, ch)) T rc tl) rfl ?_
    refine Rx.gfS rfl rfl (cW_Cu (by omega)) rfl ?_
    refine Rx.walk 1 (pc' := 80) (L' := [some (.ref (cpl c)), some (.int (iz one)), some (.int (iz oth)), some (.int (iz i)), w4, w5]) (st' := [.int (iz one), .ref (cpl c + 3), .int (iz i)]) (h' := cxW z f (uC C c (prc, Pu, co, se, hd, hz, sp, ch)) T rc tl) rfl ?_
    refine Rx.ial (g := hz) rfl (cW_C3u (by omega)) (by omega) (by omega) (by omega) ?_
    refine Rx.ge2 rfl rfl ⟨by omega, by omega⟩ ⟨by omega, by omega⟩ (fun b1 => ?_) (fun b1 => ?_)
    · refine Rx.walk 1 (pc' := 135) (L' := [some (.ref (cpl c)), some (.int (iz one)), some (.int (iz oth)), some (.int (iz i)), w4, w5]) (st' := [.int (iz 0)]) (h' := cxW z f (uC C c (prc, Pu, co, se, hd, hz, sp, ch)) T rc tl) rfl ?_
      refine Rx.ret rfl ?_
      exact hx0 _ (Or.inr ⟨rfl, fun q => by have e : la = lb := (by rw [← hla, ← hlb, ← hnn]; exact lsI_congr (g := fun j => hd (one * 4 + j)) (h := fun j => hd (oth * 4 + j)) (fun j a b => he j (by omega) (by omega))); rw [e] at q; exact betL_ir q⟩)
    · refine Rx.walk 1 (pc' := 85) (L' := [some (.ref (cpl c)), some (.int (iz one)), some (.int (iz oth)), some (.int (iz i)), w4, w5]) (st' := [.ref (cpl c)]) (h' := cxW z f (uC C c (prc, Pu, co, se, hd, hz, sp, ch)) T rc tl) rfl ?_
      refine Rx.gfS rfl rfl (cW_Cu (by omega)) rfl ?_
      refine Rx.walk 2 (pc' := 90) (L' := [some (.ref (cpl c)), some (.int (iz one)), some (.int (iz oth)), some (.int (iz i)), w4, w5]) (st' := [.int (iz 4), .int (iz one), .ref (cpl c + 2)]) (h' := cxW z f (uC C c (prc, Pu, co, se, hd, hz, sp, ch)) T rc tl) rfl ?_
      refine Rx.imul rfl ?_
      refine Rx.walk 1 (pc' := 92) (L' := [some (.ref (cpl c)), some (.int (iz one)), some (.int (iz oth)), some (.int (iz i)), w4, w5]) (st' := [.int (iz i), .int (iz (one * 4)), .ref (cpl c + 2)]) (h' := cxW z f (uC C c (prc, Pu, co, se, hd, hz, sp, ch)) T rc tl) rfl ?_
      refine Rx.iadd rfl ?_
      refine Rx.ial (g := hd) rfl (cW_C2u (by omega)) (by omega) (by omega) (by omega) ?_
      have y1 : 1 ≤ (hd ((one * 4) + i)) ∧ (hd ((one * 4) + i)) ≤ 4 := hba _ (by rw [← hla]; exact mem_lsI.mpr ⟨i, i0, by omega, rfl⟩)
      refine Rx.walk 2 (pc' := 97) (L' := [some (.ref (cpl c)), some (.int (iz one)), some (.int (iz oth)), some (.int (iz i)), some (.int (iz (hd ((one * 4) + i)))), w5]) (st' := [.ref (cpl c)]) (h' := cxW z f (uC C c (prc, Pu, co, se, hd, hz, sp, ch)) T rc tl) rfl ?_
      refine Rx.gfS rfl rfl (cW_Cu (by omega)) rfl ?_
      refine Rx.walk 2 (pc' := 102) (L' := [some (.ref (cpl c)), some (.int (iz one)), some (.int (iz oth)), some (.int (iz i)), some (.int (iz (hd ((one * 4) + i)))), w5]) (st' := [.int (iz 4), .int (iz oth), .ref (cpl c + 2)]) (h' := cxW z f (uC C c (prc, Pu, co, se, hd, hz, sp, ch)) T rc tl) rfl ?_
      refine Rx.imul rfl ?_
      refine Rx.walk 1 (pc' := 104) (L' := [some (.ref (cpl c)), some (.int (iz one)), some (.int (iz oth)), some (.int (iz i)), some (.int (iz (hd ((one * 4) + i)))), w5]) (st' := [.int (iz i), .int (iz (oth * 4)), .ref (cpl c + 2)]) (h' := cxW z f (uC C c (prc, Pu, co, se, hd, hz, sp, ch)) T rc tl) rfl ?_
      refine Rx.iadd rfl ?_
      refine Rx.ial (g := hd) rfl (cW_C2u (by omega)) (by omega) (by omega) (by omega) ?_
      have y2 : 1 ≤ (hd ((oth * 4) + i)) ∧ (hd ((oth * 4) + i)) ≤ 4 := hbb _ (by rw [← hlb]; exact mem_lsI.mpr ⟨i, i0, by omega, rfl⟩)
      refine Rx.walk 3 (pc' := 112) (L' := [some (.ref (cpl c)), some (.int (iz one)), some (.int (iz oth)), some (.int (iz i)), some (.int (iz (hd ((one * 4) + i)))), some (.int (iz (hd ((oth * 4) + i))))]) (st' := [.int (iz (hd ((oth * 4) + i))), .int (iz (hd ((one * 4) + i)))]) (h' := cxW z f (uC C c (prc, Pu, co, se, hd, hz, sp, ch)) T rc tl) rfl ?_
      refine Rx.eq2 rfl rfl ⟨by omega, by omega⟩ ⟨by omega, by omega⟩ (fun b2 => ?_) (fun b2 => ?_)
      · refine Rx.iinc (b := 1) rfl rfl rfl ?_
        refine Rx.walk 0 (pc' := 131) (L' := [some (.ref (cpl c)), some (.int (iz one)), some (.int (iz oth)), some (.int (iz (i + 1))), some (.int (iz (hd ((one * 4) + i)))), some (.int (iz (hd ((oth * 4) + i))))]) (st' := []) (h' := cxW z f (uC C c (prc, Pu, co, se, hd, hz, sp, ch)) T rc tl) rfl ?_
        refine Rx.walk 1 (pc' := 74) (L' := [some (.ref (cpl c)), some (.int (iz one)), some (.int (iz oth)), some (.int (iz (i + 1))), some (.int (iz (hd ((one * 4) + i)))), some (.int (iz (hd ((oth * 4) + i))))]) (st' := []) (h' := cxW z f (uC C c (prc, Pu, co, se, hd, hz, sp, ch)) T rc tl) rfl ?_
        exact ih (i + 1) (some (.int (iz (hd ((one * 4) + i))))) (some (.int (iz (hd ((oth * 4) + i))))) (by first | assumption | omega) (by first | assumption | omega) (fun j a b => by rcases (show j < i ∨ j = i by omega) with q | q; exact he j a q; (subst q; assumption)) (by first | assumption | omega) 
      · refine Rx.walk 2 (pc' := 119) (L' := [some (.ref (cpl c)), some (.int (iz one)), some (.int (iz oth)), some (.int (iz i)), some (.int (iz (hd ((one * 4) + i)))), some (.int (iz (hd ((oth * 4) + i))))]) (st' := [.int (iz (hd ((oth * 4) + i))), .int (iz (hd ((one * 4) + i)))]) (h' := cxW z f (uC C c (prc, Pu, co, se, hd, hz, sp, ch)) T rc tl) rfl ?_
        refine Rx.le2 rfl rfl ⟨by omega, by omega⟩ ⟨by omega, by omega⟩ (fun b3 => ?_) (fun b3 => ?_)
        · refine Rx.walk 1 (pc' := 127) (L' := [some (.ref (cpl c)), some (.int (iz one)), some (.int (iz oth)), some (.int (iz i)), some (.int (iz (hd ((one * 4) + i)))), some (.int (iz (hd ((oth * 4) + i))))]) (st' := [.int (iz 0)]) (h' := cxW z f (uC C c (prc, Pu, co, se, hd, hz, sp, ch)) T rc tl) rfl ?_
          refine Rx.ret rfl ?_
          exact hx0 _ (by have hlx := (lex_ls (n := la.length) (g := fun j => hd (one * 4 + j)) (h := fun j => hd (oth * 4 + j)) (i := i.toNat) (by omega) (fun j a b => he j a (by omega)) (by show hd (one * 4 + (i.toNat : Int)) ≠ hd (oth * 4 + (i.toNat : Int)); rw [Int.toNat_of_nonneg i0]; omega)); rw [hla, show lsI la.length (fun j => hd (oth * 4 + j)) = lb from by rw [hnn]; exact hlb] at hlx; have hlx : lexG la lb ↔ hd (oth * 4 + (i.toNat : Int)) < hd (one * 4 + (i.toNat : Int)) := hlx; rw [Int.toNat_of_nonneg i0] at hlx; refine Or.inr ⟨rfl, ?_⟩; rintro (q | ⟨q, z | ⟨z, y⟩⟩); omega; omega; (have := hlx.mp y; omega))
        · refine Rx.walk 2 (pc' := 127) (L' := [some (.ref (cpl c)), some (.int (iz one)), some (.int (iz oth)), some (.int (iz i)), some (.int (iz (hd ((one * 4) + i)))), some (.int (iz (hd ((oth * 4) + i))))]) (st' := [.int (iz 1)]) (h' := cxW z f (uC C c (prc, Pu, co, se, hd, hz, sp, ch)) T rc tl) rfl ?_
          refine Rx.ret rfl ?_
          exact hx0 _ (by have hlx := (lex_ls (n := la.length) (g := fun j => hd (one * 4 + j)) (h := fun j => hd (oth * 4 + j)) (i := i.toNat) (by omega) (fun j a b => he j a (by omega)) (by show hd (one * 4 + (i.toNat : Int)) ≠ hd (oth * 4 + (i.toNat : Int)); rw [Int.toNat_of_nonneg i0]; omega)); rw [hla, show lsI la.length (fun j => hd (oth * 4 + j)) = lb from by rw [hnn]; exact hlb] at hlx; have hlx : lexG la lb ↔ hd (oth * 4 + (i.toNat : Int)) < hd (one * 4 + (i.toNat : Int)) := hlx; rw [Int.toNat_of_nonneg i0] at hlx; exact Or.inl ⟨rfl, Or.inr ⟨hww, Or.inr ⟨hnn, hlx.mpr (by omega)⟩⟩⟩)
set_option maxRecDepth 100000 in
set_option maxHeartbeats 4000000 in
theorem x_isBetter (d : Nat) (z : Nat → Nat → Int) (f : Nat → Int → Int) (C : Nat → CuR) (T : Nat → TsR) (rc : Nat → Nat) (tl : AmH)  (c : Nat) (one : Int) (oth : Int) (prc : Int) (Pu : Int → Int) (co : Int) (se : Int) (hd : Int → Int) (hz : Int → Int) (sp : Int → Int) (ch : Int) (w : Int → Int) (pr : Int) (la : List Int) (lb : List Int) (hc : c < 4) (ho1 : 0 ≤ one ∧ one < 15) (ho2 : 0 ≤ oth ∧ oth < 15) (hza : hz one = (la.length : Int)) (hzb : hz oth = (lb.length : Int)) (hla : lsI la.length (fun i => hd (one * 4 + i)) = la) (hlb : lsI lb.length (fun i => hd (oth * 4 + i)) = lb) (hsa : sp one = wL w la - pr) (hsb : sp oth = wL w lb - pr) (hna : la.length ≤ 4) (hnb : lb.length ≤ 4) (hba : ∀ x ∈ la, 1 ≤ x ∧ x ≤ 4) (hbb : ∀ x ∈ lb, 1 ≤ x ∧ x ≤ 4) (hsr : 0 ≤ sp one ∧ sp one < 400 ∧ 0 ≤ sp oth ∧ sp oth < 400) : Rx (d) m_X2_isBetter 0 (am_ent [.ref (cpl c), .int (iz one), .int (iz oth)] 6) [] (cxW z f (uC C c (prc, Pu, co, se, hd, hz, sp, ch)) T rc tl) (fun rv h => ∃ r : Int, rv = some (.int (iz r)) ∧ h = cxW z f (uC C c (prc, Pu, co, se, hd, hz, sp, ch)) T rc tl ∧ ((r = 1 ∧ betL w la lb) ∨ (r = 0 ∧ ¬ betL w la lb))) := by
  refine Rx.walk 0 (pc' := 0) (L' := [some (.ref (cpl c)), some (.int (iz one)), some (.int (iz oth)), none, none, none]) (st' := []) (h' := cxW z f (uC C c (prc, Pu, co, se, hd, hz, sp, ch)) T rc tl) rfl ?_
  refine Rx.walk 1 (pc' := 1) (L' := [some (.ref (cpl c)), some (.int (iz one)), some (.int (iz oth)), none, none, none]) (st' := [.ref (cpl c)]) (h' := cxW z f (uC C c (prc, Pu, co, se, hd, hz, sp, ch)) T rc tl) rfl ?_
  refine Rx.gfS rfl rfl (cW_Cu (by omega)) rfl ?_
  refine Rx.walk 1 (pc' := 5) (L' := [some (.ref (cpl c)), some (.int (iz one)), some (.int (iz oth)), none, none, none]) (st' := [.int (iz one), .ref (cpl c + 4)]) (h' := cxW z f (uC C c (prc, Pu, co, se, hd, hz, sp, ch)) T rc tl) rfl ?_
  refine Rx.ial (g := sp) rfl (cW_C4u (by omega)) (by omega) (by omega) (by omega) ?_
  refine Rx.walk 1 (pc' := 7) (L' := [some (.ref (cpl c)), some (.int (iz one)), some (.int (iz oth)), none, none, none]) (st' := [.ref (cpl c), .int (iz (sp one))]) (h' := cxW z f (uC C c (prc, Pu, co, se, hd, hz, sp, ch)) T rc tl) rfl ?_
  refine Rx.gfS rfl rfl (cW_Cu (by omega)) rfl ?_
  refine Rx.walk 1 (pc' := 11) (L' := [some (.ref (cpl c)), some (.int (iz one)), some (.int (iz oth)), none, none, none]) (st' := [.int (iz oth), .ref (cpl c + 4), .int (iz (sp one))]) (h' := cxW z f (uC C c (prc, Pu, co, se, hd, hz, sp, ch)) T rc tl) rfl ?_
  refine Rx.ial (g := sp) rfl (cW_C4u (by omega)) (by omega) (by omega) (by omega) ?_
  refine Rx.eq2 rfl rfl ⟨by omega, by omega⟩ ⟨by omega, by omega⟩ (fun b1 => ?_) (fun b1 => ?_)
  · refine Rx.walk 1 (pc' := 37) (L' := [some (.ref (cpl c)), some (.int (iz one)), some (.int (iz oth)), none, none, none]) (st' := [.ref (cpl c)]) (h' := cxW z f (uC C c (prc, Pu, co, se, hd, hz, sp, ch)) T rc tl) rfl ?_
    refine Rx.gfS rfl rfl (cW_Cu (by omega)) rfl ?_
    refine Rx.walk 1 (pc' := 41) (L' := [some (.ref (cpl c)), some (.int (iz one)), some (.int (iz oth)), none, none, none]) (st' := [.int (iz one), .ref (cpl c + 3)]) (h' := cxW z f (uC C c (prc, Pu, co, se, hd, hz, sp, ch)) T rc tl) rfl ?_
    refine Rx.ial (g := hz) rfl (cW_C3u (by omega)) (by omega) (by omega) (by omega) ?_
    refine Rx.walk 1 (pc' := 43) (L' := [some (.ref (cpl c)), some (.int (iz one)), some (.int (iz oth)), none, none, none]) (st' := [.ref (cpl c), .int (iz (hz one))]) (h' := cxW z f (uC C c (prc, Pu, co, se, hd, hz, sp, ch)) T rc tl) rfl ?_
    refine Rx.gfS rfl rfl (cW_Cu (by omega)) rfl ?_
    refine Rx.walk 1 (pc' := 47) (L' := [some (.ref (cpl c)), some (.int (iz one)), some (.int (iz oth)), none, none, none]) (st' := [.int (iz oth), .ref (cpl c + 3), .int (iz (hz one))]) (h' := cxW z f (uC C c (prc, Pu, co, se, hd, hz, sp, ch)) T rc tl) rfl ?_
    refine Rx.ial (g := hz) rfl (cW_C3u (by omega)) (by omega) (by omega) (by omega) ?_
    refine Rx.eq2 rfl rfl ⟨by omega, by omega⟩ ⟨by omega, by omega⟩ (fun b2 => ?_) (fun b2 => ?_)
    · refine Rx.walk 2 (pc' := 74) (L' := [some (.ref (cpl c)), some (.int (iz one)), some (.int (iz oth)), some (.int (iz 0)), none, none]) (st' := []) (h' := cxW z f (uC C c (prc, Pu, co, se, hd, hz, sp, ch)) T rc tl) rfl ?_
      refine x_isBetter_l _ z f C T rc tl  c one oth prc Pu co se hd hz sp ch w pr la lb hc ho1 ho2 hza hzb hla hlb hsa hsb hna hnb hba hbb hsr (by omega) (by omega) _ ?_ ((hz one - 0) + 1 : Int).toNat 0 none none (by first | assumption | omega) (by first | assumption | omega) (fun j a b => by omega) (by omega) 
      intro r_3 f4
      show (fun (rv : Option Value) (h : AmH) => ∃ r : Int, rv = some (.int (iz r)) ∧ h = cxW z f (uC C c (prc, Pu, co, se, hd, hz, sp, ch)) T rc tl ∧ ((r = 1 ∧ betL w la lb) ∨ (r = 0 ∧ ¬ betL w la lb))) (some (Value.int (iz r_3))) (cxW z f (uC C c (prc, Pu, co, se, hd, hz, sp, ch)) T rc tl)
      exact ⟨_, rfl, rfl, f4⟩
    · refine Rx.walk 1 (pc' := 52) (L' := [some (.ref (cpl c)), some (.int (iz one)), some (.int (iz oth)), none, none, none]) (st' := [.ref (cpl c)]) (h' := cxW z f (uC C c (prc, Pu, co, se, hd, hz, sp, ch)) T rc tl) rfl ?_
      refine Rx.gfS rfl rfl (cW_Cu (by omega)) rfl ?_
      refine Rx.walk 1 (pc' := 56) (L' := [some (.ref (cpl c)), some (.int (iz one)), some (.int (iz oth)), none, none, none]) (st' := [.int (iz one), .ref (cpl c + 3)]) (h' := cxW z f (uC C c (prc, Pu, co, se, hd, hz, sp, ch)) T rc tl) rfl ?_
      refine Rx.ial (g := hz) rfl (cW_C3u (by omega)) (by omega) (by omega) (by omega) ?_
      refine Rx.walk 1 (pc' := 58) (L' := [some (.ref (cpl c)), some (.int (iz one)), some (.int (iz oth)), none, none, none]) (st' := [.ref (cpl c), .int (iz (hz one))]) (h' := cxW z f (uC C c (prc, Pu, co, se, hd, hz, sp, ch)) T rc tl) rfl ?_
      refine Rx.gfS rfl rfl (cW_Cu (by omega)) rfl ?_
      refine Rx.walk 1 (pc' := 62) (L' := [some (.ref (cpl c)), some (.int (iz one)), some (.int (iz oth)), none, none, none]) (st' := [.int (iz oth), .ref (cpl c + 3), .int (iz (hz one))]) (h' := cxW z f (uC C c (prc, Pu, co, se, hd, hz, sp, ch)) T rc tl) rfl ?_
      refine Rx.ial (g := hz) rfl (cW_C3u (by omega)) (by omega) (by omega) (by omega) ?_
      refine Rx.ge2 rfl rfl ⟨by omega, by omega⟩ ⟨by omega, by omega⟩ (fun b5 => ?_) (fun b5 => ?_)
      · refine Rx.walk 1 (pc' := 71) (L' := [some (.ref (cpl c)), some (.int (iz one)), some (.int (iz oth)), none, none, none]) (st' := [.int (iz 0)]) (h' := cxW z f (uC C c (prc, Pu, co, se, hd, hz, sp, ch)) T rc tl) rfl ?_
        refine Rx.ret rfl ?_
        exact ⟨_, rfl, rfl, Or.inr ⟨rfl, by rintro (q | ⟨q, z | ⟨z, -⟩⟩) <;> omega⟩⟩
      · refine Rx.walk 2 (pc' := 71) (L' := [some (.ref (cpl c)), some (.int (iz one)), some (.int (iz oth)), none, none, none]) (st' := [.int (iz 1)]) (h' := cxW z f (uC C c (prc, Pu, co, se, hd, hz, sp, ch)) T rc tl) rfl ?_
        refine Rx.ret rfl ?_
        exact ⟨_, rfl, rfl, Or.inl ⟨rfl, Or.inr ⟨by omega, Or.inl (by omega)⟩⟩⟩
  · refine Rx.walk 1 (pc' := 16) (L' := [some (.ref (cpl c)), some (.int (iz one)), some (.int (iz oth)), none, none, none]) (st' := [.ref (cpl c)]) (h' := cxW z f (uC C c (prc, Pu, co, se, hd, hz, sp, ch)) T rc tl) rfl ?_
    refine Rx.gfS rfl rfl (cW_Cu (by omega)) rfl ?_
    refine Rx.walk 1 (pc' := 20) (L' := [some (.ref (cpl c)), some (.int (iz one)), some (.int (iz oth)), none, none, none]) (st' := [.int (iz one), .ref (cpl c + 4)]) (h' := cxW z f (uC C c (prc, Pu, co, se, hd, hz, sp, ch)) T rc tl) rfl ?_
    refine Rx.ial (g := sp) rfl (cW_C4u (by omega)) (by omega) (by omega) (by omega) ?_
    refine Rx.walk 1 (pc' := 22) (L' := [some (.ref (cpl c)), some (.int (iz one)), some (.int (iz oth)), none, none, none]) (st' := [.ref (cpl c), .int (iz (sp one))]) (h' := cxW z f (uC C c (prc, Pu, co, se, hd, hz, sp, ch)) T rc tl) rfl ?_
    refine Rx.gfS rfl rfl (cW_Cu (by omega)) rfl ?_
    refine Rx.walk 1 (pc' := 26) (L' := [some (.ref (cpl c)), some (.int (iz one)), some (.int (iz oth)), none, none, none]) (st' := [.int (iz oth), .ref (cpl c + 4), .int (iz (sp one))]) (h' := cxW z f (uC C c (prc, Pu, co, se, hd, hz, sp, ch)) T rc tl) rfl ?_
    refine Rx.ial (g := sp) rfl (cW_C4u (by omega)) (by omega) (by omega) (by omega) ?_
    refine Rx.ge2 rfl rfl ⟨by omega, by omega⟩ ⟨by omega, by omega⟩ (fun b6 => ?_) (fun b6 => ?_)
    · refine Rx.walk 1 (pc' := 35) (L' := [some (.ref (cpl c)), some (.int (iz one)), some (.int (iz oth)), none, none, none]) (st' := [.int (iz 0)]) (h' := cxW z f (uC C c (prc, Pu, co, se, hd, hz, sp, ch)) T rc tl) rfl ?_
      refine Rx.ret rfl ?_
      exact ⟨_, rfl, rfl, Or.inr ⟨rfl, by rintro (q | ⟨q, -⟩) <;> omega⟩⟩
    · refine Rx.walk 2 (pc' := 35) (L' := [some (.ref (cpl c)), some (.int (iz one)), some (.int (iz oth)), none, none, none]) (st' := [.int (iz 1)]) (h' := cxW z f (uC C c (prc, Pu, co, se, hd, hz, sp, ch)) T rc tl) rfl ?_
      refine Rx.ret rfl ?_
      exact ⟨_, rfl, rfl, Or.inl ⟨rfl, Or.inl (by omega)⟩⟩
theorem sbM_s (P : Int → Int) (mask : Int) {i : Int} (i0 : 0 ≤ i) : sbM P mask (i + 1).toNat = sbM P mask i.toNat ++ (if hb mask i = 1 then [P i] else []) := by
  rw [show (i + 1).toNat = i.toNat + 1 by omega]
  show sbM P mask i.toNat ++ (if hb mask (i.toNat : Int) = 1 then [P (i.toNat : Int)] else []) = _
  rw [Int.toNat_of_nonneg i0]
theorem dpM_s (P : Int → Int) (mask : Int) {i : Int} (i0 : 0 ≤ i) : dpM P mask (i + 1).toNat ↔ dpM P mask i.toNat ∨ (1 ≤ i ∧ hb mask i = 1 ∧ P i = P (i - 1) ∧ hb mask (i - 1) = 0) := by
  rw [show (i + 1).toNat = i.toNat + 1 by omega]
  show (dpM P mask i.toNat ∨ (1 ≤ i.toNat ∧ hb mask (i.toNat : Int) = 1 ∧ P (i.toNat : Int) = P ((i.toNat : Int) - 1) ∧ hb mask ((i.toNat : Int) - 1) = 0)) ↔ _
  rw [Int.toNat_of_nonneg i0, show (1 ≤ i.toNat ↔ 1 ≤ i) by omega]
theorem dpM_m {P : Int → Int} {mask : Int} : ∀ {n m : Nat}, m ≤ n → dpM P mask m → dpM P mask n
  | 0, 0, _, h => h
  | n + 1, m, hm, h => by
    rcases (show m = n + 1 ∨ m ≤ n by omega) with q | q
    · subst q; exact h
    · exact Or.inl (dpM_m q h)
theorem ls_snoc {hd : Int → Int} {o x : Int} {l : List Int} (h : lsI l.length (fun j => hd (o + j)) = l) : lsI (l ++ [x]).length (fun j => iu hd (o + l.length) x (o + j)) = l ++ [x] := by
  rw [List.length_append]
  show lsI (l.length + 1) _ = _
  rw [lsI_succ]
  congr 1
  · rw [← h, lsI_len]
    exact lsI_congr (fun j a b => iu_ne _ _ (by omega))
  · show [iu hd (o + l.length) x (o + (l.length : Int))] = [x]
    rw [iu_at]
set_option maxRecDepth 100000 in
set_option maxHeartbeats 4000000 in
theorem x_addSet_l (d : Nat) (z : Nat → Nat → Int) (f : Nat → Int → Int) (C : Nat → CuR) (T : Nat → TsR) (rc : Nat → Nat) (tl : AmH)  (c : Nat) (mask : Int) (prc : Int) (Pu : Int → Int) (co : Int) (se : Int) (hz : Int → Int) (sp : Int → Int) (ch : Int) (w : Int → Int) (hd0 : Int → Int) (hc : c < 4) (hmk : 1 ≤ mask ∧ mask < 16) (hco : 0 ≤ co ∧ co ≤ 4) (hP : ∀ i : Int, 0 ≤ i → i < co → 1 ≤ Pu i ∧ Pu i ≤ 4) (hw : wOK w) (hse : 0 ≤ se ∧ se ≤ 14) (hpr : 1 ≤ prc ∧ prc ≤ 99) (P : Option Value → AmH → Prop) (hx0 : ∀ (sz' : Int) (tg' : Int) (i' : Int) (hd' : Int → Int), (sz' = ((sbM Pu mask (co).toNat).length : Int)) → (tg' = wL w (sbM Pu mask (co).toNat)) → (0 ≤ tg' ∧ tg' ≤ 396) → (¬ dpM Pu mask co.toNat) → (lsI (sbM Pu mask (co).toNat).length (fun j => hd' (se * 4 + j)) = (sbM Pu mask (co).toNat)) → (∀ x : Int, 0 ≤ x → x < se * 4 → hd' x = hd0 x) → Rx (d) m_X2_addSet 119 [some (.ref (cpl c)), some (.int (iz mask)), some (.ref 3), some (.int (iz sz')), some (.int (iz tg')), some (.int (iz i'))] [] (cxW z (uf f 4 w) (uC C c (prc, Pu, co, se, hd', hz, sp, ch)) T rc tl) P) (hx1 : ∀ (hd' : Int → Int), (dpM Pu mask co.toNat) → (∀ x : Int, 0 ≤ x → x < se * 4 → hd' x = hd0 x) → P (none) (cxW z (uf f 4 w) (uC C c (prc, Pu, co, se, hd', hz, sp, ch)) T rc tl)) : ∀ (kF : Nat) (sz : Int) (tg : Int) (i : Int) (hd : Int → Int), (0 ≤ i) → (i ≤ co) → (sz = ((sbM Pu mask (i).toNat).length : Int)) → (tg = wL w (sbM Pu mask (i).toNat)) → (0 ≤ tg ∧ tg ≤ 99 * i) → (¬ dpM Pu mask i.toNat) → (lsI (sbM Pu mask (i).toNat).length (fun j => hd (se * 4 + j)) = (sbM Pu mask (i).toNat)) → (∀ x : Int, 0 ≤ x → x < se * 4 → hd x = hd0 x) → (co - i) < (kF : Int) → Rx (d) m_X2_addSet 18 [some (.ref (cpl c)), some (.int (iz mask)), some (.ref 3), some (.int (iz sz)), some (.int (iz tg)), some (.int (iz i))] [] (cxW z (uf f 4 w) (uC C c (prc, Pu, co, se, hd, hz, sp, ch)) T rc tl) P := by
  intro kF
  induction kF with
  | zero =>
    intro sz tg i hd i0 i1 hsz htg htb hnd hls hhd hk
    exfalso; omega
  | succ kF ih =>
    intro sz tg i hd i0 i1 hsz htg htb hnd hls hhd hk
    have hbm := hb_b mask i
    have hbm1 := hb_b mask (i - 1)
    have hsl := sbM_len (P := Pu) (mask := mask) (n := i.toNat)
    refine Rx.walk 2 (pc' := 21) (L' := [some (.ref (cpl c)), some (.int (iz mask)), some (.ref 3), some (.int (iz sz)), some (.int (iz tg)), some (.int (iz i))]) (st' := [.ref (cpl c), .int (iz i)]) (h' := cxW z (uf f 4 w) (uC C c (prc, Pu, co, se, hd, hz, sp, ch)) T rc tl) rfl ?_
    refine Rx.gfS rfl rfl (cW_Cu (by omega)) rfl ?_
    refine Rx.walk 0 (pc' := 24) (L' := [some (.ref (cpl c)), some (.int (iz mask)), some (.ref 3), some (.int (iz sz)), some (.int (iz tg)), some (.int (iz i))]) (st' := [.int (iz co), .int (iz i)]) (h' := cxW z (uf f 4 w) (uC C c (prc, Pu, co, se, hd, hz, sp, ch)) T rc tl) rfl ?_
    refine Rx.ge2 rfl rfl ⟨by omega, by omega⟩ ⟨by omega, by omega⟩ (fun b1 => ?_) (fun b1 => ?_)
    · exact hx0 _ _ _ _ (by rw [show co = i by omega]; exact hsz) (by rw [show co = i by omega]; exact htg) ⟨by omega, by omega⟩ (by rw [show co = i by omega]; exact hnd) (by rw [show co = i by omega]; exact hls) hhd
    · refine Rx.walk 2 (pc' := 30) (L' := [some (.ref (cpl c)), some (.int (iz mask)), some (.ref 3), some (.int (iz sz)), some (.int (iz tg)), some (.int (iz i))]) (st' := [.int (iz i), .int (iz mask)]) (h' := cxW z (uf f 4 w) (uC C c (prc, Pu, co, se, hd, hz, sp, ch)) T rc tl) rfl ?_
      refine Rx.ishr (c := (mask / p2 i)) rfl (p2_shr (by omega) (by omega) (by omega) (by omega)) ?_
      refine Rx.walk 1 (pc' := 32) (L' := [some (.ref (cpl c)), some (.int (iz mask)), some (.ref 3), some (.int (iz sz)), some (.int (iz tg)), some (.int (iz i))]) (st' := [.int (iz 1), .int (iz (mask / p2 i))]) (h' := cxW z (uf f 4 w) (uC C c (prc, Pu, co, se, hd, hz, sp, ch)) T rc tl) rfl ?_
      refine Rx.iand (c := (hb mask i)) rfl (iz_and1 _) ?_
      refine Rx.walk 1 (pc' := 34) (L' := [some (.ref (cpl c)), some (.int (iz mask)), some (.ref 3), some (.int (iz sz)), some (.int (iz tg)), some (.int (iz i))]) (st' := [.int (iz 1), .int (iz (hb mask i))]) (h' := cxW z (uf f 4 w) (uC C c (prc, Pu, co, se, hd, hz, sp, ch)) T rc tl) rfl ?_
      refine Rx.ne2 rfl rfl ⟨by omega, by omega⟩ ⟨by omega, by omega⟩ (fun b2 => ?_) (fun b2 => ?_)
      · refine Rx.iinc (b := 1) rfl rfl rfl ?_
        refine Rx.walk 0 (pc' := 116) (L' := [some (.ref (cpl c)), some (.int (iz mask)), some (.ref 3), some (.int (iz sz)), some (.int (iz tg)), some (.int (iz (i + 1)))]) (st' := []) (h' := cxW z (uf f 4 w) (uC C c (prc, Pu, co, se, hd, hz, sp, ch)) T rc tl) rfl ?_
        refine Rx.walk 1 (pc' := 18) (L' := [some (.ref (cpl c)), some (.int (iz mask)), some (.ref 3), some (.int (iz sz)), some (.int (iz tg)), some (.int (iz (i + 1)))]) (st' := []) (h' := cxW z (uf f 4 w) (uC C c (prc, Pu, co, se, hd, hz, sp, ch)) T rc tl) rfl ?_
        exact ih sz tg (i + 1) hd (by first | assumption | omega) (by first | assumption | omega) (by rw [sbM_s Pu mask i0, if_neg (by omega), List.append_nil]; exact hsz) (by rw [sbM_s Pu mask i0, if_neg (by omega), List.append_nil]; exact htg) ⟨by omega, by omega⟩ (fun q => ((dpM_s Pu mask i0).mp q).elim hnd (fun q => by omega)) (by rw [sbM_s Pu mask i0, if_neg (by omega), List.append_nil]; exact hls) hhd (by first | assumption | omega) 
      · refine Rx.walk 1 (pc' := 39) (L' := [some (.ref (cpl c)), some (.int (iz mask)), some (.ref 3), some (.int (iz sz)), some (.int (iz tg)), some (.int (iz i))]) (st' := [.int (iz i)]) (h' := cxW z (uf f 4 w) (uC C c (prc, Pu, co, se, hd, hz, sp, ch)) T rc tl) rfl ?_
        refine Rx.le1 rfl rfl ⟨by omega, by omega⟩ (fun b3 => ?_) (fun b3 => ?_)
        · refine Rx.walk 1 (pc' := 74) (L' := [some (.ref (cpl c)), some (.int (iz mask)), some (.ref 3), some (.int (iz sz)), some (.int (iz tg)), some (.int (iz i))]) (st' := [.ref (cpl c)]) (h' := cxW z (uf f 4 w) (uC C c (prc, Pu, co, se, hd, hz, sp, ch)) T rc tl) rfl ?_
          refine Rx.gfS rfl rfl (cW_Cu (by omega)) rfl ?_
          refine Rx.walk 1 (pc' := 78) (L' := [some (.ref (cpl c)), some (.int (iz mask)), some (.ref 3), some (.int (iz sz)), some (.int (iz tg)), some (.int (iz i))]) (st' := [.ref (cpl c), .ref (cpl c + 2)]) (h' := cxW z (uf f 4 w) (uC C c (prc, Pu, co, se, hd, hz, sp, ch)) T rc tl) rfl ?_
          refine Rx.gfS rfl rfl (cW_Cu (by omega)) rfl ?_
          refine Rx.walk 0 (pc' := 81) (L' := [some (.ref (cpl c)), some (.int (iz mask)), some (.ref 3), some (.int (iz sz)), some (.int (iz tg)), some (.int (iz i))]) (st' := [.int (iz se), .ref (cpl c + 2)]) (h' := cxW z (uf f 4 w) (uC C c (prc, Pu, co, se, hd, hz, sp, ch)) T rc tl) rfl ?_
          refine Rx.walk 1 (pc' := 82) (L' := [some (.ref (cpl c)), some (.int (iz mask)), some (.ref 3), some (.int (iz sz)), some (.int (iz tg)), some (.int (iz i))]) (st' := [.int (iz 4), .int (iz se), .ref (cpl c + 2)]) (h' := cxW z (uf f 4 w) (uC C c (prc, Pu, co, se, hd, hz, sp, ch)) T rc tl) rfl ?_
          refine Rx.imul rfl ?_
          refine Rx.walk 1 (pc' := 84) (L' := [some (.ref (cpl c)), some (.int (iz mask)), some (.ref 3), some (.int (iz sz)), some (.int (iz tg)), some (.int (iz i))]) (st' := [.int (iz sz), .int (iz (se * 4)), .ref (cpl c + 2)]) (h' := cxW z (uf f 4 w) (uC C c (prc, Pu, co, se, hd, hz, sp, ch)) T rc tl) rfl ?_
          refine Rx.iadd rfl ?_
          refine Rx.walk 1 (pc' := 86) (L' := [some (.ref (cpl c)), some (.int (iz mask)), some (.ref 3), some (.int (iz sz)), some (.int (iz tg)), some (.int (iz i))]) (st' := [.ref (cpl c), .int (iz ((se * 4) + sz)), .ref (cpl c + 2)]) (h' := cxW z (uf f 4 w) (uC C c (prc, Pu, co, se, hd, hz, sp, ch)) T rc tl) rfl ?_
          refine Rx.gfS rfl rfl (cW_Cu (by omega)) rfl ?_
          refine Rx.walk 1 (pc' := 91) (L' := [some (.ref (cpl c)), some (.int (iz mask)), some (.ref 3), some (.int (iz sz)), some (.int (iz tg)), some (.int (iz i))]) (st' := [.int (iz i), .ref (cpl c + 1), .int (iz ((se * 4) + sz)), .ref (cpl c + 2)]) (h' := cxW z (uf f 4 w) (uC C c (prc, Pu, co, se, hd, hz, sp, ch)) T rc tl) rfl ?_
          refine Rx.ial (g := Pu) rfl (cW_C1u (by omega)) (by omega) (by omega) (by omega) ?_
          have hpk := hP i i0 (by omega)
          refine Rx.ias (g := hd) (h' := cxW z (uf f 4 w) (uC C c (prc, Pu, co, se, (iu hd ((se * 4) + sz) (Pu i)), hz, sp, ch)) T rc tl) rfl (cW_C2u (by omega)) (by omega) (by omega) (by omega) (cW_C2q (by omega)) ?_
          refine Rx.iinc (b := 1) rfl rfl rfl ?_
          refine Rx.walk 0 (pc' := 96) (L' := [some (.ref (cpl c)), some (.int (iz mask)), some (.ref 3), some (.int (iz (sz + 1))), some (.int (iz tg)), some (.int (iz i))]) (st' := []) (h' := cxW z (uf f 4 w) (uC C c (prc, Pu, co, se, (iu hd ((se * 4) + sz) (Pu i)), hz, sp, ch)) T rc tl) rfl ?_
          refine Rx.walk 4 (pc' := 103) (L' := [some (.ref (cpl c)), some (.int (iz mask)), some (.ref 3), some (.int (iz (sz + 1))), some (.int (iz tg)), some (.int (iz i))]) (st' := [.ref (cpl c), .ref 4, .int (iz tg)]) (h' := cxW z (uf f 4 w) (uC C c (prc, Pu, co, se, (iu hd ((se * 4) + sz) (Pu i)), hz, sp, ch)) T rc tl) rfl ?_
          refine Rx.gfS rfl rfl (cW_Cu (by omega)) rfl ?_
          refine Rx.walk 1 (pc' := 108) (L' := [some (.ref (cpl c)), some (.int (iz mask)), some (.ref 3), some (.int (iz (sz + 1))), some (.int (iz tg)), some (.int (iz i))]) (st' := [.int (iz i), .ref (cpl c + 1), .ref 4, .int (iz tg)]) (h' := cxW z (uf f 4 w) (uC C c (prc, Pu, co, se, (iu hd ((se * 4) + sz) (Pu i)), hz, sp, ch)) T rc tl) rfl ?_
          refine Rx.ial (g := Pu) rfl (cW_C1u (by omega)) (by omega) (by omega) (by omega) ?_
          have hpl := hP i i0 (by omega)
          have hwb := hw.2 (Pu i) (by omega) (by omega)
          refine Rx.ial (g := w) rfl rfl (by omega) (by omega) (by omega) ?_
          refine Rx.iadd rfl ?_
          refine Rx.walk 1 (pc' := 113) (L' := [some (.ref (cpl c)), some (.int (iz mask)), some (.ref 3), some (.int (iz (sz + 1))), some (.int (iz (tg + (w (Pu i))))), some (.int (iz i))]) (st' := []) (h' := cxW z (uf f 4 w) (uC C c (prc, Pu, co, se, (iu hd ((se * 4) + sz) (Pu i)), hz, sp, ch)) T rc tl) rfl ?_
          refine Rx.iinc (b := 1) rfl rfl rfl ?_
          refine Rx.walk 0 (pc' := 116) (L' := [some (.ref (cpl c)), some (.int (iz mask)), some (.ref 3), some (.int (iz (sz + 1))), some (.int (iz (tg + (w (Pu i))))), some (.int (iz (i + 1)))]) (st' := []) (h' := cxW z (uf f 4 w) (uC C c (prc, Pu, co, se, (iu hd ((se * 4) + sz) (Pu i)), hz, sp, ch)) T rc tl) rfl ?_
          refine Rx.walk 1 (pc' := 18) (L' := [some (.ref (cpl c)), some (.int (iz mask)), some (.ref 3), some (.int (iz (sz + 1))), some (.int (iz (tg + (w (Pu i))))), some (.int (iz (i + 1)))]) (st' := []) (h' := cxW z (uf f 4 w) (uC C c (prc, Pu, co, se, (iu hd ((se * 4) + sz) (Pu i)), hz, sp, ch)) T rc tl) rfl ?_
          exact ih (sz + 1) (tg + (w (Pu i))) (i + 1) (iu hd ((se * 4) + sz) (Pu i)) (by first | assumption | omega) (by first | assumption | omega) (by rw [sbM_s Pu mask i0, if_pos (by omega)]; rw [List.length_append, hsz]; rfl) (by rw [sbM_s Pu mask i0, if_pos (by omega)]; rw [wL_app, htg]; show _ = _ + (w (Pu i) + 0); omega) ⟨by omega, by omega⟩ (fun q => ((dpM_s Pu mask i0).mp q).elim hnd (fun q => by omega)) (by rw [sbM_s Pu mask i0, if_pos (by omega)]; rw [hsz]; exact ls_snoc hls) (fun x a b => by rw [iu_ne _ _ (by omega)]; exact hhd x a b) (by first | assumption | omega) 
        · refine Rx.walk 1 (pc' := 43) (L' := [some (.ref (cpl c)), some (.int (iz mask)), some (.ref 3), some (.int (iz sz)), some (.int (iz tg)), some (.int (iz i))]) (st' := [.ref (cpl c)]) (h' := cxW z (uf f 4 w) (uC C c (prc, Pu, co, se, hd, hz, sp, ch)) T rc tl) rfl ?_
          refine Rx.gfS rfl rfl (cW_Cu (by omega)) rfl ?_
          refine Rx.walk 1 (pc' := 48) (L' := [some (.ref (cpl c)), some (.int (iz mask)), some (.ref 3), some (.int (iz sz)), some (.int (iz tg)), some (.int (iz i))]) (st' := [.int (iz i), .ref (cpl c + 1)]) (h' := cxW z (uf f 4 w) (uC C c (prc, Pu, co, se, hd, hz, sp, ch)) T rc tl) rfl ?_
          refine Rx.ial (g := Pu) rfl (cW_C1u (by omega)) (by omega) (by omega) (by omega) ?_
          have hpi := hP i i0 (by omega)
          refine Rx.walk 1 (pc' := 50) (L' := [some (.ref (cpl c)), some (.int (iz mask)), some (.ref 3), some (.int (iz sz)), some (.int (iz tg)), some (.int (iz i))]) (st' := [.ref (cpl c), .int (iz (Pu i))]) (h' := cxW z (uf f 4 w) (uC C c (prc, Pu, co, se, hd, hz, sp, ch)) T rc tl) rfl ?_
          refine Rx.gfS rfl rfl (cW_Cu (by omega)) rfl ?_
          refine Rx.walk 2 (pc' := 56) (L' := [some (.ref (cpl c)), some (.int (iz mask)), some (.ref 3), some (.int (iz sz)), some (.int (iz tg)), some (.int (iz i))]) (st' := [.int (iz 1), .int (iz i), .ref (cpl c + 1), .int (iz (Pu i))]) (h' := cxW z (uf f 4 w) (uC C c (prc, Pu, co, se, hd, hz, sp, ch)) T rc tl) rfl ?_
          refine Rx.isub rfl ?_
          refine Rx.ial (g := Pu) rfl (cW_C1u (by omega)) (by omega) (by omega) (by omega) ?_
          have hpj := hP (i - 1) (by omega) (by omega)
          refine Rx.ne2 rfl rfl ⟨by omega, by omega⟩ ⟨by omega, by omega⟩ (fun b4 => ?_) (fun b4 => ?_)
          · refine Rx.walk 1 (pc' := 74) (L' := [some (.ref (cpl c)), some (.int (iz mask)), some (.ref 3), some (.int (iz sz)), some (.int (iz tg)), some (.int (iz i))]) (st' := [.ref (cpl c)]) (h' := cxW z (uf f 4 w) (uC C c (prc, Pu, co, se, hd, hz, sp, ch)) T rc tl) rfl ?_
            refine Rx.gfS rfl rfl (cW_Cu (by omega)) rfl ?_
            refine Rx.walk 1 (pc' := 78) (L' := [some (.ref (cpl c)), some (.int (iz mask)), some (.ref 3), some (.int (iz sz)), some (.int (iz tg)), some (.int (iz i))]) (st' := [.ref (cpl c), .ref (cpl c + 2)]) (h' := cxW z (uf f 4 w) (uC C c (prc, Pu, co, se, hd, hz, sp, ch)) T rc tl) rfl ?_
            refine Rx.gfS rfl rfl (cW_Cu (by omega)) rfl ?_
            refine Rx.walk 0 (pc' := 81) (L' := [some (.ref (cpl c)), some (.int (iz mask)), some (.ref 3), some (.int (iz sz)), some (.int (iz tg)), some (.int (iz i))]) (st' := [.int (iz se), .ref (cpl c + 2)]) (h' := cxW z (uf f 4 w) (uC C c (prc, Pu, co, se, hd, hz, sp, ch)) T rc tl) rfl ?_
            refine Rx.walk 1 (pc' := 82) (L' := [some (.ref (cpl c)), some (.int (iz mask)), some (.ref 3), some (.int (iz sz)), some (.int (iz tg)), some (.int (iz i))]) (st' := [.int (iz 4), .int (iz se), .ref (cpl c + 2)]) (h' := cxW z (uf f 4 w) (uC C c (prc, Pu, co, se, hd, hz, sp, ch)) T rc tl) rfl ?_
            refine Rx.imul rfl ?_
            refine Rx.walk 1 (pc' := 84) (L' := [some (.ref (cpl c)), some (.int (iz mask)), some (.ref 3), some (.int (iz sz)), some (.int (iz tg)), some (.int (iz i))]) (st' := [.int (iz sz), .int (iz (se * 4)), .ref (cpl c + 2)]) (h' := cxW z (uf f 4 w) (uC C c (prc, Pu, co, se, hd, hz, sp, ch)) T rc tl) rfl ?_
            refine Rx.iadd rfl ?_
            refine Rx.walk 1 (pc' := 86) (L' := [some (.ref (cpl c)), some (.int (iz mask)), some (.ref 3), some (.int (iz sz)), some (.int (iz tg)), some (.int (iz i))]) (st' := [.ref (cpl c), .int (iz ((se * 4) + sz)), .ref (cpl c + 2)]) (h' := cxW z (uf f 4 w) (uC C c (prc, Pu, co, se, hd, hz, sp, ch)) T rc tl) rfl ?_
            refine Rx.gfS rfl rfl (cW_Cu (by omega)) rfl ?_
            refine Rx.walk 1 (pc' := 91) (L' := [some (.ref (cpl c)), some (.int (iz mask)), some (.ref 3), some (.int (iz sz)), some (.int (iz tg)), some (.int (iz i))]) (st' := [.int (iz i), .ref (cpl c + 1), .int (iz ((se * 4) + sz)), .ref (cpl c + 2)]) (h' := cxW z (uf f 4 w) (uC C c (prc, Pu, co, se, hd, hz, sp, ch)) T rc tl) rfl ?_
            refine Rx.ial (g := Pu) rfl (cW_C1u (by omega)) (by omega) (by omega) (by omega) ?_
            have hpk := hP i i0 (by omega)
            refine Rx.ias (g := hd) (h' := cxW z (uf f 4 w) (uC C c (prc, Pu, co, se, (iu hd ((se * 4) + sz) (Pu i)), hz, sp, ch)) T rc tl) rfl (cW_C2u (by omega)) (by omega) (by omega) (by omega) (cW_C2q (by omega)) ?_
            refine Rx.iinc (b := 1) rfl rfl rfl ?_
            refine Rx.walk 0 (pc' := 96) (L' := [some (.ref (cpl c)), some (.int (iz mask)), some (.ref 3), some (.int (iz (sz + 1))), some (.int (iz tg)), some (.int (iz i))]) (st' := []) (h' := cxW z (uf f 4 w) (uC C c (prc, Pu, co, se, (iu hd ((se * 4) + sz) (Pu i)), hz, sp, ch)) T rc tl) rfl ?_
            refine Rx.walk 4 (pc' := 103) (L' := [some (.ref (cpl c)), some (.int (iz mask)), some (.ref 3), some (.int (iz (sz + 1))), some (.int (iz tg)), some (.int (iz i))]) (st' := [.ref (cpl c), .ref 4, .int (iz tg)]) (h' := cxW z (uf f 4 w) (uC C c (prc, Pu, co, se, (iu hd ((se * 4) + sz) (Pu i)), hz, sp, ch)) T rc tl) rfl ?_
            refine Rx.gfS rfl rfl (cW_Cu (by omega)) rfl ?_
            refine Rx.walk 1 (pc' := 108) (L' := [some (.ref (cpl c)), some (.int (iz mask)), some (.ref 3), some (.int (iz (sz + 1))), some (.int (iz tg)), some (.int (iz i))]) (st' := [.int (iz i), .ref (cpl c + 1), .ref 4, .int (iz tg)]) (h' := cxW z (uf f 4 w) (uC C c (prc, Pu, co, se, (iu hd ((se * 4) + sz) (Pu i)), hz, sp, ch)) T rc tl) rfl ?_
            refine Rx.ial (g := Pu) rfl (cW_C1u (by omega)) (by omega) (by omega) (by omega) ?_
            have hpl := hP i i0 (by omega)
            have hwb := hw.2 (Pu i) (by omega) (by omega)
            refine Rx.ial (g := w) rfl rfl (by omega) (by omega) (by omega) ?_
            refine Rx.iadd rfl ?_
            refine Rx.walk 1 (pc' := 113) (L' := [some (.ref (cpl c)), some (.int (iz mask)), some (.ref 3), some (.int (iz (sz + 1))), some (.int (iz (tg + (w (Pu i))))), some (.int (iz i))]) (st' := []) (h' := cxW z (uf f 4 w) (uC C c (prc, Pu, co, se, (iu hd ((se * 4) + sz) (Pu i)), hz, sp, ch)) T rc tl) rfl ?_
            refine Rx.iinc (b := 1) rfl rfl rfl ?_
            refine Rx.walk 0 (pc' := 116) (L' := [some (.ref (cpl c)), some (.int (iz mask)), some (.ref 3), some (.int (iz (sz + 1))), some (.int (iz (tg + (w (Pu i))))), some (.int (iz (i + 1)))]) (st' := []) (h' := cxW z (uf f 4 w) (uC C c (prc, Pu, co, se, (iu hd ((se * 4) + sz) (Pu i)), hz, sp, ch)) T rc tl) rfl ?_
            refine Rx.walk 1 (pc' := 18) (L' := [some (.ref (cpl c)), some (.int (iz mask)), some (.ref 3), some (.int (iz (sz + 1))), some (.int (iz (tg + (w (Pu i))))), some (.int (iz (i + 1)))]) (st' := []) (h' := cxW z (uf f 4 w) (uC C c (prc, Pu, co, se, (iu hd ((se * 4) + sz) (Pu i)), hz, sp, ch)) T rc tl) rfl ?_
            exact ih (sz + 1) (tg + (w (Pu i))) (i + 1) (iu hd ((se * 4) + sz) (Pu i)) (by first | assumption | omega) (by first | assumption | omega) (by rw [sbM_s Pu mask i0, if_pos (by omega)]; rw [List.length_append, hsz]; rfl) (by rw [sbM_s Pu mask i0, if_pos (by omega)]; rw [wL_app, htg]; show _ = _ + (w (Pu i) + 0); omega) ⟨by omega, by omega⟩ (fun q => ((dpM_s Pu mask i0).mp q).elim hnd (fun q => by omega)) (by rw [sbM_s Pu mask i0, if_pos (by omega)]; rw [hsz]; exact ls_snoc hls) (fun x a b => by rw [iu_ne _ _ (by omega)]; exact hhd x a b) (by first | assumption | omega) 
          · refine Rx.walk 3 (pc' := 65) (L' := [some (.ref (cpl c)), some (.int (iz mask)), some (.ref 3), some (.int (iz sz)), some (.int (iz tg)), some (.int (iz i))]) (st' := [.int (iz 1), .int (iz i), .int (iz mask)]) (h' := cxW z (uf f 4 w) (uC C c (prc, Pu, co, se, hd, hz, sp, ch)) T rc tl) rfl ?_
            refine Rx.isub rfl ?_
            refine Rx.ishr (c := (mask / p2 (i - 1))) rfl (p2_shr (by omega) (by omega) (by omega) (by omega)) ?_
            refine Rx.walk 1 (pc' := 68) (L' := [some (.ref (cpl c)), some (.int (iz mask)), some (.ref 3), some (.int (iz sz)), some (.int (iz tg)), some (.int (iz i))]) (st' := [.int (iz 1), .int (iz (mask / p2 (i - 1)))]) (h' := cxW z (uf f 4 w) (uC C c (prc, Pu, co, se, hd, hz, sp, ch)) T rc tl) rfl ?_
            refine Rx.iand (c := (hb mask (i - 1))) rfl (iz_and1 _) ?_
            refine Rx.ne1 rfl rfl ⟨by omega, by omega⟩ (fun b5 => ?_) (fun b5 => ?_)
            · refine Rx.walk 1 (pc' := 74) (L' := [some (.ref (cpl c)), some (.int (iz mask)), some (.ref 3), some (.int (iz sz)), some (.int (iz tg)), some (.int (iz i))]) (st' := [.ref (cpl c)]) (h' := cxW z (uf f 4 w) (uC C c (prc, Pu, co, se, hd, hz, sp, ch)) T rc tl) rfl ?_
              refine Rx.gfS rfl rfl (cW_Cu (by omega)) rfl ?_
              refine Rx.walk 1 (pc' := 78) (L' := [some (.ref (cpl c)), some (.int (iz mask)), some (.ref 3), some (.int (iz sz)), some (.int (iz tg)), some (.int (iz i))]) (st' := [.ref (cpl c), .ref (cpl c + 2)]) (h' := cxW z (uf f 4 w) (uC C c (prc, Pu, co, se, hd, hz, sp, ch)) T rc tl) rfl ?_
              refine Rx.gfS rfl rfl (cW_Cu (by omega)) rfl ?_
              refine Rx.walk 0 (pc' := 81) (L' := [some (.ref (cpl c)), some (.int (iz mask)), some (.ref 3), some (.int (iz sz)), some (.int (iz tg)), some (.int (iz i))]) (st' := [.int (iz se), .ref (cpl c + 2)]) (h' := cxW z (uf f 4 w) (uC C c (prc, Pu, co, se, hd, hz, sp, ch)) T rc tl) rfl ?_
              refine Rx.walk 1 (pc' := 82) (L' := [some (.ref (cpl c)), some (.int (iz mask)), some (.ref 3), some (.int (iz sz)), some (.int (iz tg)), some (.int (iz i))]) (st' := [.int (iz 4), .int (iz se), .ref (cpl c + 2)]) (h' := cxW z (uf f 4 w) (uC C c (prc, Pu, co, se, hd, hz, sp, ch)) T rc tl) rfl ?_
              refine Rx.imul rfl ?_
              refine Rx.walk 1 (pc' := 84) (L' := [some (.ref (cpl c)), some (.int (iz mask)), some (.ref 3), some (.int (iz sz)), some (.int (iz tg)), some (.int (iz i))]) (st' := [.int (iz sz), .int (iz (se * 4)), .ref (cpl c + 2)]) (h' := cxW z (uf f 4 w) (uC C c (prc, Pu, co, se, hd, hz, sp, ch)) T rc tl) rfl ?_
              refine Rx.iadd rfl ?_
              refine Rx.walk 1 (pc' := 86) (L' := [some (.ref (cpl c)), some (.int (iz mask)), some (.ref 3), some (.int (iz sz)), some (.int (iz tg)), some (.int (iz i))]) (st' := [.ref (cpl c), .int (iz ((se * 4) + sz)), .ref (cpl c + 2)]) (h' := cxW z (uf f 4 w) (uC C c (prc, Pu, co, se, hd, hz, sp, ch)) T rc tl) rfl ?_
              refine Rx.gfS rfl rfl (cW_Cu (by omega)) rfl ?_
              refine Rx.walk 1 (pc' := 91) (L' := [some (.ref (cpl c)), some (.int (iz mask)), some (.ref 3), some (.int (iz sz)), some (.int (iz tg)), some (.int (iz i))]) (st' := [.int (iz i), .ref (cpl c + 1), .int (iz ((se * 4) + sz)), .ref (cpl c + 2)]) (h' := cxW z (uf f 4 w) (uC C c (prc, Pu, co, se, hd, hz, sp, ch)) T rc tl) rfl ?_
              refine Rx.ial (g := Pu) rfl (cW_C1u (by omega)) (by omega) (by omega) (by omega) ?_
              have hpk := hP i i0 (by omega)
              refine Rx.ias (g := hd) (h' := cxW z (uf f 4 w) (uC C c (prc, Pu, co, se, (iu hd ((se * 4) + sz) (Pu i)), hz, sp, ch)) T rc tl) rfl (cW_C2u (by omega)) (by omega) (by omega) (by omega) (cW_C2q (by omega)) ?_
              refine Rx.iinc (b := 1) rfl rfl rfl ?_
              refine Rx.walk 0 (pc' := 96) (L' := [some (.ref (cpl c)), some (.int (iz mask)), some (.ref 3), some (.int (iz (sz + 1))), some (.int (iz tg)), some (.int (iz i))]) (st' := []) (h' := cxW z (uf f 4 w) (uC C c (prc, Pu, co, se, (iu hd ((se * 4) + sz) (Pu i)), hz, sp, ch)) T rc tl) rfl ?_
              refine Rx.walk 4 (pc' := 103) (L' := [some (.ref (cpl c)), some (.int (iz mask)), some (.ref 3), some (.int (iz (sz + 1))), some (.int (iz tg)), some (.int (iz i))]) (st' := [.ref (cpl c), .ref 4, .int (iz tg)]) (h' := cxW z (uf f 4 w) (uC C c (prc, Pu, co, se, (iu hd ((se * 4) + sz) (Pu i)), hz, sp, ch)) T rc tl) rfl ?_
              refine Rx.gfS rfl rfl (cW_Cu (by omega)) rfl ?_
              refine Rx.walk 1 (pc' := 108) (L' := [some (.ref (cpl c)), some (.int (iz mask)), some (.ref 3), some (.int (iz (sz + 1))), some (.int (iz tg)), some (.int (iz i))]) (st' := [.int (iz i), .ref (cpl c + 1), .ref 4, .int (iz tg)]) (h' := cxW z (uf f 4 w) (uC C c (prc, Pu, co, se, (iu hd ((se * 4) + sz) (Pu i)), hz, sp, ch)) T rc tl) rfl ?_
              refine Rx.ial (g := Pu) rfl (cW_C1u (by omega)) (by omega) (by omega) (by omega) ?_
              have hpl := hP i i0 (by omega)
              have hwb := hw.2 (Pu i) (by omega) (by omega)
              refine Rx.ial (g := w) rfl rfl (by omega) (by omega) (by omega) ?_
              refine Rx.iadd rfl ?_
              refine Rx.walk 1 (pc' := 113) (L' := [some (.ref (cpl c)), some (.int (iz mask)), some (.ref 3), some (.int (iz (sz + 1))), some (.int (iz (tg + (w (Pu i))))), some (.int (iz i))]) (st' := []) (h' := cxW z (uf f 4 w) (uC C c (prc, Pu, co, se, (iu hd ((se * 4) + sz) (Pu i)), hz, sp, ch)) T rc tl) rfl ?_
              refine Rx.iinc (b := 1) rfl rfl rfl ?_
              refine Rx.walk 0 (pc' := 116) (L' := [some (.ref (cpl c)), some (.int (iz mask)), some (.ref 3), some (.int (iz (sz + 1))), some (.int (iz (tg + (w (Pu i))))), some (.int (iz (i + 1)))]) (st' := []) (h' := cxW z (uf f 4 w) (uC C c (prc, Pu, co, se, (iu hd ((se * 4) + sz) (Pu i)), hz, sp, ch)) T rc tl) rfl ?_
              refine Rx.walk 1 (pc' := 18) (L' := [some (.ref (cpl c)), some (.int (iz mask)), some (.ref 3), some (.int (iz (sz + 1))), some (.int (iz (tg + (w (Pu i))))), some (.int (iz (i + 1)))]) (st' := []) (h' := cxW z (uf f 4 w) (uC C c (prc, Pu, co, se, (iu hd ((se * 4) + sz) (Pu i)), hz, sp, ch)) T rc tl) rfl ?_
              exact ih (sz + 1) (tg + (w (Pu i))) (i + 1) (iu hd ((se * 4) + sz) (Pu i)) (by first | assumption | omega) (by first | assumption | omega) (by rw [sbM_s Pu mask i0, if_pos (by omega)]; rw [List.length_append, hsz]; rfl) (by rw [sbM_s Pu mask i0, if_pos (by omega)]; rw [wL_app, htg]; show _ = _ + (w (Pu i) + 0); omega) ⟨by omega, by omega⟩ (fun q => ((dpM_s Pu mask i0).mp q).elim hnd (fun q => by omega)) (by rw [sbM_s Pu mask i0, if_pos (by omega)]; rw [hsz]; exact ls_snoc hls) (fun x a b => by rw [iu_ne _ _ (by omega)]; exact hhd x a b) (by first | assumption | omega) 
            · refine Rx.ret rfl ?_
              exact hx1 _ (dpM_m (show (i + 1).toNat ≤ co.toNat by omega) ((dpM_s Pu mask i0).mpr (Or.inr ⟨by omega, by omega, by omega, by omega⟩))) hhd

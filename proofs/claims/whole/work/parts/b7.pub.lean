/-! by, run, day, mean of the class (printed by wip/whole/genpub.py) -/
/-- a rule of the class: its code lies in the tail and is what V says -/
def ruC (tl : AmH) (r : Nat) (sz : Int) (V : (Int → Int) → Int) : Prop := ∃ (ln : Nat) (cd : Int → Int), (98 ≤ r ∧ am_nth tl (r - 98) = some (.inl (.int, ln, .inl (av cd)))) ∧ (0 ≤ sz ∧ sz ≤ 161 ∧ sz = (ln : Int)) ∧ (∀ j : Int, 0 ≤ j → j < sz → sgB (cd j)) ∧ ruV V (crem cd 0 sz.toNat)
set_option maxRecDepth 100000 in
set_option maxHeartbeats 4000000 in
theorem x_by (d : Nat) (z : Nat → Nat → Int) (f : Nat → Int → Int) (C : Nat → CuR) (T : Nat → TsR) (rc : Nat → Nat) (tl : AmH)  (ri : Int) (ci : Int) (sv : Int → Int) (Rn : Int) (M : Int) (v : Int) (pi : Int) (len : Int) (w : Int → Int) (g : Int → Int) (lt : Int → Int) (sk : Int → Int) (t : Int) (s0 : Int) (s1 : Int) (s2 : Int) (s3 : Int) (K : Int) (Vs : Int → (Int → Int) → Int) (hri : bI ri) (hci : bI ci) (hw : wOK w) (hpi : pi = 1 ∨ pi = 2) (hlen : 1 ≤ len ∧ len ≤ 5) (hM : 0 ≤ M ∧ M ≤ 4) (hK : 1 ≤ K ∧ K ≤ 4) (hcK : cuK C K M) (hv : vT K len pi v) (hRn : 0 ≤ Rn ∧ Rn ≤ 4) (hr0 : 0 < Rn → ruC tl (rc 36) s0 (Vs 0)) (hr1 : 1 < Rn → ruC tl (rc 38) s1 (Vs 1)) (hr2 : 2 < Rn → ruC tl (rc 40) s2 (Vs 2)) (hr3 : 3 < Rn → ruC tl (rc 42) s3 (Vs 3)) : Rx (d + 7) m_X11_by 0 (am_ent [.ref 0, .int (iz ri), .int (iz ci)] 4) [] (cxW (u2 (u2 (u2 (u2 (u2 (u2 (u2 (u2 (u2 (u2 z 0 6 M) 0 8 Rn) 0 9 v) 3 2 pi) 3 3 len) 36 1 s0) 38 1 s1) 40 1 s2) 42 1 s3) 91 3 t) (uf (uf (uf (uf (uf f 4 w) 44 sv) 92 g) 93 lt) 94 sk) C T rc tl) (fun rv h => ∃ r : Int, ∃ v' : Int, ∃ sv' : Int → Int, ∃ g' : Int → Int, ∃ lt' : Int → Int, ∃ sk' : Int → Int, ∃ t' : Int, rv = some (.int (iz r)) ∧ h = cxW (u2 (u2 (u2 (u2 (u2 (u2 (u2 (u2 (u2 (u2 z 0 6 M) 0 8 Rn) 0 9 v') 3 2 pi) 3 3 len) 36 1 s0) 38 1 s1) 40 1 s2) 42 1 s3) 91 3 t') (uf (uf (uf (uf (uf f 4 w) 44 sv') 92 g') 93 lt') 94 sk') C T rc tl ∧ ((¬ ((0 ≤ ri ∧ ri < Rn) ∧ 0 ≤ ci ∧ ci < M) ∧ r = -1 ∧ v' = v ∧ sv' = sv) ∨ ((0 ≤ ri ∧ ri < Rn) ∧ (0 ≤ ci ∧ ci < M) ∧ ((TBx (Vs ri) w pi len C ci v = -1 ∧ r = 0 ∧ v' = v ∧ sv' = sv) ∨ (TBx (Vs ri) w pi len C ci v ≠ -1 ∧ r = 1 ∧ v' = TBx (Vs ri) w pi len C ci v ∧ sv' = iu sv ci (sv ci + 1)))))) := by
  obtain ⟨hri1, hri2⟩ := id hri
  obtain ⟨hv1, hv2⟩ := vT_bk hK.2 hv
  obtain ⟨hci1, hci2⟩ := id hci
  refine Rx.walk 0 (pc' := 0) (L' := [some (.ref 0), some (.int (iz ri)), some (.int (iz ci)), none]) (st' := []) (h' := cxW (u2 (u2 (u2 (u2 (u2 (u2 (u2 (u2 (u2 (u2 z 0 6 M) 0 8 Rn) 0 9 v) 3 2 pi) 3 3 len) 36 1 s0) 38 1 s1) 40 1 s2) 42 1 s3) 91 3 t) (uf (uf (uf (uf (uf f 4 w) 44 sv) 92 g) 93 lt) 94 sk) C T rc tl) rfl ?_
  refine Rx.walk 2 (pc' := 2) (L' := [some (.ref 0), some (.int (iz ri)), some (.int (iz ci)), none]) (st' := [.int (iz ri), .ref 0]) (h' := cxW (u2 (u2 (u2 (u2 (u2 (u2 (u2 (u2 (u2 (u2 z 0 6 M) 0 8 Rn) 0 9 v) 3 2 pi) 3 3 len) 36 1 s0) 38 1 s1) 40 1 s2) 42 1 s3) 91 3 t) (uf (uf (uf (uf (uf f 4 w) 44 sv) 92 g) 93 lt) 94 sk) C T rc tl) rfl ?_
  refine Rx.callx (m' := m_X11_isRule) (as := [.ref 0, .int (iz ri)]) (rest := []) rfl (x_isRule _ (u2 (u2 (u2 (u2 (u2 (u2 (u2 (u2 (u2 z 0 6 M) 0 9 v) 3 2 pi) 3 3 len) 36 1 s0) 38 1 s1) 40 1 s2) 42 1 s3) 91 3 t) (uf (uf (uf (uf (uf f 4 w) 44 sv) 92 g) 93 lt) 94 sk) C T rc tl  ri Rn (by first | assumption | omega) hri) (fun v3 h4 q5 => ?_)
  obtain ⟨r_1, rfl, rfl, f2⟩ := q5
  refine Rx.walk 0 (pc' := 5) (L' := [some (.ref 0), some (.int (iz ri)), some (.int (iz ci)), none]) (st' := [.int (iz r_1)]) (h' := cxW (u2 (u2 (u2 (u2 (u2 (u2 (u2 (u2 (u2 (u2 z 0 6 M) 0 8 Rn) 0 9 v) 3 2 pi) 3 3 len) 36 1 s0) 38 1 s1) 40 1 s2) 42 1 s3) 91 3 t) (uf (uf (uf (uf (uf f 4 w) 44 sv) 92 g) 93 lt) 94 sk) C T rc tl) rfl ?_
  refine Rx.eq1 rfl rfl ⟨by omega, by omega⟩ (fun b6 => ?_) (fun b6 => ?_)
  · refine Rx.walk 1 (pc' := 17) (L' := [some (.ref 0), some (.int (iz ri)), some (.int (iz ci)), none]) (st' := [.int (iz (-1))]) (h' := cxW (u2 (u2 (u2 (u2 (u2 (u2 (u2 (u2 (u2 (u2 z 0 6 M) 0 8 Rn) 0 9 v) 3 2 pi) 3 3 len) 36 1 s0) 38 1 s1) 40 1 s2) 42 1 s3) 91 3 t) (uf (uf (uf (uf (uf f 4 w) 44 sv) 92 g) 93 lt) 94 sk) C T rc tl) rfl ?_
    refine Rx.ret rfl ?_
    exact ⟨_, _, _, _, _, _, _, rfl, rfl, Or.inl ⟨by omega, rfl, rfl, rfl⟩⟩
  · refine Rx.walk 2 (pc' := 10) (L' := [some (.ref 0), some (.int (iz ri)), some (.int (iz ci)), none]) (st' := [.int (iz ci), .ref 0]) (h' := cxW (u2 (u2 (u2 (u2 (u2 (u2 (u2 (u2 (u2 (u2 z 0 6 M) 0 8 Rn) 0 9 v) 3 2 pi) 3 3 len) 36 1 s0) 38 1 s1) 40 1 s2) 42 1 s3) 91 3 t) (uf (uf (uf (uf (uf f 4 w) 44 sv) 92 g) 93 lt) 94 sk) C T rc tl) rfl ?_
    refine Rx.callx (m' := m_X11_isCustomer) (as := [.ref 0, .int (iz ci)]) (rest := []) rfl (x_isCust _ (u2 (u2 (u2 (u2 (u2 (u2 (u2 (u2 (u2 z 0 8 Rn) 0 9 v) 3 2 pi) 3 3 len) 36 1 s0) 38 1 s1) 40 1 s2) 42 1 s3) 91 3 t) (uf (uf (uf (uf (uf f 4 w) 44 sv) 92 g) 93 lt) 94 sk) C T rc tl  ci M (by first | assumption | omega) hci) (fun v9 h10 q11 => ?_)
    obtain ⟨r_7, rfl, rfl, f8⟩ := q11
    refine Rx.walk 0 (pc' := 13) (L' := [some (.ref 0), some (.int (iz ri)), some (.int (iz ci)), none]) (st' := [.int (iz r_7)]) (h' := cxW (u2 (u2 (u2 (u2 (u2 (u2 (u2 (u2 (u2 (u2 z 0 6 M) 0 8 Rn) 0 9 v) 3 2 pi) 3 3 len) 36 1 s0) 38 1 s1) 40 1 s2) 42 1 s3) 91 3 t) (uf (uf (uf (uf (uf f 4 w) 44 sv) 92 g) 93 lt) 94 sk) C T rc tl) rfl ?_
    refine Rx.ne1 rfl rfl ⟨by omega, by omega⟩ (fun b12 => ?_) (fun b12 => ?_)
    · refine Rx.walk 8 (pc' := 32) (L' := [some (.ref 0), some (.int (iz ri)), some (.int (iz ci)), none]) (st' := [.int (iz ri), .ref 35, .int (iz ci), .int (iz v), .ref 91]) (h' := cxW (u2 (u2 (u2 (u2 (u2 (u2 (u2 (u2 (u2 (u2 z 0 6 M) 0 8 Rn) 0 9 v) 3 2 pi) 3 3 len) 36 1 s0) 38 1 s1) 40 1 s2) 42 1 s3) 91 3 t) (uf (uf (uf (uf (uf f 4 w) 44 sv) 92 g) 93 lt) 94 sk) C T rc tl) rfl ?_
      rcases (show ri = 0 ∨ ri = 1 ∨ ri = 2 ∨ ri = 3 by omega) with z14 | z14 | z14 | z14
      · rw [z14]
        refine Rx.aal 0 rfl rfl rfl (by omega) (by omega) (by omega) rfl ?_
        subst z14
        refine Rx.walk 0 (pc' := 33) (L' := [some (.ref 0), some (.int (iz 0)), some (.int (iz ci)), none]) (st' := [.ref 36, .int (iz ci), .int (iz v), .ref 91]) (h' := cxW (u2 (u2 (u2 (u2 (u2 (u2 (u2 (u2 (u2 (u2 z 0 6 M) 0 8 Rn) 0 9 v) 3 2 pi) 3 3 len) 36 1 s0) 38 1 s1) 40 1 s2) 42 1 s3) 91 3 t) (uf (uf (uf (uf (uf f 4 w) 44 sv) 92 g) 93 lt) 94 sk) C T rc tl) rfl ?_
        obtain ⟨ln, cd, hrc, hsz, hcb, hV⟩ := hr0 (by omega)
        have hcc := hcK ci (by omega) (by omega)
        refine Rx.callx (m' := m_X1_tillBehind) (as := [.ref 91, .int (iz v), .int (iz ci), .ref 36]) (rest := []) rfl (x_tillB36 _ (u2 (u2 (u2 (u2 (u2 (u2 z 0 6 M) 0 8 Rn) 0 9 v) 38 1 s1) 40 1 s2) 42 1 s3) (uf f 44 sv) C T rc tl  v ci g t pi len w lt sk s0 ln cd (Vs 0) (by first | assumption | omega) (by first | assumption | omega) (by first | assumption | omega) (by first | assumption | omega) (by first | assumption | omega) (by first | assumption | omega) (by first | assumption | omega) ⟨by omega, by omega⟩ hv1 hv2 hcc.1 hcc.2.1) (fun v21 h22 q23 => ?_)
        obtain ⟨r_15, g_16, t_17, lt_18, sk_19, rfl, rfl, f20⟩ := q23
        refine Rx.walk 0 (pc' := 36) (L' := [some (.ref 0), some (.int (iz 0)), some (.int (iz ci)), none]) (st' := [.int (iz r_15)]) (h' := cxW (u2 (u2 (u2 (u2 (u2 (u2 (u2 (u2 (u2 (u2 z 0 6 M) 0 8 Rn) 0 9 v) 3 2 pi) 3 3 len) 36 1 s0) 38 1 s1) 40 1 s2) 42 1 s3) 91 3 t_17) (uf (uf (uf (uf (uf f 4 w) 44 sv) 92 g_16) 93 lt_18) 94 sk_19) C T rc tl) rfl ?_
        have hvn := tbN_vT (V := Vs 0) (w := w) (H := hOf (C ci.toNat)) (by omega) hlen.2 (by omega) hK.2 hcc.2.2 hv
        rw [← f20] at hvn
        have hrb : -1 ≤ r_15 ∧ r_15 < 156250000 := by rcases hvn with q | q; (exact ⟨by omega, by omega⟩); (have z := (vT_bk hK.2 q).1; exact ⟨by omega, by omega⟩)
        refine Rx.walk 3 (pc' := 39) (L' := [some (.ref 0), some (.int (iz 0)), some (.int (iz ci)), some (.int (iz r_15))]) (st' := [.int (iz (-1)), .int (iz r_15)]) (h' := cxW (u2 (u2 (u2 (u2 (u2 (u2 (u2 (u2 (u2 (u2 z 0 6 M) 0 8 Rn) 0 9 v) 3 2 pi) 3 3 len) 36 1 s0) 38 1 s1) 40 1 s2) 42 1 s3) 91 3 t_17) (uf (uf (uf (uf (uf f 4 w) 44 sv) 92 g_16) 93 lt_18) 94 sk_19) C T rc tl) rfl ?_
        refine Rx.ne2 rfl rfl ⟨by omega, by omega⟩ ⟨by omega, by omega⟩ (fun b24 => ?_) (fun b24 => ?_)
        · refine Rx.walk 7 (pc' := 55) (L' := [some (.ref 0), some (.int (iz 0)), some (.int (iz ci)), some (.int (iz r_15))]) (st' := [.int (iz ci), .ref 44, .int (iz ci), .ref 44]) (h' := cxW (u2 (u2 (u2 (u2 (u2 (u2 (u2 (u2 (u2 (u2 z 0 6 M) 0 8 Rn) 0 9 r_15) 3 2 pi) 3 3 len) 36 1 s0) 38 1 s1) 40 1 s2) 42 1 s3) 91 3 t_17) (uf (uf (uf (uf (uf f 4 w) 44 sv) 92 g_16) 93 lt_18) 94 sk_19) C T rc tl) rfl ?_
          refine Rx.ial (g := sv) rfl rfl (by omega) (by omega) (by omega) ?_
          refine Rx.walk 1 (pc' := 57) (L' := [some (.ref 0), some (.int (iz 0)), some (.int (iz ci)), some (.int (iz r_15))]) (st' := [.int (iz 1), .int (iz (sv ci)), .int (iz ci), .ref 44]) (h' := cxW (u2 (u2 (u2 (u2 (u2 (u2 (u2 (u2 (u2 (u2 z 0 6 M) 0 8 Rn) 0 9 r_15) 3 2 pi) 3 3 len) 36 1 s0) 38 1 s1) 40 1 s2) 42 1 s3) 91 3 t_17) (uf (uf (uf (uf (uf f 4 w) 44 sv) 92 g_16) 93 lt_18) 94 sk_19) C T rc tl) rfl ?_
          refine Rx.iadd rfl ?_
          refine Rx.ias (g := sv) (h' := cxW (u2 (u2 (u2 (u2 (u2 (u2 (u2 (u2 (u2 (u2 z 0 6 M) 0 8 Rn) 0 9 r_15) 3 2 pi) 3 3 len) 36 1 s0) 38 1 s1) 40 1 s2) 42 1 s3) 91 3 t_17) (uf (uf (uf (uf (uf f 4 w) 44 (iu sv ci ((sv ci) + 1))) 92 g_16) 93 lt_18) 94 sk_19) C T rc tl) rfl rfl (by omega) (by omega) (by omega) rfl ?_
          refine Rx.walk 1 (pc' := 60) (L' := [some (.ref 0), some (.int (iz 0)), some (.int (iz ci)), some (.int (iz r_15))]) (st' := [.int (iz 1)]) (h' := cxW (u2 (u2 (u2 (u2 (u2 (u2 (u2 (u2 (u2 (u2 z 0 6 M) 0 8 Rn) 0 9 r_15) 3 2 pi) 3 3 len) 36 1 s0) 38 1 s1) 40 1 s2) 42 1 s3) 91 3 t_17) (uf (uf (uf (uf (uf f 4 w) 44 (iu sv ci ((sv ci) + 1))) 92 g_16) 93 lt_18) 94 sk_19) C T rc tl) rfl ?_
          refine Rx.ret rfl ?_
          exact ⟨_, _, _, _, _, _, _, rfl, rfl, Or.inr ⟨⟨by omega, by omega⟩, ⟨by omega, by omega⟩, Or.inr ⟨by rw [(show TBx (Vs 0) w pi len C ci v = r_15 from f20.symm)]; omega, rfl, f20, rfl⟩⟩⟩
        · refine Rx.walk 1 (pc' := 43) (L' := [some (.ref 0), some (.int (iz 0)), some (.int (iz ci)), some (.int (iz r_15))]) (st' := [.int (iz 0)]) (h' := cxW (u2 (u2 (u2 (u2 (u2 (u2 (u2 (u2 (u2 (u2 z 0 6 M) 0 8 Rn) 0 9 v) 3 2 pi) 3 3 len) 36 1 s0) 38 1 s1) 40 1 s2) 42 1 s3) 91 3 t_17) (uf (uf (uf (uf (uf f 4 w) 44 sv) 92 g_16) 93 lt_18) 94 sk_19) C T rc tl) rfl ?_
          refine Rx.ret rfl ?_
          exact ⟨_, _, _, _, _, _, _, rfl, rfl, Or.inr ⟨⟨by omega, by omega⟩, ⟨by omega, by omega⟩, Or.inl ⟨by rw [(show TBx (Vs 0) w pi len C ci v = r_15 from f20.symm)]; omega, rfl, rfl, rfl⟩⟩⟩
      · rw [z14]
        refine Rx.aal 1 rfl rfl rfl (by omega) (by omega) (by omega) rfl ?_
        subst z14
        refine Rx.walk 0 (pc' := 33) (L' := [some (.ref 0), some (.int (iz 1)), some (.int (iz ci)), none]) (st' := [.ref 38, .int (iz ci), .int (iz v), .ref 91]) (h' := cxW (u2 (u2 (u2 (u2 (u2 (u2 (u2 (u2 (u2 (u2 z 0 6 M) 0 8 Rn) 0 9 v) 3 2 pi) 3 3 len) 36 1 s0) 38 1 s1) 40 1 s2) 42 1 s3) 91 3 t) (uf (uf (uf (uf (uf f 4 w) 44 sv) 92 g) 93 lt) 94 sk) C T rc tl) rfl ?_
        obtain ⟨ln, cd, hrc, hsz, hcb, hV⟩ := hr1 (by omega)
        have hcc := hcK ci (by omega) (by omega)
        refine Rx.callx (m' := m_X1_tillBehind) (as := [.ref 91, .int (iz v), .int (iz ci), .ref 38]) (rest := []) rfl (x_tillB38 _ (u2 (u2 (u2 (u2 (u2 (u2 z 0 6 M) 0 8 Rn) 0 9 v) 36 1 s0) 40 1 s2) 42 1 s3) (uf f 44 sv) C T rc tl  v ci g t pi len w lt sk s1 ln cd (Vs 1) (by first | assumption | omega) (by first | assumption | omega) (by first | assumption | omega) (by first | assumption | omega) (by first | assumption | omega) (by first | assumption | omega) (by first | assumption | omega) ⟨by omega, by omega⟩ hv1 hv2 hcc.1 hcc.2.1) (fun v31 h32 q33 => ?_)
        obtain ⟨r_25, g_26, t_27, lt_28, sk_29, rfl, rfl, f30⟩ := q33
        refine Rx.walk 0 (pc' := 36) (L' := [some (.ref 0), some (.int (iz 1)), some (.int (iz ci)), none]) (st' := [.int (iz r_25)]) (h' := cxW (u2 (u2 (u2 (u2 (u2 (u2 (u2 (u2 (u2 (u2 z 0 6 M) 0 8 Rn) 0 9 v) 3 2 pi) 3 3 len) 36 1 s0) 38 1 s1) 40 1 s2) 42 1 s3) 91 3 t_27) (uf (uf (uf (uf (uf f 4 w) 44 sv) 92 g_26) 93 lt_28) 94 sk_29) C T rc tl) rfl ?_
        have hvn := tbN_vT (V := Vs 1) (w := w) (H := hOf (C ci.toNat)) (by omega) hlen.2 (by omega) hK.2 hcc.2.2 hv
        rw [← f30] at hvn
        have hrb : -1 ≤ r_25 ∧ r_25 < 156250000 := by rcases hvn with q | q; (exact ⟨by omega, by omega⟩); (have z := (vT_bk hK.2 q).1; exact ⟨by omega, by omega⟩)
        refine Rx.walk 3 (pc' := 39) (L' := [some (.ref 0), some (.int (iz 1)), some (.int (iz ci)), some (.int (iz r_25))]) (st' := [.int (iz (-1)), .int (iz r_25)]) (h' := cxW (u2 (u2 (u2 (u2 (u2 (u2 (u2 (u2 (u2 (u2 z 0 6 M) 0 8 Rn) 0 9 v) 3 2 pi) 3 3 len) 36 1 s0) 38 1 s1) 40 1 s2) 42 1 s3) 91 3 t_27) (uf (uf (uf (uf (uf f 4 w) 44 sv) 92 g_26) 93 lt_28) 94 sk_29) C T rc tl) rfl ?_
        refine Rx.ne2 rfl rfl ⟨by omega, by omega⟩ ⟨by omega, by omega⟩ (fun b34 => ?_) (fun b34 => ?_)
        · refine Rx.walk 7 (pc' := 55) (L' := [some (.ref 0), some (.int (iz 1)), some (.int (iz ci)), some (.int (iz r_25))]) (st' := [.int (iz ci), .ref 44, .int (iz ci), .ref 44]) (h' := cxW (u2 (u2 (u2 (u2 (u2 (u2 (u2 (u2 (u2 (u2 z 0 6 M) 0 8 Rn) 0 9 r_25) 3 2 pi) 3 3 len) 36 1 s0) 38 1 s1) 40 1 s2) 42 1 s3) 91 3 t_27) (uf (uf (uf (uf (uf f 4 w) 44 sv) 92 g_26) 93 lt_28) 94 sk_29) C T rc tl) rfl ?_
          refine Rx.ial (g := sv) rfl rfl (by omega) (by omega) (by omega) ?_
          refine Rx.walk 1 (pc' := 57) (L' := [some (.ref 0), some (.int (iz 1)), some (.int (iz ci)), some (.int (iz r_25))]) (st' := [.int (iz 1), .int (iz (sv ci)), .int (iz ci), .ref 44]) (h' := cxW (u2 (u2 (u2 (u2 (u2 (u2 (u2 (u2 (u2 (u2 z 0 6 M) 0 8 Rn) 0 9 r_25) 3 2 pi) 3 3 len) 36 1 s0) 38 1 s1) 40 1 s2) 42 1 s3) 91 3 t_27) (uf (uf (uf (uf (uf f 4 w) 44 sv) 92 g_26) 93 lt_28) 94 sk_29) C T rc tl) rfl ?_
          refine Rx.iadd rfl ?_
          refine Rx.ias (g := sv) (h' := cxW (u2 (u2 (u2 (u2 (u2 (u2 (u2 (u2 (u2 (u2 z 0 6 M) 0 8 Rn) 0 9 r_25) 3 2 pi) 3 3 len) 36 1 s0) 38 1 s1) 40 1 s2) 42 1 s3) 91 3 t_27) (uf (uf (uf (uf (uf f 4 w) 44 (iu sv ci ((sv ci) + 1))) 92 g_26) 93 lt_28) 94 sk_29) C T rc tl) rfl rfl (by omega) (by omega) (by omega) rfl ?_
          refine Rx.walk 1 (pc' := 60) (L' := [some (.ref 0), some (.int (iz 1)), some (.int (iz ci)), some (.int (iz r_25))]) (st' := [.int (iz 1)]) (h' := cxW (u2 (u2 (u2 (u2 (u2 (u2 (u2 (u2 (u2 (u2 z 0 6 M) 0 8 Rn) 0 9 r_25) 3 2 pi) 3 3 len) 36 1 s0) 38 1 s1) 40 1 s2) 42 1 s3) 91 3 t_27) (uf (uf (uf (uf (uf f 4 w) 44 (iu sv ci ((sv ci) + 1))) 92 g_26) 93 lt_28) 94 sk_29) C T rc tl) rfl ?_
          refine Rx.ret rfl ?_
          exact ⟨_, _, _, _, _, _, _, rfl, rfl, Or.inr ⟨⟨by omega, by omega⟩, ⟨by omega, by omega⟩, Or.inr ⟨by rw [(show TBx (Vs 1) w pi len C ci v = r_25 from f30.symm)]; omega, rfl, f30, rfl⟩⟩⟩
        · refine Rx.walk 1 (pc' := 43) (L' := [some (.ref 0), some (.int (iz 1)), some (.int (iz ci)), some (.int (iz r_25))]) (st' := [.int (iz 0)]) (h' := cxW (u2 (u2 (u2 (u2 (u2 (u2 (u2 (u2 (u2 (u2 z 0 6 M) 0 8 Rn) 0 9 v) 3 2 pi) 3 3 len) 36 1 s0) 38 1 s1) 40 1 s2) 42 1 s3) 91 3 t_27) (uf (uf (uf (uf (uf f 4 w) 44 sv) 92 g_26) 93 lt_28) 94 sk_29) C T rc tl) rfl ?_
          refine Rx.ret rfl ?_
          exact ⟨_, _, _, _, _, _, _, rfl, rfl, Or.inr ⟨⟨by omega, by omega⟩, ⟨by omega, by omega⟩, Or.inl ⟨by rw [(show TBx (Vs 1) w pi len C ci v = r_25 from f30.symm)]; omega, rfl, rfl, rfl⟩⟩⟩
      · rw [z14]
        refine Rx.aal 2 rfl rfl rfl (by omega) (by omega) (by omega) rfl ?_
        subst z14
        refine Rx.walk 0 (pc' := 33) (L' := [some (.ref 0), some (.int (iz 2)), some (.int (iz ci)), none]) (st' := [.ref 40, .int (iz ci), .int (iz v), .ref 91]) (h' := cxW (u2 (u2 (u2 (u2 (u2 (u2 (u2 (u2 (u2 (u2 z 0 6 M) 0 8 Rn) 0 9 v) 3 2 pi) 3 3 len) 36 1 s0) 38 1 s1) 40 1 s2) 42 1 s3) 91 3 t) (uf (uf (uf (uf (uf f 4 w) 44 sv) 92 g) 93 lt) 94 sk) C T rc tl) rfl ?_
        obtain ⟨ln, cd, hrc, hsz, hcb, hV⟩ := hr2 (by omega)
        have hcc := hcK ci (by omega) (by omega)
        refine Rx.callx (m' := m_X1_tillBehind) (as := [.ref 91, .int (iz v), .int (iz ci), .ref 40]) (rest := []) rfl (x_tillB40 _ (u2 (u2 (u2 (u2 (u2 (u2 z 0 6 M) 0 8 Rn) 0 9 v) 36 1 s0) 38 1 s1) 42 1 s3) (uf f 44 sv) C T rc tl  v ci g t pi len w lt sk s2 ln cd (Vs 2) (by first | assumption | omega) (by first | assumption | omega) (by first | assumption | omega) (by first | assumption | omega) (by first | assumption | omega) (by first | assumption | omega) (by first | assumption | omega) ⟨by omega, by omega⟩ hv1 hv2 hcc.1 hcc.2.1) (fun v41 h42 q43 => ?_)
        obtain ⟨r_35, g_36, t_37, lt_38, sk_39, rfl, rfl, f40⟩ := q43
        refine Rx.walk 0 (pc' := 36) (L' := [some (.ref 0), some (.int (iz 2)), some (.int (iz ci)), none]) (st' := [.int (iz r_35)]) (h' := cxW (u2 (u2 (u2 (u2 (u2 (u2 (u2 (u2 (u2 (u2 z 0 6 M) 0 8 Rn) 0 9 v) 3 2 pi) 3 3 len) 36 1 s0) 38 1 s1) 40 1 s2) 42 1 s3) 91 3 t_37) (uf (uf (uf (uf (uf f 4 w) 44 sv) 92 g_36) 93 lt_38) 94 sk_39) C T rc tl) rfl ?_
        have hvn := tbN_vT (V := Vs 2) (w := w) (H := hOf (C ci.toNat)) (by omega) hlen.2 (by omega) hK.2 hcc.2.2 hv
        rw [← f40] at hvn
        have hrb : -1 ≤ r_35 ∧ r_35 < 156250000 := by rcases hvn with q | q; (exact ⟨by omega, by omega⟩); (have z := (vT_bk hK.2 q).1; exact ⟨by omega, by omega⟩)
        refine Rx.walk 3 (pc' := 39) (L' := [some (.ref 0), some (.int (iz 2)), some (.int (iz ci)), some (.int (iz r_35))]) (st' := [.int (iz (-1)), .int (iz r_35)]) (h' := cxW (u2 (u2 (u2 (u2 (u2 (u2 (u2 (u2 (u2 (u2 z 0 6 M) 0 8 Rn) 0 9 v) 3 2 pi) 3 3 len) 36 1 s0) 38 1 s1) 40 1 s2) 42 1 s3) 91 3 t_37) (uf (uf (uf (uf (uf f 4 w) 44 sv) 92 g_36) 93 lt_38) 94 sk_39) C T rc tl) rfl ?_
        refine Rx.ne2 rfl rfl ⟨by omega, by omega⟩ ⟨by omega, by omega⟩ (fun b44 => ?_) (fun b44 => ?_)
        · refine Rx.walk 7 (pc' := 55) (L' := [some (.ref 0), some (.int (iz 2)), some (.int (iz ci)), some (.int (iz r_35))]) (st' := [.int (iz ci), .ref 44, .int (iz ci), .ref 44]) (h' := cxW (u2 (u2 (u2 (u2 (u2 (u2 (u2 (u2 (u2 (u2 z 0 6 M) 0 8 Rn) 0 9 r_35) 3 2 pi) 3 3 len) 36 1 s0) 38 1 s1) 40 1 s2) 42 1 s3) 91 3 t_37) (uf (uf (uf (uf (uf f 4 w) 44 sv) 92 g_36) 93 lt_38) 94 sk_39) C T rc tl) rfl ?_
          refine Rx.ial (g := sv) rfl rfl (by omega) (by omega) (by omega) ?_
          refine Rx.walk 1 (pc' := 57) (L' := [some (.ref 0), some (.int (iz 2)), some (.int (iz ci)), some (.int (iz r_35))]) (st' := [.int (iz 1), .int (iz (sv ci)), .int (iz ci), .ref 44]) (h' := cxW (u2 (u2 (u2 (u2 (u2 (u2 (u2 (u2 (u2 (u2 z 0 6 M) 0 8 Rn) 0 9 r_35) 3 2 pi) 3 3 len) 36 1 s0) 38 1 s1) 40 1 s2) 42 1 s3) 91 3 t_37) (uf (uf (uf (uf (uf f 4 w) 44 sv) 92 g_36) 93 lt_38) 94 sk_39) C T rc tl) rfl ?_
          refine Rx.iadd rfl ?_
          refine Rx.ias (g := sv) (h' := cxW (u2 (u2 (u2 (u2 (u2 (u2 (u2 (u2 (u2 (u2 z 0 6 M) 0 8 Rn) 0 9 r_35) 3 2 pi) 3 3 len) 36 1 s0) 38 1 s1) 40 1 s2) 42 1 s3) 91 3 t_37) (uf (uf (uf (uf (uf f 4 w) 44 (iu sv ci ((sv ci) + 1))) 92 g_36) 93 lt_38) 94 sk_39) C T rc tl) rfl rfl (by omega) (by omega) (by omega) rfl ?_
          refine Rx.walk 1 (pc' := 60) (L' := [some (.ref 0), some (.int (iz 2)), some (.int (iz ci)), some (.int (iz r_35))]) (st' := [.int (iz 1)]) (h' := cxW (u2 (u2 (u2 (u2 (u2 (u2 (u2 (u2 (u2 (u2 z 0 6 M) 0 8 Rn) 0 9 r_35) 3 2 pi) 3 3 len) 36 1 s0) 38 1 s1) 40 1 s2) 42 1 s3) 91 3 t_37) (uf (uf (uf (uf (uf f 4 w) 44 (iu sv ci ((sv ci) + 1))) 92 g_36) 93 lt_38) 94 sk_39) C T rc tl) rfl ?_
          refine Rx.ret rfl ?_
          exact ⟨_, _, _, _, _, _, _, rfl, rfl, Or.inr ⟨⟨by omega, by omega⟩, ⟨by omega, by omega⟩, Or.inr ⟨by rw [(show TBx (Vs 2) w pi len C ci v = r_35 from f40.symm)]; omega, rfl, f40, rfl⟩⟩⟩
        · refine Rx.walk 1 (pc' := 43) (L' := [some (.ref 0), some (.int (iz 2)), some (.int (iz ci)), some (.int (iz r_35))]) (st' := [.int (iz 0)]) (h' := cxW (u2 (u2 (u2 (u2 (u2 (u2 (u2 (u2 (u2 (u2 z 0 6 M) 0 8 Rn) 0 9 v) 3 2 pi) 3 3 len) 36 1 s0) 38 1 s1) 40 1 s2) 42 1 s3) 91 3 t_37) (uf (uf (uf (uf (uf f 4 w) 44 sv) 92 g_36) 93 lt_38) 94 sk_39) C T rc tl) rfl ?_
          refine Rx.ret rfl ?_
          exact ⟨_, _, _, _, _, _, _, rfl, rfl, Or.inr ⟨⟨by omega, by omega⟩, ⟨by omega, by omega⟩, Or.inl ⟨by rw [(show TBx (Vs 2) w pi len C ci v = r_35 from f40.symm)]; omega, rfl, rfl, rfl⟩⟩⟩
      · rw [z14]
        refine Rx.aal 3 rfl rfl rfl (by omega) (by omega) (by omega) rfl ?_
        subst z14
        refine Rx.walk 0 (pc' := 33) (L' := [some (.ref 0), some (.int (iz 3)), some (.int (iz ci)), none]) (st' := [.ref 42, .int (iz ci), .int (iz v), .ref 91]) (h' := cxW (u2 (u2 (u2 (u2 (u2 (u2 (u2 (u2 (u2 (u2 z 0 6 M) 0 8 Rn) 0 9 v) 3 2 pi) 3 3 len) 36 1 s0) 38 1 s1) 40 1 s2) 42 1 s3) 91 3 t) (uf (uf (uf (uf (uf f 4 w) 44 sv) 92 g) 93 lt) 94 sk) C T rc tl) rfl ?_
        obtain ⟨ln, cd, hrc, hsz, hcb, hV⟩ := hr3 (by omega)
        have hcc := hcK ci (by omega) (by omega)
        refine Rx.callx (m' := m_X1_tillBehind) (as := [.ref 91, .int (iz v), .int (iz ci), .ref 42]) (rest := []) rfl (x_tillB42 _ (u2 (u2 (u2 (u2 (u2 (u2 z 0 6 M) 0 8 Rn) 0 9 v) 36 1 s0) 38 1 s1) 40 1 s2) (uf f 44 sv) C T rc tl  v ci g t pi len w lt sk s3 ln cd (Vs 3) (by first | assumption | omega) (by first | assumption | omega) (by first | assumption | omega) (by first | assumption | omega) (by first | assumption | omega) (by first | assumption | omega) (by first | assumption | omega) ⟨by omega, by omega⟩ hv1 hv2 hcc.1 hcc.2.1) (fun v51 h52 q53 => ?_)
        obtain ⟨r_45, g_46, t_47, lt_48, sk_49, rfl, rfl, f50⟩ := q53
        refine Rx.walk 0 (pc' := 36) (L' := [some (.ref 0), some (.int (iz 3)), some (.int (iz ci)), none]) (st' := [.int (iz r_45)]) (h' := cxW (u2 (u2 (u2 (u2 (u2 (u2 (u2 (u2 (u2 (u2 z 0 6 M) 0 8 Rn) 0 9 v) 3 2 pi) 3 3 len) 36 1 s0) 38 1 s1) 40 1 s2) 42 1 s3) 91 3 t_47) (uf (uf (uf (uf (uf f 4 w) 44 sv) 92 g_46) 93 lt_48) 94 sk_49) C T rc tl) rfl ?_
        have hvn := tbN_vT (V := Vs 3) (w := w) (H := hOf (C ci.toNat)) (by omega) hlen.2 (by omega) hK.2 hcc.2.2 hv
        rw [← f50] at hvn
        have hrb : -1 ≤ r_45 ∧ r_45 < 156250000 := by rcases hvn with q | q; (exact ⟨by omega, by omega⟩); (have z := (vT_bk hK.2 q).1; exact ⟨by omega, by omega⟩)
        refine Rx.walk 3 (pc' := 39) (L' := [some (.ref 0), some (.int (iz 3)), some (.int (iz ci)), some (.int (iz r_45))]) (st' := [.int (iz (-1)), .int (iz r_45)]) (h' := cxW (u2 (u2 (u2 (u2 (u2 (u2 (u2 (u2 (u2 (u2 z 0 6 M) 0 8 Rn) 0 9 v) 3 2 pi) 3 3 len) 36 1 s0) 38 1 s1) 40 1 s2) 42 1 s3) 91 3 t_47) (uf (uf (uf (uf (uf f 4 w) 44 sv) 92 g_46) 93 lt_48) 94 sk_49) C T rc tl) rfl ?_
        refine Rx.ne2 rfl rfl ⟨by omega, by omega⟩ ⟨by omega, by omega⟩ (fun b54 => ?_) (fun b54 => ?_)
        · refine Rx.walk 7 (pc' := 55) (L' := [some (.ref 0), some (.int (iz 3)), some (.int (iz ci)), some (.int (iz r_45))]) (st' := [.int (iz ci), .ref 44, .int (iz ci), .ref 44]) (h' := cxW (u2 (u2 (u2 (u2 (u2 (u2 (u2 (u2 (u2 (u2 z 0 6 M) 0 8 Rn) 0 9 r_45) 3 2 pi) 3 3 len) 36 1 s0) 38 1 s1) 40 1 s2) 42 1 s3) 91 3 t_47) (uf (uf (uf (uf (uf f 4 w) 44 sv) 92 g_46) 93 lt_48) 94 sk_49) C T rc tl) rfl ?_
          refine Rx.ial (g := sv) rfl rfl (by omega) (by omega) (by omega) ?_
          refine Rx.walk 1 (pc' := 57) (L' := [some (.ref 0), some (.int (iz 3)), some (.int (iz ci)), some (.int (iz r_45))]) (st' := [.int (iz 1), .int (iz (sv ci)), .int (iz ci), .ref 44]) (h' := cxW (u2 (u2 (u2 (u2 (u2 (u2 (u2 (u2 (u2 (u2 z 0 6 M) 0 8 Rn) 0 9 r_45) 3 2 pi) 3 3 len) 36 1 s0) 38 1 s1) 40 1 s2) 42 1 s3) 91 3 t_47) (uf (uf (uf (uf (uf f 4 w) 44 sv) 92 g_46) 93 lt_48) 94 sk_49) C T rc tl) rfl ?_
          refine Rx.iadd rfl ?_
          refine Rx.ias (g := sv) (h' := cxW (u2 (u2 (u2 (u2 (u2 (u2 (u2 (u2 (u2 (u2 z 0 6 M) 0 8 Rn) 0 9 r_45) 3 2 pi) 3 3 len) 36 1 s0) 38 1 s1) 40 1 s2) 42 1 s3) 91 3 t_47) (uf (uf (uf (uf (uf f 4 w) 44 (iu sv ci ((sv ci) + 1))) 92 g_46) 93 lt_48) 94 sk_49) C T rc tl) rfl rfl (by omega) (by omega) (by omega) rfl ?_
          refine Rx.walk 1 (pc' := 60) (L' := [some (.ref 0), some (.int (iz 3)), some (.int (iz ci)), some (.int (iz r_45))]) (st' := [.int (iz 1)]) (h' := cxW (u2 (u2 (u2 (u2 (u2 (u2 (u2 (u2 (u2 (u2 z 0 6 M) 0 8 Rn) 0 9 r_45) 3 2 pi) 3 3 len) 36 1 s0) 38 1 s1) 40 1 s2) 42 1 s3) 91 3 t_47) (uf (uf (uf (uf (uf f 4 w) 44 (iu sv ci ((sv ci) + 1))) 92 g_46) 93 lt_48) 94 sk_49) C T rc tl) rfl ?_
          refine Rx.ret rfl ?_
          exact ⟨_, _, _, _, _, _, _, rfl, rfl, Or.inr ⟨⟨by omega, by omega⟩, ⟨by omega, by omega⟩, Or.inr ⟨by rw [(show TBx (Vs 3) w pi len C ci v = r_45 from f50.symm)]; omega, rfl, f50, rfl⟩⟩⟩
        · refine Rx.walk 1 (pc' := 43) (L' := [some (.ref 0), some (.int (iz 3)), some (.int (iz ci)), some (.int (iz r_45))]) (st' := [.int (iz 0)]) (h' := cxW (u2 (u2 (u2 (u2 (u2 (u2 (u2 (u2 (u2 (u2 z 0 6 M) 0 8 Rn) 0 9 v) 3 2 pi) 3 3 len) 36 1 s0) 38 1 s1) 40 1 s2) 42 1 s3) 91 3 t_47) (uf (uf (uf (uf (uf f 4 w) 44 sv) 92 g_46) 93 lt_48) 94 sk_49) C T rc tl) rfl ?_
          refine Rx.ret rfl ?_
          exact ⟨_, _, _, _, _, _, _, rfl, rfl, Or.inr ⟨⟨by omega, by omega⟩, ⟨by omega, by omega⟩, Or.inl ⟨by rw [(show TBx (Vs 3) w pi len C ci v = r_45 from f50.symm)]; omega, rfl, rfl, rfl⟩⟩⟩
    · refine Rx.walk 1 (pc' := 17) (L' := [some (.ref 0), some (.int (iz ri)), some (.int (iz ci)), none]) (st' := [.int (iz (-1))]) (h' := cxW (u2 (u2 (u2 (u2 (u2 (u2 (u2 (u2 (u2 (u2 z 0 6 M) 0 8 Rn) 0 9 v) 3 2 pi) 3 3 len) 36 1 s0) 38 1 s1) 40 1 s2) 42 1 s3) 91 3 t) (uf (uf (uf (uf (uf f 4 w) 44 sv) 92 g) 93 lt) 94 sk) C T rc tl) rfl ?_
      refine Rx.ret rfl ?_
      exact ⟨_, _, _, _, _, _, _, rfl, rfl, Or.inl ⟨by omega, rfl, rfl, rfl⟩⟩
theorem ordL_b {m : Nat} {row : Int} (h : ordOK m row) {g : Int → Int} (e : lsI m g = ordL m row) : ∀ i : Int, 0 ≤ i → i < (m : Int) → 0 ≤ g i ∧ g i < m := fun i a b => by
  have q : g i ∈ ordL m row := by rw [← e]; exact mem_lsI.mpr ⟨i, a, by omega, rfl⟩
  exact ⟨ordL_pos h.2.1 q, h.2.2.2.1 _ q⟩
set_option maxRecDepth 100000 in
set_option maxHeartbeats 4000000 in
theorem x_run (d : Nat) (z : Nat → Nat → Int) (f : Nat → Int → Int) (C : Nat → CuR) (T : Nat → TsR) (rc : Nat → Nat) (tl : AmH)  (ri : Int) (row : Int) (osz : Int) (who : Int → Int) (Rn : Int) (M : Int) (v : Int) (pi : Int) (len : Int) (w : Int → Int) (g : Int → Int) (lt : Int → Int) (sk : Int → Int) (t : Int) (s0 : Int) (s1 : Int) (s2 : Int) (s3 : Int) (K : Int) (Vs : Int → (Int → Int) → Int) (hri : bI ri) (hrow : bI row) (hw : wOK w) (hpi : pi = 1 ∨ pi = 2) (hlen : 1 ≤ len ∧ len ≤ 5) (hM : 0 ≤ M ∧ M ≤ 4) (hK : 1 ≤ K ∧ K ≤ 4) (hcK : cuK C K M) (hv : vT K len pi v) (hRn : 0 ≤ Rn ∧ Rn ≤ 4) (hr0 : 0 < Rn → ruC tl (rc 36) s0 (Vs 0)) (hr1 : 1 < Rn → ruC tl (rc 38) s1 (Vs 1)) (hr2 : 2 < Rn → ruC tl (rc 40) s2 (Vs 2)) (hr3 : 3 < Rn → ruC tl (rc 42) s3 (Vs 3)) : Rx (d + 7) m_X11_run 0 (am_ent [.ref 0, .int (iz ri), .int (iz row)] 3) [] (cxW (u2 (u2 (u2 (u2 (u2 (u2 (u2 (u2 (u2 (u2 (u2 z 0 6 M) 0 8 Rn) 0 9 v) 3 2 pi) 3 3 len) 36 1 s0) 38 1 s1) 40 1 s2) 42 1 s3) 91 3 t) 95 1 osz) (uf (uf (uf (uf (uf f 4 w) 92 g) 93 lt) 94 sk) 96 who) C T rc tl) (fun rv h => ∃ r : Int, ∃ osz' : Int, ∃ who' : Int → Int, ∃ g' : Int → Int, ∃ lt' : Int → Int, ∃ sk' : Int → Int, ∃ t' : Int, rv = some (.int (iz r)) ∧ h = cxW (u2 (u2 (u2 (u2 (u2 (u2 (u2 (u2 (u2 (u2 (u2 z 0 6 M) 0 8 Rn) 0 9 v) 3 2 pi) 3 3 len) 36 1 s0) 38 1 s1) 40 1 s2) 42 1 s3) 91 3 t') 95 1 osz') (uf (uf (uf (uf (uf f 4 w) 92 g') 93 lt') 94 sk') 96 who') C T rc tl ∧ ((¬ ((0 ≤ ri ∧ ri < Rn) ∧ ordOK M.toNat row) ∧ r = -1) ∨ ((0 ≤ ri ∧ ri < Rn) ∧ ordOK M.toNat row ∧ r = srB (TBx (Vs ri) w pi len C) (ordL M.toNat row) v))) := by
  obtain ⟨hri1, hri2⟩ := id hri
  obtain ⟨hv1, hv2⟩ := vT_bk hK.2 hv
  obtain ⟨hw1, hw2⟩ := id hrow
  refine Rx.walk 0 (pc' := 0) (L' := [some (.ref 0), some (.int (iz ri)), some (.int (iz row))]) (st' := []) (h' := cxW (u2 (u2 (u2 (u2 (u2 (u2 (u2 (u2 (u2 (u2 (u2 z 0 6 M) 0 8 Rn) 0 9 v) 3 2 pi) 3 3 len) 36 1 s0) 38 1 s1) 40 1 s2) 42 1 s3) 91 3 t) 95 1 osz) (uf (uf (uf (uf (uf f 4 w) 92 g) 93 lt) 94 sk) 96 who) C T rc tl) rfl ?_
  refine Rx.walk 2 (pc' := 2) (L' := [some (.ref 0), some (.int (iz ri)), some (.int (iz row))]) (st' := [.int (iz ri), .ref 0]) (h' := cxW (u2 (u2 (u2 (u2 (u2 (u2 (u2 (u2 (u2 (u2 (u2 z 0 6 M) 0 8 Rn) 0 9 v) 3 2 pi) 3 3 len) 36 1 s0) 38 1 s1) 40 1 s2) 42 1 s3) 91 3 t) 95 1 osz) (uf (uf (uf (uf (uf f 4 w) 92 g) 93 lt) 94 sk) 96 who) C T rc tl) rfl ?_
  refine Rx.callx (m' := m_X11_isRule) (as := [.ref 0, .int (iz ri)]) (rest := []) rfl (x_isRule _ (u2 (u2 (u2 (u2 (u2 (u2 (u2 (u2 (u2 (u2 z 0 6 M) 0 9 v) 3 2 pi) 3 3 len) 36 1 s0) 38 1 s1) 40 1 s2) 42 1 s3) 91 3 t) 95 1 osz) (uf (uf (uf (uf (uf f 4 w) 92 g) 93 lt) 94 sk) 96 who) C T rc tl  ri Rn (by first | assumption | omega) hri) (fun v3 h4 q5 => ?_)
  obtain ⟨r_1, rfl, rfl, f2⟩ := q5
  refine Rx.walk 0 (pc' := 5) (L' := [some (.ref 0), some (.int (iz ri)), some (.int (iz row))]) (st' := [.int (iz r_1)]) (h' := cxW (u2 (u2 (u2 (u2 (u2 (u2 (u2 (u2 (u2 (u2 (u2 z 0 6 M) 0 8 Rn) 0 9 v) 3 2 pi) 3 3 len) 36 1 s0) 38 1 s1) 40 1 s2) 42 1 s3) 91 3 t) 95 1 osz) (uf (uf (uf (uf (uf f 4 w) 92 g) 93 lt) 94 sk) 96 who) C T rc tl) rfl ?_
  refine Rx.eq1 rfl rfl ⟨by omega, by omega⟩ (fun b6 => ?_) (fun b6 => ?_)
  · refine Rx.walk 1 (pc' := 24) (L' := [some (.ref 0), some (.int (iz ri)), some (.int (iz row))]) (st' := [.int (iz (-1))]) (h' := cxW (u2 (u2 (u2 (u2 (u2 (u2 (u2 (u2 (u2 (u2 (u2 z 0 6 M) 0 8 Rn) 0 9 v) 3 2 pi) 3 3 len) 36 1 s0) 38 1 s1) 40 1 s2) 42 1 s3) 91 3 t) 95 1 osz) (uf (uf (uf (uf (uf f 4 w) 92 g) 93 lt) 94 sk) 96 who) C T rc tl) rfl ?_
    refine Rx.ret rfl ?_
    exact ⟨_, _, _, _, _, _, _, rfl, rfl, Or.inl ⟨fun z => by omega, rfl⟩⟩
  · refine Rx.walk 5 (pc' := 17) (L' := [some (.ref 0), some (.int (iz ri)), some (.int (iz row))]) (st' := [.int (iz M), .int (iz row), .ref 95]) (h' := cxW (u2 (u2 (u2 (u2 (u2 (u2 (u2 (u2 (u2 (u2 (u2 z 0 6 M) 0 8 Rn) 0 9 v) 3 2 pi) 3 3 len) 36 1 s0) 38 1 s1) 40 1 s2) 42 1 s3) 91 3 t) 95 1 osz) (uf (uf (uf (uf (uf f 4 w) 92 g) 93 lt) 94 sk) 96 who) C T rc tl) rfl ?_
    refine Rx.callx (m' := m_X3_reads) (as := [.ref 95, .int (iz row), .int (iz M)]) (rest := []) rfl (x_oreads _ (u2 (u2 (u2 (u2 (u2 (u2 (u2 (u2 (u2 (u2 z 0 6 M) 0 8 Rn) 0 9 v) 3 2 pi) 3 3 len) 36 1 s0) 38 1 s1) 40 1 s2) 42 1 s3) 91 3 t) (uf (uf (uf (uf f 4 w) 92 g) 93 lt) 94 sk) C T rc tl  row M osz who hrow hM) (fun v10 h11 q12 => ?_)
    obtain ⟨r_7, who_8, rfl, rfl, f9⟩ := q12
    refine Rx.walk 0 (pc' := 20) (L' := [some (.ref 0), some (.int (iz ri)), some (.int (iz row))]) (st' := [.int (iz r_7)]) (h' := cxW (u2 (u2 (u2 (u2 (u2 (u2 (u2 (u2 (u2 (u2 (u2 z 0 6 M) 0 8 Rn) 0 9 v) 3 2 pi) 3 3 len) 36 1 s0) 38 1 s1) 40 1 s2) 42 1 s3) 91 3 t) 95 1 M) (uf (uf (uf (uf (uf f 4 w) 92 g) 93 lt) 94 sk) 96 who_8) C T rc tl) rfl ?_
    refine Rx.ne1 rfl rfl ⟨by omega, by omega⟩ (fun b13 => ?_) (fun b13 => ?_)
    · refine Rx.walk 7 (pc' := 38) (L' := [some (.ref 0), some (.int (iz ri)), some (.int (iz row))]) (st' := [.int (iz ri), .ref 35, .int (iz v), .ref 91]) (h' := cxW (u2 (u2 (u2 (u2 (u2 (u2 (u2 (u2 (u2 (u2 (u2 z 0 6 M) 0 8 Rn) 0 9 v) 3 2 pi) 3 3 len) 36 1 s0) 38 1 s1) 40 1 s2) 42 1 s3) 91 3 t) 95 1 M) (uf (uf (uf (uf (uf f 4 w) 92 g) 93 lt) 94 sk) 96 who_8) C T rc tl) rfl ?_
      rcases (show ri = 0 ∨ ri = 1 ∨ ri = 2 ∨ ri = 3 by omega) with z15 | z15 | z15 | z15
      · rw [z15]
        refine Rx.aal 0 rfl rfl rfl (by omega) (by omega) (by omega) rfl ?_
        subst z15
        refine Rx.walk 0 (pc' := 39) (L' := [some (.ref 0), some (.int (iz 0)), some (.int (iz row))]) (st' := [.ref 36, .int (iz v), .ref 91]) (h' := cxW (u2 (u2 (u2 (u2 (u2 (u2 (u2 (u2 (u2 (u2 (u2 z 0 6 M) 0 8 Rn) 0 9 v) 3 2 pi) 3 3 len) 36 1 s0) 38 1 s1) 40 1 s2) 42 1 s3) 91 3 t) 95 1 M) (uf (uf (uf (uf (uf f 4 w) 92 g) 93 lt) 94 sk) 96 who_8) C T rc tl) rfl ?_
        refine Rx.walk 2 (pc' := 43) (L' := [some (.ref 0), some (.int (iz 0)), some (.int (iz row))]) (st' := [.ref 95, .ref 36, .int (iz v), .ref 91]) (h' := cxW (u2 (u2 (u2 (u2 (u2 (u2 (u2 (u2 (u2 (u2 (u2 z 0 6 M) 0 8 Rn) 0 9 v) 3 2 pi) 3 3 len) 36 1 s0) 38 1 s1) 40 1 s2) 42 1 s3) 91 3 t) 95 1 M) (uf (uf (uf (uf (uf f 4 w) 92 g) 93 lt) 94 sk) 96 who_8) C T rc tl) rfl ?_
        obtain ⟨ln, cd, hrc, hsz, hcb, hV⟩ := hr0 (by omega)
        obtain ⟨-, hox, hol⟩ := (f9).elim id (fun z => absurd z.1 (by omega))
        have hob := ordL_b hox hol
        rw [show ((M.toNat : Nat) : Int) = M by omega] at hob
        refine Rx.callx (m' := m_X1_servedOfRow) (as := [.ref 91, .int (iz v), .ref 36, .ref 95]) (rest := []) rfl (x_sRow36 _ (u2 (u2 (u2 (u2 (u2 (u2 z 0 6 M) 0 8 Rn) 0 9 v) 38 1 s1) 40 1 s2) 42 1 s3) f C T rc tl  v g t M who_8 pi len w lt sk s0 ln cd (Vs 0) M K (by first | assumption | omega) (by first | assumption | omega) (by first | assumption | omega) (by first | assumption | omega) (by first | assumption | omega) (by first | assumption | omega) (by first | assumption | omega) (by first | assumption | omega) (by first | assumption | omega) (by first | assumption | omega) ⟨by omega, by omega⟩ hob hv) (fun v23 h24 q25 => ?_)
        obtain ⟨r_16, g_17, t_18, lt_19, sk_20, rfl, rfl, f21, f22⟩ := q25
        refine Rx.walk 0 (pc' := 46) (L' := [some (.ref 0), some (.int (iz 0)), some (.int (iz row))]) (st' := [.int (iz r_16)]) (h' := cxW (u2 (u2 (u2 (u2 (u2 (u2 (u2 (u2 (u2 (u2 (u2 z 0 6 M) 0 8 Rn) 0 9 v) 3 2 pi) 3 3 len) 36 1 s0) 38 1 s1) 40 1 s2) 42 1 s3) 91 3 t_18) 95 1 M) (uf (uf (uf (uf (uf f 4 w) 92 g_17) 93 lt_19) 94 sk_20) 96 who_8) C T rc tl) rfl ?_
        refine Rx.ret rfl ?_
        exact ⟨_, _, _, _, _, _, _, rfl, rfl, Or.inr ⟨⟨by omega, by omega⟩, hox, by rw [f21, hol]⟩⟩
      · rw [z15]
        refine Rx.aal 1 rfl rfl rfl (by omega) (by omega) (by omega) rfl ?_
        subst z15
        refine Rx.walk 0 (pc' := 39) (L' := [some (.ref 0), some (.int (iz 1)), some (.int (iz row))]) (st' := [.ref 38, .int (iz v), .ref 91]) (h' := cxW (u2 (u2 (u2 (u2 (u2 (u2 (u2 (u2 (u2 (u2 (u2 z 0 6 M) 0 8 Rn) 0 9 v) 3 2 pi) 3 3 len) 36 1 s0) 38 1 s1) 40 1 s2) 42 1 s3) 91 3 t) 95 1 M) (uf (uf (uf (uf (uf f 4 w) 92 g) 93 lt) 94 sk) 96 who_8) C T rc tl) rfl ?_
        refine Rx.walk 2 (pc' := 43) (L' := [some (.ref 0), some (.int (iz 1)), some (.int (iz row))]) (st' := [.ref 95, .ref 38, .int (iz v), .ref 91]) (h' := cxW (u2 (u2 (u2 (u2 (u2 (u2 (u2 (u2 (u2 (u2 (u2 z 0 6 M) 0 8 Rn) 0 9 v) 3 2 pi) 3 3 len) 36 1 s0) 38 1 s1) 40 1 s2) 42 1 s3) 91 3 t) 95 1 M) (uf (uf (uf (uf (uf f 4 w) 92 g) 93 lt) 94 sk) 96 who_8) C T rc tl) rfl ?_
        obtain ⟨ln, cd, hrc, hsz, hcb, hV⟩ := hr1 (by omega)
        obtain ⟨-, hox, hol⟩ := (f9).elim id (fun z => absurd z.1 (by omega))
        have hob := ordL_b hox hol
        rw [show ((M.toNat : Nat) : Int) = M by omega] at hob
        refine Rx.callx (m' := m_X1_servedOfRow) (as := [.ref 91, .int (iz v), .ref 38, .ref 95]) (rest := []) rfl (x_sRow38 _ (u2 (u2 (u2 (u2 (u2 (u2 z 0 6 M) 0 8 Rn) 0 9 v) 36 1 s0) 40 1 s2) 42 1 s3) f C T rc tl  v g t M who_8 pi len w lt sk s1 ln cd (Vs 1) M K (by first | assumption | omega) (by first | assumption | omega) (by first | assumption | omega) (by first | assumption | omega) (by first | assumption | omega) (by first | assumption | omega) (by first | assumption | omega) (by first | assumption | omega) (by first | assumption | omega) (by first | assumption | omega) ⟨by omega, by omega⟩ hob hv) (fun v33 h34 q35 => ?_)
        obtain ⟨r_26, g_27, t_28, lt_29, sk_30, rfl, rfl, f31, f32⟩ := q35
        refine Rx.walk 0 (pc' := 46) (L' := [some (.ref 0), some (.int (iz 1)), some (.int (iz row))]) (st' := [.int (iz r_26)]) (h' := cxW (u2 (u2 (u2 (u2 (u2 (u2 (u2 (u2 (u2 (u2 (u2 z 0 6 M) 0 8 Rn) 0 9 v) 3 2 pi) 3 3 len) 36 1 s0) 38 1 s1) 40 1 s2) 42 1 s3) 91 3 t_28) 95 1 M) (uf (uf (uf (uf (uf f 4 w) 92 g_27) 93 lt_29) 94 sk_30) 96 who_8) C T rc tl) rfl ?_
        refine Rx.ret rfl ?_
        exact ⟨_, _, _, _, _, _, _, rfl, rfl, Or.inr ⟨⟨by omega, by omega⟩, hox, by rw [f31, hol]⟩⟩
      · rw [z15]
        refine Rx.aal 2 rfl rfl rfl (by omega) (by omega) (by omega) rfl ?_
        subst z15
        refine Rx.walk 0 (pc' := 39) (L' := [some (.ref 0), some (.int (iz 2)), some (.int (iz row))]) (st' := [.ref 40, .int (iz v), .ref 91]) (h' := cxW (u2 (u2 (u2 (u2 (u2 (u2 (u2 (u2 (u2 (u2 (u2 z 0 6 M) 0 8 Rn) 0 9 v) 3 2 pi) 3 3 len) 36 1 s0) 38 1 s1) 40 1 s2) 42 1 s3) 91 3 t) 95 1 M) (uf (uf (uf (uf (uf f 4 w) 92 g) 93 lt) 94 sk) 96 who_8) C T rc tl) rfl ?_
        refine Rx.walk 2 (pc' := 43) (L' := [some (.ref 0), some (.int (iz 2)), some (.int (iz row))]) (st' := [.ref 95, .ref 40, .int (iz v), .ref 91]) (h' := cxW (u2 (u2 (u2 (u2 (u2 (u2 (u2 (u2 (u2 (u2 (u2 z 0 6 M) 0 8 Rn) 0 9 v) 3 2 pi) 3 3 len) 36 1 s0) 38 1 s1) 40 1 s2) 42 1 s3) 91 3 t) 95 1 M) (uf (uf (uf (uf (uf f 4 w) 92 g) 93 lt) 94 sk) 96 who_8) C T rc tl) rfl ?_
        obtain ⟨ln, cd, hrc, hsz, hcb, hV⟩ := hr2 (by omega)
        obtain ⟨-, hox, hol⟩ := (f9).elim id (fun z => absurd z.1 (by omega))
        have hob := ordL_b hox hol
        rw [show ((M.toNat : Nat) : Int) = M by omega] at hob
        refine Rx.callx (m' := m_X1_servedOfRow) (as := [.ref 91, .int (iz v), .ref 40, .ref 95]) (rest := []) rfl (x_sRow40 _ (u2 (u2 (u2 (u2 (u2 (u2 z 0 6 M) 0 8 Rn) 0 9 v) 36 1 s0) 38 1 s1) 42 1 s3) f C T rc tl  v g t M who_8 pi len w lt sk s2 ln cd (Vs 2) M K (by first | assumption | omega) (by first | assumption | omega) (by first | assumption | omega) (by first | assumption | omega) (by first | assumption | omega) (by first | assumption | omega) (by first | assumption | omega) (by first | assumption | omega) (by first | assumption | omega) (by first | assumption | omega) ⟨by omega, by omega⟩ hob hv) (fun v43 h44 q45 => ?_)
        obtain ⟨r_36, g_37, t_38, lt_39, sk_40, rfl, rfl, f41, f42⟩ := q45
        refine Rx.walk 0 (pc' := 46) (L' := [some (.ref 0), some (.int (iz 2)), some (.int (iz row))]) (st' := [.int (iz r_36)]) (h' := cxW (u2 (u2 (u2 (u2 (u2 (u2 (u2 (u2 (u2 (u2 (u2 z 0 6 M) 0 8 Rn) 0 9 v) 3 2 pi) 3 3 len) 36 1 s0) 38 1 s1) 40 1 s2) 42 1 s3) 91 3 t_38) 95 1 M) (uf (uf (uf (uf (uf f 4 w) 92 g_37) 93 lt_39) 94 sk_40) 96 who_8) C T rc tl) rfl ?_
        refine Rx.ret rfl ?_
        exact ⟨_, _, _, _, _, _, _, rfl, rfl, Or.inr ⟨⟨by omega, by omega⟩, hox, by rw [f41, hol]⟩⟩
      · rw [z15]
        refine Rx.aal 3 rfl rfl rfl (by omega) (by omega) (by omega) rfl ?_
        subst z15
        refine Rx.walk 0 (pc' := 39) (L' := [some (.ref 0), some (.int (iz 3)), some (.int (iz row))]) (st' := [.ref 42, .int (iz v), .ref 91]) (h' := cxW (u2 (u2 (u2 (u2 (u2 (u2 (u2 (u2 (u2 (u2 (u2 z 0 6 M) 0 8 Rn) 0 9 v) 3 2 pi) 3 3 len) 36 1 s0) 38 1 s1) 40 1 s2) 42 1 s3) 91 3 t) 95 1 M) (uf (uf (uf (uf (uf f 4 w) 92 g) 93 lt) 94 sk) 96 who_8) C T rc tl) rfl ?_
        refine Rx.walk 2 (pc' := 43) (L' := [some (.ref 0), some (.int (iz 3)), some (.int (iz row))]) (st' := [.ref 95, .ref 42, .int (iz v), .ref 91]) (h' := cxW (u2 (u2 (u2 (u2 (u2 (u2 (u2 (u2 (u2 (u2 (u2 z 0 6 M) 0 8 Rn) 0 9 v) 3 2 pi) 3 3 len) 36 1 s0) 38 1 s1) 40 1 s2) 42 1 s3) 91 3 t) 95 1 M) (uf (uf (uf (uf (uf f 4 w) 92 g) 93 lt) 94 sk) 96 who_8) C T rc tl) rfl ?_
        obtain ⟨ln, cd, hrc, hsz, hcb, hV⟩ := hr3 (by omega)
        obtain ⟨-, hox, hol⟩ := (f9).elim id (fun z => absurd z.1 (by omega))
        have hob := ordL_b hox hol
        rw [show ((M.toNat : Nat) : Int) = M by omega] at hob
        refine Rx.callx (m' := m_X1_servedOfRow) (as := [.ref 91, .int (iz v), .ref 42, .ref 95]) (rest := []) rfl (x_sRow42 _ (u2 (u2 (u2 (u2 (u2 (u2 z 0 6 M) 0 8 Rn) 0 9 v) 36 1 s0) 38 1 s1) 40 1 s2) f C T rc tl  v g t M who_8 pi len w lt sk s3 ln cd (Vs 3) M K (by first | assumption | omega) (by first | assumption | omega) (by first | assumption | omega) (by first | assumption | omega) (by first | assumption | omega) (by first | assumption | omega) (by first | assumption | omega) (by first | assumption | omega) (by first | assumption | omega) (by first | assumption | omega) ⟨by omega, by omega⟩ hob hv) (fun v53 h54 q55 => ?_)
        obtain ⟨r_46, g_47, t_48, lt_49, sk_50, rfl, rfl, f51, f52⟩ := q55
        refine Rx.walk 0 (pc' := 46) (L' := [some (.ref 0), some (.int (iz 3)), some (.int (iz row))]) (st' := [.int (iz r_46)]) (h' := cxW (u2 (u2 (u2 (u2 (u2 (u2 (u2 (u2 (u2 (u2 (u2 z 0 6 M) 0 8 Rn) 0 9 v) 3 2 pi) 3 3 len) 36 1 s0) 38 1 s1) 40 1 s2) 42 1 s3) 91 3 t_48) 95 1 M) (uf (uf (uf (uf (uf f 4 w) 92 g_47) 93 lt_49) 94 sk_50) 96 who_8) C T rc tl) rfl ?_
        refine Rx.ret rfl ?_
        exact ⟨_, _, _, _, _, _, _, rfl, rfl, Or.inr ⟨⟨by omega, by omega⟩, hox, by rw [f51, hol]⟩⟩
    · refine Rx.walk 1 (pc' := 24) (L' := [some (.ref 0), some (.int (iz ri)), some (.int (iz row))]) (st' := [.int (iz (-1))]) (h' := cxW (u2 (u2 (u2 (u2 (u2 (u2 (u2 (u2 (u2 (u2 (u2 z 0 6 M) 0 8 Rn) 0 9 v) 3 2 pi) 3 3 len) 36 1 s0) 38 1 s1) 40 1 s2) 42 1 s3) 91 3 t) 95 1 M) (uf (uf (uf (uf (uf f 4 w) 92 g) 93 lt) 94 sk) 96 who_8) C T rc tl) rfl ?_
      refine Rx.ret rfl ?_
      exact ⟨_, _, _, _, _, _, _, rfl, rfl, Or.inl ⟨fun z => by rcases f9 with q | q; (exfalso; omega); exact q.2 z.2, rfl⟩⟩
set_option maxRecDepth 100000 in
set_option maxHeartbeats 4000000 in
theorem x_day (d : Nat) (z : Nat → Nat → Int) (f : Nat → Int → Int) (C : Nat → CuR) (T : Nat → TsR) (rc : Nat → Nat) (tl : AmH)  (ri : Int) (mn : Int) (sd : Int) (Rn : Int) (M : Int) (v : Int) (pi : Int) (len : Int) (w : Int → Int) (g : Int → Int) (lt : Int → Int) (sk : Int → Int) (t : Int) (s0 : Int) (s1 : Int) (s2 : Int) (s3 : Int) (K : Int) (Vs : Int → (Int → Int) → Int) (hri : bI ri) (hmnb : bI mn) (hw : wOK w) (hpi : pi = 1 ∨ pi = 2) (hlen : 1 ≤ len ∧ len ≤ 5) (hM : 0 ≤ M ∧ M ≤ 4) (hK : 1 ≤ K ∧ K ≤ 4) (hcK : cuK C K M) (hv : vT K len pi v) (hRn : 0 ≤ Rn ∧ Rn ≤ 4) (hr0 : 0 < Rn → ruC tl (rc 36) s0 (Vs 0)) (hr1 : 1 < Rn → ruC tl (rc 38) s1 (Vs 1)) (hr2 : 2 < Rn → ruC tl (rc 40) s2 (Vs 2)) (hr3 : 3 < Rn → ruC tl (rc 42) s3 (Vs 3)) : Rx (d + 7) m_X11_day 0 (am_ent [.ref 0, .int (iz ri), .int (iz mn), .long (jz sd)] 5) [] (cxW (u2 (u2 (u2 (u2 (u2 (u2 (u2 (u2 (u2 (u2 z 0 6 M) 0 8 Rn) 0 9 v) 3 2 pi) 3 3 len) 36 1 s0) 38 1 s1) 40 1 s2) 42 1 s3) 91 3 t) (uf (uf (uf (uf f 4 w) 92 g) 93 lt) 94 sk) C T rc tl) (fun rv h => ∃ r : Int, ∃ g' : Int → Int, ∃ lt' : Int → Int, ∃ sk' : Int → Int, ∃ t' : Int, rv = some (.int (iz r)) ∧ h = cxW (u2 (u2 (u2 (u2 (u2 (u2 (u2 (u2 (u2 (u2 z 0 6 M) 0 8 Rn) 0 9 v) 3 2 pi) 3 3 len) 36 1 s0) 38 1 s1) 40 1 s2) 42 1 s3) 91 3 t') (uf (uf (uf (uf f 4 w) 92 g') 93 lt') 94 sk') C T rc tl ∧ ((¬ ((0 ≤ ri ∧ ri < Rn) ∧ (1 ≤ mn ∧ mn ≤ 60) ∧ 1 ≤ M) ∧ r = -1) ∨ ((0 ≤ ri ∧ ri < Rn) ∧ (1 ≤ mn ∧ mn ≤ 60) ∧ 1 ≤ M ∧ r = dyB (TBx (Vs ri) w pi len C) M mn.toNat sd v))) := by
  obtain ⟨hri1, hri2⟩ := id hri
  obtain ⟨hv1, hv2⟩ := vT_bk hK.2 hv
  obtain ⟨hw1, hw2⟩ := id hmnb
  refine Rx.walk 0 (pc' := 0) (L' := [some (.ref 0), some (.int (iz ri)), some (.int (iz mn)), some (.long (jz sd)), none]) (st' := []) (h' := cxW (u2 (u2 (u2 (u2 (u2 (u2 (u2 (u2 (u2 (u2 z 0 6 M) 0 8 Rn) 0 9 v) 3 2 pi) 3 3 len) 36 1 s0) 38 1 s1) 40 1 s2) 42 1 s3) 91 3 t) (uf (uf (uf (uf f 4 w) 92 g) 93 lt) 94 sk) C T rc tl) rfl ?_
  refine Rx.walk 2 (pc' := 2) (L' := [some (.ref 0), some (.int (iz ri)), some (.int (iz mn)), some (.long (jz sd)), none]) (st' := [.int (iz ri), .ref 0]) (h' := cxW (u2 (u2 (u2 (u2 (u2 (u2 (u2 (u2 (u2 (u2 z 0 6 M) 0 8 Rn) 0 9 v) 3 2 pi) 3 3 len) 36 1 s0) 38 1 s1) 40 1 s2) 42 1 s3) 91 3 t) (uf (uf (uf (uf f 4 w) 92 g) 93 lt) 94 sk) C T rc tl) rfl ?_
  refine Rx.callx (m' := m_X11_isRule) (as := [.ref 0, .int (iz ri)]) (rest := []) rfl (x_isRule _ (u2 (u2 (u2 (u2 (u2 (u2 (u2 (u2 (u2 z 0 6 M) 0 9 v) 3 2 pi) 3 3 len) 36 1 s0) 38 1 s1) 40 1 s2) 42 1 s3) 91 3 t) (uf (uf (uf (uf f 4 w) 92 g) 93 lt) 94 sk) C T rc tl  ri Rn (by first | assumption | omega) hri) (fun v3 h4 q5 => ?_)
  obtain ⟨r_1, rfl, rfl, f2⟩ := q5
  refine Rx.walk 0 (pc' := 5) (L' := [some (.ref 0), some (.int (iz ri)), some (.int (iz mn)), some (.long (jz sd)), none]) (st' := [.int (iz r_1)]) (h' := cxW (u2 (u2 (u2 (u2 (u2 (u2 (u2 (u2 (u2 (u2 z 0 6 M) 0 8 Rn) 0 9 v) 3 2 pi) 3 3 len) 36 1 s0) 38 1 s1) 40 1 s2) 42 1 s3) 91 3 t) (uf (uf (uf (uf f 4 w) 92 g) 93 lt) 94 sk) C T rc tl) rfl ?_
  refine Rx.eq1 rfl rfl ⟨by omega, by omega⟩ (fun b6 => ?_) (fun b6 => ?_)
  · refine Rx.walk 1 (pc' := 27) (L' := [some (.ref 0), some (.int (iz ri)), some (.int (iz mn)), some (.long (jz sd)), none]) (st' := [.int (iz (-1))]) (h' := cxW (u2 (u2 (u2 (u2 (u2 (u2 (u2 (u2 (u2 (u2 z 0 6 M) 0 8 Rn) 0 9 v) 3 2 pi) 3 3 len) 36 1 s0) 38 1 s1) 40 1 s2) 42 1 s3) 91 3 t) (uf (uf (uf (uf f 4 w) 92 g) 93 lt) 94 sk) C T rc tl) rfl ?_
    refine Rx.ret rfl ?_
    exact ⟨_, _, _, _, _, rfl, rfl, Or.inl ⟨by omega, rfl⟩⟩
  · refine Rx.walk 2 (pc' := 10) (L' := [some (.ref 0), some (.int (iz ri)), some (.int (iz mn)), some (.long (jz sd)), none]) (st' := [.int (iz 1), .int (iz mn)]) (h' := cxW (u2 (u2 (u2 (u2 (u2 (u2 (u2 (u2 (u2 (u2 z 0 6 M) 0 8 Rn) 0 9 v) 3 2 pi) 3 3 len) 36 1 s0) 38 1 s1) 40 1 s2) 42 1 s3) 91 3 t) (uf (uf (uf (uf f 4 w) 92 g) 93 lt) 94 sk) C T rc tl) rfl ?_
    refine Rx.lt2 rfl rfl ⟨by omega, by omega⟩ ⟨by omega, by omega⟩ (fun b7 => ?_) (fun b7 => ?_)
    · refine Rx.walk 1 (pc' := 27) (L' := [some (.ref 0), some (.int (iz ri)), some (.int (iz mn)), some (.long (jz sd)), none]) (st' := [.int (iz (-1))]) (h' := cxW (u2 (u2 (u2 (u2 (u2 (u2 (u2 (u2 (u2 (u2 z 0 6 M) 0 8 Rn) 0 9 v) 3 2 pi) 3 3 len) 36 1 s0) 38 1 s1) 40 1 s2) 42 1 s3) 91 3 t) (uf (uf (uf (uf f 4 w) 92 g) 93 lt) 94 sk) C T rc tl) rfl ?_
      refine Rx.ret rfl ?_
      exact ⟨_, _, _, _, _, rfl, rfl, Or.inl ⟨by omega, rfl⟩⟩
    · refine Rx.walk 2 (pc' := 16) (L' := [some (.ref 0), some (.int (iz ri)), some (.int (iz mn)), some (.long (jz sd)), none]) (st' := [.int (iz 60), .int (iz mn)]) (h' := cxW (u2 (u2 (u2 (u2 (u2 (u2 (u2 (u2 (u2 (u2 z 0 6 M) 0 8 Rn) 0 9 v) 3 2 pi) 3 3 len) 36 1 s0) 38 1 s1) 40 1 s2) 42 1 s3) 91 3 t) (uf (uf (uf (uf f 4 w) 92 g) 93 lt) 94 sk) C T rc tl) rfl ?_
      refine Rx.gt2 rfl rfl ⟨by omega, by omega⟩ ⟨by omega, by omega⟩ (fun b8 => ?_) (fun b8 => ?_)
      · refine Rx.walk 1 (pc' := 27) (L' := [some (.ref 0), some (.int (iz ri)), some (.int (iz mn)), some (.long (jz sd)), none]) (st' := [.int (iz (-1))]) (h' := cxW (u2 (u2 (u2 (u2 (u2 (u2 (u2 (u2 (u2 (u2 z 0 6 M) 0 8 Rn) 0 9 v) 3 2 pi) 3 3 len) 36 1 s0) 38 1 s1) 40 1 s2) 42 1 s3) 91 3 t) (uf (uf (uf (uf f 4 w) 92 g) 93 lt) 94 sk) C T rc tl) rfl ?_
        refine Rx.ret rfl ?_
        exact ⟨_, _, _, _, _, rfl, rfl, Or.inl ⟨by omega, rfl⟩⟩
      · refine Rx.walk 2 (pc' := 23) (L' := [some (.ref 0), some (.int (iz ri)), some (.int (iz mn)), some (.long (jz sd)), none]) (st' := [.int (iz M)]) (h' := cxW (u2 (u2 (u2 (u2 (u2 (u2 (u2 (u2 (u2 (u2 z 0 6 M) 0 8 Rn) 0 9 v) 3 2 pi) 3 3 len) 36 1 s0) 38 1 s1) 40 1 s2) 42 1 s3) 91 3 t) (uf (uf (uf (uf f 4 w) 92 g) 93 lt) 94 sk) C T rc tl) rfl ?_
        refine Rx.ne1 rfl rfl ⟨by omega, by omega⟩ (fun b9 => ?_) (fun b9 => ?_)
        · refine Rx.walk 7 (pc' := 41) (L' := [some (.ref 0), some (.int (iz ri)), some (.int (iz mn)), some (.long (jz sd)), none]) (st' := [.int (iz ri), .ref 35, .int (iz v), .ref 91]) (h' := cxW (u2 (u2 (u2 (u2 (u2 (u2 (u2 (u2 (u2 (u2 z 0 6 M) 0 8 Rn) 0 9 v) 3 2 pi) 3 3 len) 36 1 s0) 38 1 s1) 40 1 s2) 42 1 s3) 91 3 t) (uf (uf (uf (uf f 4 w) 92 g) 93 lt) 94 sk) C T rc tl) rfl ?_
          rcases (show ri = 0 ∨ ri = 1 ∨ ri = 2 ∨ ri = 3 by omega) with z11 | z11 | z11 | z11
          · rw [z11]
            refine Rx.aal 0 rfl rfl rfl (by omega) (by omega) (by omega) rfl ?_
            subst z11
            refine Rx.walk 0 (pc' := 42) (L' := [some (.ref 0), some (.int (iz 0)), some (.int (iz mn)), some (.long (jz sd)), none]) (st' := [.ref 36, .int (iz v), .ref 91]) (h' := cxW (u2 (u2 (u2 (u2 (u2 (u2 (u2 (u2 (u2 (u2 z 0 6 M) 0 8 Rn) 0 9 v) 3 2 pi) 3 3 len) 36 1 s0) 38 1 s1) 40 1 s2) 42 1 s3) 91 3 t) (uf (uf (uf (uf f 4 w) 92 g) 93 lt) 94 sk) C T rc tl) rfl ?_
            refine Rx.walk 4 (pc' := 48) (L' := [some (.ref 0), some (.int (iz 0)), some (.int (iz mn)), some (.long (jz sd)), none]) (st' := [.int (iz M), .long (jz sd), .int (iz mn), .ref 36, .int (iz v), .ref 91]) (h' := cxW (u2 (u2 (u2 (u2 (u2 (u2 (u2 (u2 (u2 (u2 z 0 6 M) 0 8 Rn) 0 9 v) 3 2 pi) 3 3 len) 36 1 s0) 38 1 s1) 40 1 s2) 42 1 s3) 91 3 t) (uf (uf (uf (uf f 4 w) 92 g) 93 lt) 94 sk) C T rc tl) rfl ?_
            obtain ⟨ln, cd, hrc, hsz, hcb, hV⟩ := hr0 (by omega)
            refine Rx.callx (m' := m_X1_servedOfDay) (as := [.ref 91, .int (iz v), .ref 36, .int (iz mn), .long (jz sd), .int (iz M)]) (rest := []) rfl (x_sDay36 _ (u2 (u2 (u2 (u2 (u2 (u2 z 0 6 M) 0 8 Rn) 0 9 v) 38 1 s1) 40 1 s2) 42 1 s3) f C T rc tl  v mn sd g t pi len w lt sk s0 ln cd (Vs 0) M K (by first | assumption | omega) (by first | assumption | omega) (by first | assumption | omega) (by first | assumption | omega) (by first | assumption | omega) (by first | assumption | omega) (by first | assumption | omega) (by first | assumption | omega) (by first | assumption | omega) (by first | assumption | omega) (by omega) ⟨by omega, by omega⟩ hv) (fun v19 h20 q21 => ?_)
            obtain ⟨r_12, g_13, t_14, lt_15, sk_16, rfl, rfl, f17, f18⟩ := q21
            refine Rx.walk 0 (pc' := 51) (L' := [some (.ref 0), some (.int (iz 0)), some (.int (iz mn)), some (.long (jz sd)), none]) (st' := [.int (iz r_12)]) (h' := cxW (u2 (u2 (u2 (u2 (u2 (u2 (u2 (u2 (u2 (u2 z 0 6 M) 0 8 Rn) 0 9 v) 3 2 pi) 3 3 len) 36 1 s0) 38 1 s1) 40 1 s2) 42 1 s3) 91 3 t_14) (uf (uf (uf (uf f 4 w) 92 g_13) 93 lt_15) 94 sk_16) C T rc tl) rfl ?_
            refine Rx.ret rfl ?_
            exact ⟨_, _, _, _, _, rfl, rfl, Or.inr ⟨⟨by omega, by omega⟩, ⟨by omega, by omega⟩, by omega, f17⟩⟩
          · rw [z11]
            refine Rx.aal 1 rfl rfl rfl (by omega) (by omega) (by omega) rfl ?_
            subst z11
            refine Rx.walk 0 (pc' := 42) (L' := [some (.ref 0), some (.int (iz 1)), some (.int (iz mn)), some (.long (jz sd)), none]) (st' := [.ref 38, .int (iz v), .ref 91]) (h' := cxW (u2 (u2 (u2 (u2 (u2 (u2 (u2 (u2 (u2 (u2 z 0 6 M) 0 8 Rn) 0 9 v) 3 2 pi) 3 3 len) 36 1 s0) 38 1 s1) 40 1 s2) 42 1 s3) 91 3 t) (uf (uf (uf (uf f 4 w) 92 g) 93 lt) 94 sk) C T rc tl) rfl ?_
            refine Rx.walk 4 (pc' := 48) (L' := [some (.ref 0), some (.int (iz 1)), some (.int (iz mn)), some (.long (jz sd)), none]) (st' := [.int (iz M), .long (jz sd), .int (iz mn), .ref 38, .int (iz v), .ref 91]) (h' := cxW (u2 (u2 (u2 (u2 (u2 (u2 (u2 (u2 (u2 (u2 z 0 6 M) 0 8 Rn) 0 9 v) 3 2 pi) 3 3 len) 36 1 s0) 38 1 s1) 40 1 s2) 42 1 s3) 91 3 t) (uf (uf (uf (uf f 4 w) 92 g) 93 lt) 94 sk) C T rc tl) rfl ?_
            obtain ⟨ln, cd, hrc, hsz, hcb, hV⟩ := hr1 (by omega)
            refine Rx.callx (m' := m_X1_servedOfDay) (as := [.ref 91, .int (iz v), .ref 38, .int (iz mn), .long (jz sd), .int (iz M)]) (rest := []) rfl (x_sDay38 _ (u2 (u2 (u2 (u2 (u2 (u2 z 0 6 M) 0 8 Rn) 0 9 v) 36 1 s0) 40 1 s2) 42 1 s3) f C T rc tl  v mn sd g t pi len w lt sk s1 ln cd (Vs 1) M K (by first | assumption | omega) (by first | assumption | omega) (by first | assumption | omega) (by first | assumption | omega) (by first | assumption | omega) (by first | assumption | omega) (by first | assumption | omega) (by first | assumption | omega) (by first | assumption | omega) (by first | assumption | omega) (by omega) ⟨by omega, by omega⟩ hv) (fun v29 h30 q31 => ?_)
            obtain ⟨r_22, g_23, t_24, lt_25, sk_26, rfl, rfl, f27, f28⟩ := q31
            refine Rx.walk 0 (pc' := 51) (L' := [some (.ref 0), some (.int (iz 1)), some (.int (iz mn)), some (.long (jz sd)), none]) (st' := [.int (iz r_22)]) (h' := cxW (u2 (u2 (u2 (u2 (u2 (u2 (u2 (u2 (u2 (u2 z 0 6 M) 0 8 Rn) 0 9 v) 3 2 pi) 3 3 len) 36 1 s0) 38 1 s1) 40 1 s2) 42 1 s3) 91 3 t_24) (uf (uf (uf (uf f 4 w) 92 g_23) 93 lt_25) 94 sk_26) C T rc tl) rfl ?_
            refine Rx.ret rfl ?_
            exact ⟨_, _, _, _, _, rfl, rfl, Or.inr ⟨⟨by omega, by omega⟩, ⟨by omega, by omega⟩, by omega, f27⟩⟩
          · rw [z11]
            refine Rx.aal 2 rfl rfl rfl (by omega) (by omega) (by omega) rfl ?_
            subst z11
            refine Rx.walk 0 (pc' := 42) (L' := [some (.ref 0), some (.int (iz 2)), some (.int (iz mn)), some (.long (jz sd)), none]) (st' := [.ref 40, .int (iz v), .ref 91]) (h' := cxW (u2 (u2 (u2 (u2 (u2 (u2 (u2 (u2 (u2 (u2 z 0 6 M) 0 8 Rn) 0 9 v) 3 2 pi) 3 3 len) 36 1 s0) 38 1 s1) 40 1 s2) 42 1 s3) 91 3 t) (uf (uf (uf (uf f 4 w) 92 g) 93 lt) 94 sk) C T rc tl) rfl ?_
            refine Rx.walk 4 (pc' := 48) (L' := [some (.ref 0), some (.int (iz 2)), some (.int (iz mn)), some (.long (jz sd)), none]) (st' := [.int (iz M), .long (jz sd), .int (iz mn), .ref 40, .int (iz v), .ref 91]) (h' := cxW (u2 (u2 (u2 (u2 (u2 (u2 (u2 (u2 (u2 (u2 z 0 6 M) 0 8 Rn) 0 9 v) 3 2 pi) 3 3 len) 36 1 s0) 38 1 s1) 40 1 s2) 42 1 s3) 91 3 t) (uf (uf (uf (uf f 4 w) 92 g) 93 lt) 94 sk) C T rc tl) rfl ?_
            obtain ⟨ln, cd, hrc, hsz, hcb, hV⟩ := hr2 (by omega)
            refine Rx.callx (m' := m_X1_servedOfDay) (as := [.ref 91, .int (iz v), .ref 40, .int (iz mn), .long (jz sd), .int (iz M)]) (rest := []) rfl (x_sDay40 _ (u2 (u2 (u2 (u2 (u2 (u2 z 0 6 M) 0 8 Rn) 0 9 v) 36 1 s0) 38 1 s1) 42 1 s3) f C T rc tl  v mn sd g t pi len w lt sk s2 ln cd (Vs 2) M K (by first | assumption | omega) (by first | assumption | omega) (by first | assumption | omega) (by first | assumption | omega) (by first | assumption | omega) (by first | assumption | omega) (by first | assumption | omega) (by first | assumption | omega) (by first | assumption | omega) (by first | assumption | omega) (by omega) ⟨by omega, by omega⟩ hv) (fun v39 h40 q41 => ?_)
            obtain ⟨r_32, g_33, t_34, lt_35, sk_36, rfl, rfl, f37, f38⟩ := q41
            refine Rx.walk 0 (pc' := 51) (L' := [some (.ref 0), some (.int (iz 2)), some (.int (iz mn)), some (.long (jz sd)), none]) (st' := [.int (iz r_32)]) (h' := cxW (u2 (u2 (u2 (u2 (u2 (u2 (u2 (u2 (u2 (u2 z 0 6 M) 0 8 Rn) 0 9 v) 3 2 pi) 3 3 len) 36 1 s0) 38 1 s1) 40 1 s2) 42 1 s3) 91 3 t_34) (uf (uf (uf (uf f 4 w) 92 g_33) 93 lt_35) 94 sk_36) C T rc tl) rfl ?_
            refine Rx.ret rfl ?_
            exact ⟨_, _, _, _, _, rfl, rfl, Or.inr ⟨⟨by omega, by omega⟩, ⟨by omega, by omega⟩, by omega, f37⟩⟩
          · rw [z11]
            refine Rx.aal 3 rfl rfl rfl (by omega) (by omega) (by omega) rfl ?_
            subst z11
            refine Rx.walk 0 (pc' := 42) (L' := [some (.ref 0), some (.int (iz 3)), some (.int (iz mn)), some (.long (jz sd)), none]) (st' := [.ref 42, .int (iz v), .ref 91]) (h' := cxW (u2 (u2 (u2 (u2 (u2 (u2 (u2 (u2 (u2 (u2 z 0 6 M) 0 8 Rn) 0 9 v) 3 2 pi) 3 3 len) 36 1 s0) 38 1 s1) 40 1 s2) 42 1 s3) 91 3 t) (uf (uf (uf (uf f 4 w) 92 g) 93 lt) 94 sk) C T rc tl) rfl ?_
            refine Rx.walk 4 (pc' := 48) (L' := [some (.ref 0), some (.int (iz 3)), some (.int (iz mn)), some (.long (jz sd)), none]) (st' := [.int (iz M), .long (jz sd), .int (iz mn), .ref 42, .int (iz v), .ref 91]) (h' := cxW (u2 (u2 (u2 (u2 (u2 (u2 (u2 (u2 (u2 (u2 z 0 6 M) 0 8 Rn) 0 9 v) 3 2 pi) 3 3 len) 36 1 s0) 38 1 s1) 40 1 s2) 42 1 s3) 91 3 t) (uf (uf (uf (uf f 4 w) 92 g) 93 lt) 94 sk) C T rc tl) rfl ?_
            obtain ⟨ln, cd, hrc, hsz, hcb, hV⟩ := hr3 (by omega)
            refine Rx.callx (m' := m_X1_servedOfDay) (as := [.ref 91, .int (iz v), .ref 42, .int (iz mn), .long (jz sd), .int (iz M)]) (rest := []) rfl (x_sDay42 _ (u2 (u2 (u2 (u2 (u2 (u2 z 0 6 M) 0 8 Rn) 0 9 v) 36 1 s0) 38 1 s1) 40 1 s2) f C T rc tl  v mn sd g t pi len w lt sk s3 ln cd (Vs 3) M K (by first | assumption | omega) (by first | assumption | omega) (by first | assumption | omega) (by first | assumption | omega) (by first | assumption | omega) (by first | assumption | omega) (by first | assumption | omega) (by first | assumption | omega) (by first | assumption | omega) (by first | assumption | omega) (by omega) ⟨by omega, by omega⟩ hv) (fun v49 h50 q51 => ?_)
            obtain ⟨r_42, g_43, t_44, lt_45, sk_46, rfl, rfl, f47, f48⟩ := q51
            refine Rx.walk 0 (pc' := 51) (L' := [some (.ref 0), some (.int (iz 3)), some (.int (iz mn)), some (.long (jz sd)), none]) (st' := [.int (iz r_42)]) (h' := cxW (u2 (u2 (u2 (u2 (u2 (u2 (u2 (u2 (u2 (u2 z 0 6 M) 0 8 Rn) 0 9 v) 3 2 pi) 3 3 len) 36 1 s0) 38 1 s1) 40 1 s2) 42 1 s3) 91 3 t_44) (uf (uf (uf (uf f 4 w) 92 g_43) 93 lt_45) 94 sk_46) C T rc tl) rfl ?_
            refine Rx.ret rfl ?_
            exact ⟨_, _, _, _, _, rfl, rfl, Or.inr ⟨⟨by omega, by omega⟩, ⟨by omega, by omega⟩, by omega, f47⟩⟩
        · refine Rx.walk 1 (pc' := 27) (L' := [some (.ref 0), some (.int (iz ri)), some (.int (iz mn)), some (.long (jz sd)), none]) (st' := [.int (iz (-1))]) (h' := cxW (u2 (u2 (u2 (u2 (u2 (u2 (u2 (u2 (u2 (u2 z 0 6 M) 0 8 Rn) 0 9 v) 3 2 pi) 3 3 len) 36 1 s0) 38 1 s1) 40 1 s2) 42 1 s3) 91 3 t) (uf (uf (uf (uf f 4 w) 92 g) 93 lt) 94 sk) C T rc tl) rfl ?_
          refine Rx.ret rfl ?_
          exact ⟨_, _, _, _, _, rfl, rfl, Or.inl ⟨by omega, rfl⟩⟩

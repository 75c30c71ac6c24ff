/-! the baker of the class: the pipe that a rule chooses, a customer served (printed by wip/whole/genbak2.py) -/
/-- what a customer gives by rules: spare, hand -/
def hOf (X : CuR) : Option (Int × List Int) := if X.2.2.2.2.2.2.2 = -1 then none else some (X.2.2.2.2.2.2.1 X.2.2.2.2.2.2.2, hnd X X.2.2.2.2.2.2.2 0)
theorem hOf_n {X : CuR} (h : X.2.2.2.2.2.2.2 = -1) : hOf X = none := if_pos h
theorem hOf_s {X : CuR} (h : X.2.2.2.2.2.2.2 ≠ -1) : hOf X = some (X.2.2.2.2.2.2.1 X.2.2.2.2.2.2.2, hnd X X.2.2.2.2.2.2.2 0) := if_neg h
section TbL
variable {V : (Int → Int) → Int} {w : Int → Int} {pi len : Int}
theorem puB_c {e p0 p1 : Int} {r : List Int} (h : chP V w pi len e p0 p1 = -1) : puB V w pi len (e :: r) p0 p1 = (0, p0, p1) := by show (if _ then _ else _) = _; rw [if_pos h]
theorem puB_0 {e p0 p1 : Int} {r : List Int} (h : chP V w pi len e p0 p1 = 0) : puB V w pi len (e :: r) p0 p1 = puB V w pi len r (p0 * 5 + e) p1 := by show (if _ then _ else _) = _; rw [if_neg (by omega), if_pos h]
theorem puB_1 {e p0 p1 : Int} {r : List Int} (h : chP V w pi len e p0 p1 = 1) : puB V w pi len (e :: r) p0 p1 = puB V w pi len r p0 (p1 * 5 + e) := by show (if _ then _ else _) = _; rw [if_neg (by omega), if_neg (by omega)]
theorem tbV_n {p0 p1 t : Int} : tbV V w pi len none p0 p1 t = -1 := rfl
theorem tbV_b {s p0 p1 t : Int} {l : List Int} (h : (hbk w 11 p0 p1 t s).1 = 0) : tbV V w pi len (some (s, l)) p0 p1 t = -1 := by show (if _ then _ else _) = _; rw [if_pos h]
theorem tbV_p {s p0 p1 t : Int} {l : List Int} (h : (hbk w 11 p0 p1 t s).1 ≠ 0) (h2 : (puB V w pi len l (hbk w 11 p0 p1 t s).2.1 (hbk w 11 p0 p1 t s).2.2.1).1 = 0) : tbV V w pi len (some (s, l)) p0 p1 t = -1 := by show (if _ then _ else _) = _; rw [if_neg h, if_pos h2]
theorem tbV_s {s p0 p1 t : Int} {l : List Int} (h : (hbk w 11 p0 p1 t s).1 ≠ 0) (h2 : (puB V w pi len l (hbk w 11 p0 p1 t s).2.1 (hbk w 11 p0 p1 t s).2.2.1).1 ≠ 0) : tbV V w pi len (some (s, l)) p0 p1 t = tn (puB V w pi len l (hbk w 11 p0 p1 t s).2.1 (hbk w 11 p0 p1 t s).2.2.1).2.1 (puB V w pi len l (hbk w 11 p0 p1 t s).2.1 (hbk w 11 p0 p1 t s).2.2.1).2.2 (hbk w 11 p0 p1 t s).2.2.2 := by show (if _ then _ else _) = _; rw [if_neg h, if_neg h2]
end TbL
set_option maxRecDepth 100000 in
set_option maxHeartbeats 4000000 in
theorem x_chosenP36 (d : Nat) (z : Nat → Nat → Int) (f : Nat → Int → Int) (C : Nat → CuR) (T : Nat → TsR) (rc : Nat → Nat) (tl : AmH)  (e : Int) (g : Int → Int) (pi : Int) (len : Int) (w : Int → Int) (lt : Int → Int) (sk : Int → Int) (sz : Int) (ln : Nat) (cd : Int → Int) (V : (Int → Int) → Int) (hw : wOK w) (hpi : pi = 1 ∨ pi = 2) (hlen : 1 ≤ len ∧ len ≤ 5) (hrc : 98 ≤ rc 36 ∧ am_nth tl (rc 36 - 98) = some (.inl (.int, ln, .inl (av cd)))) (hsz : 0 ≤ sz ∧ sz ≤ 161 ∧ sz = (ln : Int)) (hcb : ∀ j : Int, 0 ≤ j → j < sz → sgB (cd j)) (hV : ruV V (crem cd 0 sz.toNat)) (he : 1 ≤ e ∧ e ≤ 4) (hg0 : 0 ≤ g 0 ∧ g 0 < 3125) (hg1 : 0 ≤ g 1 ∧ g 1 < 3125) : Rx (d + 3) m_X1_chosenPipe 0 (am_ent [.ref 91, .int (iz e), .ref 36] 7) [] (cxW (u2 (u2 (u2 z 3 2 pi) 3 3 len) 36 1 sz) (uf (uf (uf (uf f 4 w) 92 g) 93 lt) 94 sk) C T rc tl) (fun rv h => ∃ r : Int, ∃ lt' : Int → Int, ∃ sk' : Int → Int, rv = some (.int (iz r)) ∧ h = cxW (u2 (u2 (u2 z 3 2 pi) 3 3 len) 36 1 sz) (uf (uf (uf (uf f 4 w) 92 g) 93 lt') 94 sk') C T rc tl ∧ r = chP V w pi len e (g 0) (g 1)) := by
  have hh0 : 0 ≤ ht (g 0) ∧ ht (g 0) ≤ 5 := by have := ht_c (g 0); omega
  have hh1 : 0 ≤ ht (g 1) ∧ ht (g 1) ≤ 5 := by have := ht_c (g 1); omega
  refine Rx.walk 0 (pc' := 0) (L' := [some (.ref 91), some (.int (iz e)), some (.ref 36), none, none, none, none]) (st' := []) (h' := cxW (u2 (u2 (u2 z 3 2 pi) 3 3 len) 36 1 sz) (uf (uf (uf (uf f 4 w) 92 g) 93 lt) 94 sk) C T rc tl) rfl ?_
  refine Rx.walk 10 (pc' := 17) (L' := [some (.ref 91), some (.int (iz e)), some (.ref 36), some (.int (iz (-1))), some (.int (iz 0)), some (.int (iz 0)), none]) (st' := [.int (iz pi), .int (iz 0)]) (h' := cxW (u2 (u2 (u2 z 3 2 pi) 3 3 len) 36 1 sz) (uf (uf (uf (uf f 4 w) 92 g) 93 lt) 94 sk) C T rc tl) rfl ?_
  refine Rx.ge2 rfl rfl ⟨by omega, by omega⟩ ⟨by omega, by omega⟩ (fun b1 => by omega) (fun b1 => ?_)
  refine Rx.walk 2 (pc' := 23) (L' := [some (.ref 91), some (.int (iz e)), some (.ref 36), some (.int (iz (-1))), some (.int (iz 0)), some (.int (iz 0)), none]) (st' := [.int (iz 2), .int (iz 0)]) (h' := cxW (u2 (u2 (u2 z 3 2 pi) 3 3 len) 36 1 sz) (uf (uf (uf (uf f 4 w) 92 g) 93 lt) 94 sk) C T rc tl) rfl ?_
  refine Rx.ge2 rfl rfl ⟨by omega, by omega⟩ ⟨by omega, by omega⟩ (fun b2 => by omega) (fun b2 => ?_)
  refine Rx.walk 3 (pc' := 32) (L' := [some (.ref 91), some (.int (iz e)), some (.ref 36), some (.int (iz (-1))), some (.int (iz 0)), some (.int (iz 0)), none]) (st' := [.int (iz 0), .ref 92]) (h' := cxW (u2 (u2 (u2 z 3 2 pi) 3 3 len) 36 1 sz) (uf (uf (uf (uf f 4 w) 92 g) 93 lt) 94 sk) C T rc tl) rfl ?_
  refine Rx.ial (g := g) rfl rfl (by omega) (by omega) (by omega) ?_
  refine Rx.callx (m' := m_X10_height) (as := [.int (iz (g 0))]) (rest := []) rfl (n_height _ (cxW (u2 (u2 (u2 z 3 2 pi) 3 3 len) 36 1 sz) (uf (uf (uf (uf f 4 w) 92 g) 93 lt) 94 sk) C T rc tl)  (g 0) ⟨by omega, by omega⟩) (fun v5 h6 q7 => ?_)
  obtain ⟨r_3, rfl, rfl, f4⟩ := q7
  refine Rx.walk 0 (pc' := 36) (L' := [some (.ref 91), some (.int (iz e)), some (.ref 36), some (.int (iz (-1))), some (.int (iz 0)), some (.int (iz 0)), none]) (st' := [.int (iz r_3)]) (h' := cxW (u2 (u2 (u2 z 3 2 pi) 3 3 len) 36 1 sz) (uf (uf (uf (uf f 4 w) 92 g) 93 lt) 94 sk) C T rc tl) rfl ?_
  refine Rx.walk 3 (pc' := 43) (L' := [some (.ref 91), some (.int (iz e)), some (.ref 36), some (.int (iz (-1))), some (.int (iz 0)), some (.int (iz 0)), none]) (st' := [.int (iz len), .int (iz r_3)]) (h' := cxW (u2 (u2 (u2 z 3 2 pi) 3 3 len) 36 1 sz) (uf (uf (uf (uf f 4 w) 92 g) 93 lt) 94 sk) C T rc tl) rfl ?_
  refine Rx.ge2 rfl rfl ⟨by omega, by omega⟩ ⟨by omega, by omega⟩ (fun b8 => ?_) (fun b8 => ?_)
  · refine Rx.iinc (b := 1) rfl rfl rfl ?_
    refine Rx.walk 0 (pc' := 89) (L' := [some (.ref 91), some (.int (iz e)), some (.ref 36), some (.int (iz (-1))), some (.int (iz 0)), some (.int (iz 1)), none]) (st' := []) (h' := cxW (u2 (u2 (u2 z 3 2 pi) 3 3 len) 36 1 sz) (uf (uf (uf (uf f 4 w) 92 g) 93 lt) 94 sk) C T rc tl) rfl ?_
    refine Rx.walk 5 (pc' := 17) (L' := [some (.ref 91), some (.int (iz e)), some (.ref 36), some (.int (iz (-1))), some (.int (iz 0)), some (.int (iz 1)), none]) (st' := [.int (iz pi), .int (iz 1)]) (h' := cxW (u2 (u2 (u2 z 3 2 pi) 3 3 len) 36 1 sz) (uf (uf (uf (uf f 4 w) 92 g) 93 lt) 94 sk) C T rc tl) rfl ?_
    refine Rx.ge2 rfl rfl ⟨by omega, by omega⟩ ⟨by omega, by omega⟩ (fun b9 => ?_) (fun b9 => ?_)
    · refine Rx.walk 1 (pc' := 93) (L' := [some (.ref 91), some (.int (iz e)), some (.ref 36), some (.int (iz (-1))), some (.int (iz 0)), some (.int (iz 1)), none]) (st' := [.int (iz (-1))]) (h' := cxW (u2 (u2 (u2 z 3 2 pi) 3 3 len) 36 1 sz) (uf (uf (uf (uf f 4 w) 92 g) 93 lt) 94 sk) C T rc tl) rfl ?_
      refine Rx.ret rfl ?_
      refine ⟨_, _, _, rfl, rfl, ?_⟩
      unfold chP
      rw [if_neg (by omega), if_neg (by omega)]
    · refine Rx.walk 2 (pc' := 23) (L' := [some (.ref 91), some (.int (iz e)), some (.ref 36), some (.int (iz (-1))), some (.int (iz 0)), some (.int (iz 1)), none]) (st' := [.int (iz 2), .int (iz 1)]) (h' := cxW (u2 (u2 (u2 z 3 2 pi) 3 3 len) 36 1 sz) (uf (uf (uf (uf f 4 w) 92 g) 93 lt) 94 sk) C T rc tl) rfl ?_
      refine Rx.ge2 rfl rfl ⟨by omega, by omega⟩ ⟨by omega, by omega⟩ (fun b10 => by omega) (fun b10 => ?_)
      refine Rx.walk 3 (pc' := 32) (L' := [some (.ref 91), some (.int (iz e)), some (.ref 36), some (.int (iz (-1))), some (.int (iz 0)), some (.int (iz 1)), none]) (st' := [.int (iz 1), .ref 92]) (h' := cxW (u2 (u2 (u2 z 3 2 pi) 3 3 len) 36 1 sz) (uf (uf (uf (uf f 4 w) 92 g) 93 lt) 94 sk) C T rc tl) rfl ?_
      refine Rx.ial (g := g) rfl rfl (by omega) (by omega) (by omega) ?_
      refine Rx.callx (m' := m_X10_height) (as := [.int (iz (g 1))]) (rest := []) rfl (n_height _ (cxW (u2 (u2 (u2 z 3 2 pi) 3 3 len) 36 1 sz) (uf (uf (uf (uf f 4 w) 92 g) 93 lt) 94 sk) C T rc tl)  (g 1) ⟨by omega, by omega⟩) (fun v13 h14 q15 => ?_)
      obtain ⟨r_11, rfl, rfl, f12⟩ := q15
      refine Rx.walk 0 (pc' := 36) (L' := [some (.ref 91), some (.int (iz e)), some (.ref 36), some (.int (iz (-1))), some (.int (iz 0)), some (.int (iz 1)), none]) (st' := [.int (iz r_11)]) (h' := cxW (u2 (u2 (u2 z 3 2 pi) 3 3 len) 36 1 sz) (uf (uf (uf (uf f 4 w) 92 g) 93 lt) 94 sk) C T rc tl) rfl ?_
      refine Rx.walk 3 (pc' := 43) (L' := [some (.ref 91), some (.int (iz e)), some (.ref 36), some (.int (iz (-1))), some (.int (iz 0)), some (.int (iz 1)), none]) (st' := [.int (iz len), .int (iz r_11)]) (h' := cxW (u2 (u2 (u2 z 3 2 pi) 3 3 len) 36 1 sz) (uf (uf (uf (uf f 4 w) 92 g) 93 lt) 94 sk) C T rc tl) rfl ?_
      refine Rx.ge2 rfl rfl ⟨by omega, by omega⟩ ⟨by omega, by omega⟩ (fun b16 => ?_) (fun b16 => ?_)
      · refine Rx.iinc (b := 1) rfl rfl rfl ?_
        refine Rx.walk 0 (pc' := 89) (L' := [some (.ref 91), some (.int (iz e)), some (.ref 36), some (.int (iz (-1))), some (.int (iz 0)), some (.int (iz 2)), none]) (st' := []) (h' := cxW (u2 (u2 (u2 z 3 2 pi) 3 3 len) 36 1 sz) (uf (uf (uf (uf f 4 w) 92 g) 93 lt) 94 sk) C T rc tl) rfl ?_
        refine Rx.walk 5 (pc' := 17) (L' := [some (.ref 91), some (.int (iz e)), some (.ref 36), some (.int (iz (-1))), some (.int (iz 0)), some (.int (iz 2)), none]) (st' := [.int (iz pi), .int (iz 2)]) (h' := cxW (u2 (u2 (u2 z 3 2 pi) 3 3 len) 36 1 sz) (uf (uf (uf (uf f 4 w) 92 g) 93 lt) 94 sk) C T rc tl) rfl ?_
        refine Rx.ge2 rfl rfl ⟨by omega, by omega⟩ ⟨by omega, by omega⟩ (fun b17 => ?_) (fun b17 => by omega)
        refine Rx.walk 1 (pc' := 93) (L' := [some (.ref 91), some (.int (iz e)), some (.ref 36), some (.int (iz (-1))), some (.int (iz 0)), some (.int (iz 2)), none]) (st' := [.int (iz (-1))]) (h' := cxW (u2 (u2 (u2 z 3 2 pi) 3 3 len) 36 1 sz) (uf (uf (uf (uf f 4 w) 92 g) 93 lt) 94 sk) C T rc tl) rfl ?_
        refine Rx.ret rfl ?_
        refine ⟨_, _, _, rfl, rfl, ?_⟩
        unfold chP
        rw [if_neg (by omega), if_neg (by omega)]
      · refine Rx.walk 3 (pc' := 50) (L' := [some (.ref 91), some (.int (iz e)), some (.ref 36), some (.int (iz (-1))), some (.int (iz 0)), some (.int (iz 1)), none]) (st' := [.int (iz 1), .int (iz e), .ref 91]) (h' := cxW (u2 (u2 (u2 z 3 2 pi) 3 3 len) 36 1 sz) (uf (uf (uf (uf f 4 w) 92 g) 93 lt) 94 sk) C T rc tl) rfl ?_
        refine Rx.callx (m' := m_X1_setLetters) (as := [.ref 91, .int (iz e), .int (iz 1)]) (rest := []) rfl (x_setL1 _ (u2 (u2 (u2 z 3 2 pi) 3 3 len) 36 1 sz) (uf f 94 sk) C T rc tl  e w g lt hw ⟨by omega, by omega⟩ hg0 hg1) (fun v20 h21 q22 => ?_)
        obtain ⟨lt_18, rfl, rfl, f19⟩ := q22
        refine Rx.walk 0 (pc' := 53) (L' := [some (.ref 91), some (.int (iz e)), some (.ref 36), some (.int (iz (-1))), some (.int (iz 0)), some (.int (iz 1)), none]) (st' := []) (h' := cxW (u2 (u2 (u2 z 3 2 pi) 3 3 len) 36 1 sz) (uf (uf (uf (uf f 4 w) 92 g) 93 lt_18) 94 sk) C T rc tl) rfl ?_
        refine Rx.walk 5 (pc' := 62) (L' := [some (.ref 91), some (.int (iz e)), some (.ref 36), some (.int (iz (-1))), some (.int (iz 0)), some (.int (iz 1)), none]) (st' := [.ref 94, .ref 93, .ref 36]) (h' := cxW (u2 (u2 (u2 z 3 2 pi) 3 3 len) 36 1 sz) (uf (uf (uf (uf f 4 w) 92 g) 93 lt_18) 94 sk) C T rc tl) rfl ?_
        have hc1 : bdL (ltB w e 1 (g 1) (g 0)) := ltB_b hw ⟨by omega, by omega⟩ ⟨by omega, by omega⟩ hg1.1
        have hb1 := bdL_eq (fun j a b => (f19 j a b).symm) hc1
        refine Rx.callx (m' := m_X6_worth) (as := [.ref 36, .ref 93, .ref 94]) (rest := []) rfl (x_worth36 _ (u2 (u2 z 3 2 pi) 3 3 len) (uf (uf f 4 w) 92 g) C T rc tl  sz ln cd lt_18 sk hrc hsz hcb hb1 (hV _ hb1).1) (fun v26 h27 q28 => ?_)
        obtain ⟨r_23, g_24, rfl, rfl, f25⟩ := q28
        refine Rx.walk 0 (pc' := 65) (L' := [some (.ref 91), some (.int (iz e)), some (.ref 36), some (.int (iz (-1))), some (.int (iz 0)), some (.int (iz 1)), none]) (st' := [.int (iz r_23)]) (h' := cxW (u2 (u2 (u2 z 3 2 pi) 3 3 len) 36 1 sz) (uf (uf (uf (uf f 4 w) 92 g) 93 lt_18) 94 g_24) C T rc tl) rfl ?_
        have hv1 : r_23 = V (ltB w e 1 (g 1) (g 0)) := by rw [f25, ← (hV _ hb1).2.1]; exact ruV_congr hV hb1 f19
        obtain ⟨hu1, hx1⟩ := (hV _ hc1).2.2
        rw [← hv1] at hu1 hx1
        refine Rx.walk 3 (pc' := 69) (L' := [some (.ref 91), some (.int (iz e)), some (.ref 36), some (.int (iz (-1))), some (.int (iz 0)), some (.int (iz 1)), some (.int (iz r_23))]) (st' := [.int (iz (-1)), .int (iz (-1))]) (h' := cxW (u2 (u2 (u2 z 3 2 pi) 3 3 len) 36 1 sz) (uf (uf (uf (uf f 4 w) 92 g) 93 lt_18) 94 g_24) C T rc tl) rfl ?_
        refine Rx.eq2 rfl rfl ⟨by omega, by omega⟩ ⟨by omega, by omega⟩ (fun b29 => ?_) (fun b29 => by omega)
        refine Rx.walk 4 (pc' := 86) (L' := [some (.ref 91), some (.int (iz e)), some (.ref 36), some (.int (iz 1)), some (.int (iz r_23)), some (.int (iz 1)), some (.int (iz r_23))]) (st' := []) (h' := cxW (u2 (u2 (u2 z 3 2 pi) 3 3 len) 36 1 sz) (uf (uf (uf (uf f 4 w) 92 g) 93 lt_18) 94 g_24) C T rc tl) rfl ?_
        refine Rx.iinc (b := 1) rfl rfl rfl ?_
        refine Rx.walk 0 (pc' := 89) (L' := [some (.ref 91), some (.int (iz e)), some (.ref 36), some (.int (iz 1)), some (.int (iz r_23)), some (.int (iz 2)), some (.int (iz r_23))]) (st' := []) (h' := cxW (u2 (u2 (u2 z 3 2 pi) 3 3 len) 36 1 sz) (uf (uf (uf (uf f 4 w) 92 g) 93 lt_18) 94 g_24) C T rc tl) rfl ?_
        refine Rx.walk 5 (pc' := 17) (L' := [some (.ref 91), some (.int (iz e)), some (.ref 36), some (.int (iz 1)), some (.int (iz r_23)), some (.int (iz 2)), some (.int (iz r_23))]) (st' := [.int (iz pi), .int (iz 2)]) (h' := cxW (u2 (u2 (u2 z 3 2 pi) 3 3 len) 36 1 sz) (uf (uf (uf (uf f 4 w) 92 g) 93 lt_18) 94 g_24) C T rc tl) rfl ?_
        refine Rx.ge2 rfl rfl ⟨by omega, by omega⟩ ⟨by omega, by omega⟩ (fun b30 => ?_) (fun b30 => by omega)
        refine Rx.walk 1 (pc' := 93) (L' := [some (.ref 91), some (.int (iz e)), some (.ref 36), some (.int (iz 1)), some (.int (iz r_23)), some (.int (iz 2)), some (.int (iz r_23))]) (st' := [.int (iz 1)]) (h' := cxW (u2 (u2 (u2 z 3 2 pi) 3 3 len) 36 1 sz) (uf (uf (uf (uf f 4 w) 92 g) 93 lt_18) 94 g_24) C T rc tl) rfl ?_
        refine Rx.ret rfl ?_
        refine ⟨_, _, _, rfl, rfl, ?_⟩
        unfold chP
        rw [if_neg (by omega), if_pos ⟨by omega, by omega⟩]
  · refine Rx.walk 3 (pc' := 50) (L' := [some (.ref 91), some (.int (iz e)), some (.ref 36), some (.int (iz (-1))), some (.int (iz 0)), some (.int (iz 0)), none]) (st' := [.int (iz 0), .int (iz e), .ref 91]) (h' := cxW (u2 (u2 (u2 z 3 2 pi) 3 3 len) 36 1 sz) (uf (uf (uf (uf f 4 w) 92 g) 93 lt) 94 sk) C T rc tl) rfl ?_
    refine Rx.callx (m' := m_X1_setLetters) (as := [.ref 91, .int (iz e), .int (iz 0)]) (rest := []) rfl (x_setL0 _ (u2 (u2 (u2 z 3 2 pi) 3 3 len) 36 1 sz) (uf f 94 sk) C T rc tl  e w g lt hw ⟨by omega, by omega⟩ hg0 hg1) (fun v33 h34 q35 => ?_)
    obtain ⟨lt_31, rfl, rfl, f32⟩ := q35
    refine Rx.walk 0 (pc' := 53) (L' := [some (.ref 91), some (.int (iz e)), some (.ref 36), some (.int (iz (-1))), some (.int (iz 0)), some (.int (iz 0)), none]) (st' := []) (h' := cxW (u2 (u2 (u2 z 3 2 pi) 3 3 len) 36 1 sz) (uf (uf (uf (uf f 4 w) 92 g) 93 lt_31) 94 sk) C T rc tl) rfl ?_
    refine Rx.walk 5 (pc' := 62) (L' := [some (.ref 91), some (.int (iz e)), some (.ref 36), some (.int (iz (-1))), some (.int (iz 0)), some (.int (iz 0)), none]) (st' := [.ref 94, .ref 93, .ref 36]) (h' := cxW (u2 (u2 (u2 z 3 2 pi) 3 3 len) 36 1 sz) (uf (uf (uf (uf f 4 w) 92 g) 93 lt_31) 94 sk) C T rc tl) rfl ?_
    have hc1 : bdL (ltB w e 0 (g 0) (g 1)) := ltB_b hw ⟨by omega, by omega⟩ ⟨by omega, by omega⟩ hg0.1
    have hb1 := bdL_eq (fun j a b => (f32 j a b).symm) hc1
    refine Rx.callx (m' := m_X6_worth) (as := [.ref 36, .ref 93, .ref 94]) (rest := []) rfl (x_worth36 _ (u2 (u2 z 3 2 pi) 3 3 len) (uf (uf f 4 w) 92 g) C T rc tl  sz ln cd lt_31 sk hrc hsz hcb hb1 (hV _ hb1).1) (fun v39 h40 q41 => ?_)
    obtain ⟨r_36, g_37, rfl, rfl, f38⟩ := q41
    refine Rx.walk 0 (pc' := 65) (L' := [some (.ref 91), some (.int (iz e)), some (.ref 36), some (.int (iz (-1))), some (.int (iz 0)), some (.int (iz 0)), none]) (st' := [.int (iz r_36)]) (h' := cxW (u2 (u2 (u2 z 3 2 pi) 3 3 len) 36 1 sz) (uf (uf (uf (uf f 4 w) 92 g) 93 lt_31) 94 g_37) C T rc tl) rfl ?_
    have hv1 : r_36 = V (ltB w e 0 (g 0) (g 1)) := by rw [f38, ← (hV _ hb1).2.1]; exact ruV_congr hV hb1 f32
    obtain ⟨hu1, hx1⟩ := (hV _ hc1).2.2
    rw [← hv1] at hu1 hx1
    refine Rx.walk 3 (pc' := 69) (L' := [some (.ref 91), some (.int (iz e)), some (.ref 36), some (.int (iz (-1))), some (.int (iz 0)), some (.int (iz 0)), some (.int (iz r_36))]) (st' := [.int (iz (-1)), .int (iz (-1))]) (h' := cxW (u2 (u2 (u2 z 3 2 pi) 3 3 len) 36 1 sz) (uf (uf (uf (uf f 4 w) 92 g) 93 lt_31) 94 g_37) C T rc tl) rfl ?_
    refine Rx.eq2 rfl rfl ⟨by omega, by omega⟩ ⟨by omega, by omega⟩ (fun b42 => ?_) (fun b42 => by omega)
    refine Rx.walk 4 (pc' := 86) (L' := [some (.ref 91), some (.int (iz e)), some (.ref 36), some (.int (iz 0)), some (.int (iz r_36)), some (.int (iz 0)), some (.int (iz r_36))]) (st' := []) (h' := cxW (u2 (u2 (u2 z 3 2 pi) 3 3 len) 36 1 sz) (uf (uf (uf (uf f 4 w) 92 g) 93 lt_31) 94 g_37) C T rc tl) rfl ?_
    refine Rx.iinc (b := 1) rfl rfl rfl ?_
    refine Rx.walk 0 (pc' := 89) (L' := [some (.ref 91), some (.int (iz e)), some (.ref 36), some (.int (iz 0)), some (.int (iz r_36)), some (.int (iz 1)), some (.int (iz r_36))]) (st' := []) (h' := cxW (u2 (u2 (u2 z 3 2 pi) 3 3 len) 36 1 sz) (uf (uf (uf (uf f 4 w) 92 g) 93 lt_31) 94 g_37) C T rc tl) rfl ?_
    refine Rx.walk 5 (pc' := 17) (L' := [some (.ref 91), some (.int (iz e)), some (.ref 36), some (.int (iz 0)), some (.int (iz r_36)), some (.int (iz 1)), some (.int (iz r_36))]) (st' := [.int (iz pi), .int (iz 1)]) (h' := cxW (u2 (u2 (u2 z 3 2 pi) 3 3 len) 36 1 sz) (uf (uf (uf (uf f 4 w) 92 g) 93 lt_31) 94 g_37) C T rc tl) rfl ?_
    refine Rx.ge2 rfl rfl ⟨by omega, by omega⟩ ⟨by omega, by omega⟩ (fun b43 => ?_) (fun b43 => ?_)
    · refine Rx.walk 1 (pc' := 93) (L' := [some (.ref 91), some (.int (iz e)), some (.ref 36), some (.int (iz 0)), some (.int (iz r_36)), some (.int (iz 1)), some (.int (iz r_36))]) (st' := [.int (iz 0)]) (h' := cxW (u2 (u2 (u2 z 3 2 pi) 3 3 len) 36 1 sz) (uf (uf (uf (uf f 4 w) 92 g) 93 lt_31) 94 g_37) C T rc tl) rfl ?_
      refine Rx.ret rfl ?_
      refine ⟨_, _, _, rfl, rfl, ?_⟩
      unfold chP
      rw [if_pos (by omega), if_neg (by omega)]
    · refine Rx.walk 2 (pc' := 23) (L' := [some (.ref 91), some (.int (iz e)), some (.ref 36), some (.int (iz 0)), some (.int (iz r_36)), some (.int (iz 1)), some (.int (iz r_36))]) (st' := [.int (iz 2), .int (iz 1)]) (h' := cxW (u2 (u2 (u2 z 3 2 pi) 3 3 len) 36 1 sz) (uf (uf (uf (uf f 4 w) 92 g) 93 lt_31) 94 g_37) C T rc tl) rfl ?_
      refine Rx.ge2 rfl rfl ⟨by omega, by omega⟩ ⟨by omega, by omega⟩ (fun b44 => by omega) (fun b44 => ?_)
      refine Rx.walk 3 (pc' := 32) (L' := [some (.ref 91), some (.int (iz e)), some (.ref 36), some (.int (iz 0)), some (.int (iz r_36)), some (.int (iz 1)), some (.int (iz r_36))]) (st' := [.int (iz 1), .ref 92]) (h' := cxW (u2 (u2 (u2 z 3 2 pi) 3 3 len) 36 1 sz) (uf (uf (uf (uf f 4 w) 92 g) 93 lt_31) 94 g_37) C T rc tl) rfl ?_
      refine Rx.ial (g := g) rfl rfl (by omega) (by omega) (by omega) ?_
      refine Rx.callx (m' := m_X10_height) (as := [.int (iz (g 1))]) (rest := []) rfl (n_height _ (cxW (u2 (u2 (u2 z 3 2 pi) 3 3 len) 36 1 sz) (uf (uf (uf (uf f 4 w) 92 g) 93 lt_31) 94 g_37) C T rc tl)  (g 1) ⟨by omega, by omega⟩) (fun v47 h48 q49 => ?_)
      obtain ⟨r_45, rfl, rfl, f46⟩ := q49
      refine Rx.walk 0 (pc' := 36) (L' := [some (.ref 91), some (.int (iz e)), some (.ref 36), some (.int (iz 0)), some (.int (iz r_36)), some (.int (iz 1)), some (.int (iz r_36))]) (st' := [.int (iz r_45)]) (h' := cxW (u2 (u2 (u2 z 3 2 pi) 3 3 len) 36 1 sz) (uf (uf (uf (uf f 4 w) 92 g) 93 lt_31) 94 g_37) C T rc tl) rfl ?_
      refine Rx.walk 3 (pc' := 43) (L' := [some (.ref 91), some (.int (iz e)), some (.ref 36), some (.int (iz 0)), some (.int (iz r_36)), some (.int (iz 1)), some (.int (iz r_36))]) (st' := [.int (iz len), .int (iz r_45)]) (h' := cxW (u2 (u2 (u2 z 3 2 pi) 3 3 len) 36 1 sz) (uf (uf (uf (uf f 4 w) 92 g) 93 lt_31) 94 g_37) C T rc tl) rfl ?_
      refine Rx.ge2 rfl rfl ⟨by omega, by omega⟩ ⟨by omega, by omega⟩ (fun b50 => ?_) (fun b50 => ?_)
      · refine Rx.iinc (b := 1) rfl rfl rfl ?_
        refine Rx.walk 0 (pc' := 89) (L' := [some (.ref 91), some (.int (iz e)), some (.ref 36), some (.int (iz 0)), some (.int (iz r_36)), some (.int (iz 2)), some (.int (iz r_36))]) (st' := []) (h' := cxW (u2 (u2 (u2 z 3 2 pi) 3 3 len) 36 1 sz) (uf (uf (uf (uf f 4 w) 92 g) 93 lt_31) 94 g_37) C T rc tl) rfl ?_
        refine Rx.walk 5 (pc' := 17) (L' := [some (.ref 91), some (.int (iz e)), some (.ref 36), some (.int (iz 0)), some (.int (iz r_36)), some (.int (iz 2)), some (.int (iz r_36))]) (st' := [.int (iz pi), .int (iz 2)]) (h' := cxW (u2 (u2 (u2 z 3 2 pi) 3 3 len) 36 1 sz) (uf (uf (uf (uf f 4 w) 92 g) 93 lt_31) 94 g_37) C T rc tl) rfl ?_
        refine Rx.ge2 rfl rfl ⟨by omega, by omega⟩ ⟨by omega, by omega⟩ (fun b51 => ?_) (fun b51 => by omega)
        refine Rx.walk 1 (pc' := 93) (L' := [some (.ref 91), some (.int (iz e)), some (.ref 36), some (.int (iz 0)), some (.int (iz r_36)), some (.int (iz 2)), some (.int (iz r_36))]) (st' := [.int (iz 0)]) (h' := cxW (u2 (u2 (u2 z 3 2 pi) 3 3 len) 36 1 sz) (uf (uf (uf (uf f 4 w) 92 g) 93 lt_31) 94 g_37) C T rc tl) rfl ?_
        refine Rx.ret rfl ?_
        refine ⟨_, _, _, rfl, rfl, ?_⟩
        unfold chP
        rw [if_pos (by omega), if_neg (by omega)]
      · refine Rx.walk 3 (pc' := 50) (L' := [some (.ref 91), some (.int (iz e)), some (.ref 36), some (.int (iz 0)), some (.int (iz r_36)), some (.int (iz 1)), some (.int (iz r_36))]) (st' := [.int (iz 1), .int (iz e), .ref 91]) (h' := cxW (u2 (u2 (u2 z 3 2 pi) 3 3 len) 36 1 sz) (uf (uf (uf (uf f 4 w) 92 g) 93 lt_31) 94 g_37) C T rc tl) rfl ?_
        refine Rx.callx (m' := m_X1_setLetters) (as := [.ref 91, .int (iz e), .int (iz 1)]) (rest := []) rfl (x_setL1 _ (u2 (u2 (u2 z 3 2 pi) 3 3 len) 36 1 sz) (uf f 94 g_37) C T rc tl  e w g lt_31 hw ⟨by omega, by omega⟩ hg0 hg1) (fun v54 h55 q56 => ?_)
        obtain ⟨lt_52, rfl, rfl, f53⟩ := q56
        refine Rx.walk 0 (pc' := 53) (L' := [some (.ref 91), some (.int (iz e)), some (.ref 36), some (.int (iz 0)), some (.int (iz r_36)), some (.int (iz 1)), some (.int (iz r_36))]) (st' := []) (h' := cxW (u2 (u2 (u2 z 3 2 pi) 3 3 len) 36 1 sz) (uf (uf (uf (uf f 4 w) 92 g) 93 lt_52) 94 g_37) C T rc tl) rfl ?_
        refine Rx.walk 5 (pc' := 62) (L' := [some (.ref 91), some (.int (iz e)), some (.ref 36), some (.int (iz 0)), some (.int (iz r_36)), some (.int (iz 1)), some (.int (iz r_36))]) (st' := [.ref 94, .ref 93, .ref 36]) (h' := cxW (u2 (u2 (u2 z 3 2 pi) 3 3 len) 36 1 sz) (uf (uf (uf (uf f 4 w) 92 g) 93 lt_52) 94 g_37) C T rc tl) rfl ?_
        have hc2 : bdL (ltB w e 1 (g 1) (g 0)) := ltB_b hw ⟨by omega, by omega⟩ ⟨by omega, by omega⟩ hg1.1
        have hb2 := bdL_eq (fun j a b => (f53 j a b).symm) hc2
        refine Rx.callx (m' := m_X6_worth) (as := [.ref 36, .ref 93, .ref 94]) (rest := []) rfl (x_worth36 _ (u2 (u2 z 3 2 pi) 3 3 len) (uf (uf f 4 w) 92 g) C T rc tl  sz ln cd lt_52 g_37 hrc hsz hcb hb2 (hV _ hb2).1) (fun v60 h61 q62 => ?_)
        obtain ⟨r_57, g_58, rfl, rfl, f59⟩ := q62
        refine Rx.walk 0 (pc' := 65) (L' := [some (.ref 91), some (.int (iz e)), some (.ref 36), some (.int (iz 0)), some (.int (iz r_36)), some (.int (iz 1)), some (.int (iz r_36))]) (st' := [.int (iz r_57)]) (h' := cxW (u2 (u2 (u2 z 3 2 pi) 3 3 len) 36 1 sz) (uf (uf (uf (uf f 4 w) 92 g) 93 lt_52) 94 g_58) C T rc tl) rfl ?_
        have hv2 : r_57 = V (ltB w e 1 (g 1) (g 0)) := by rw [f59, ← (hV _ hb2).2.1]; exact ruV_congr hV hb2 f53
        obtain ⟨hu2, hx2⟩ := (hV _ hc2).2.2
        rw [← hv2] at hu2 hx2
        refine Rx.walk 3 (pc' := 69) (L' := [some (.ref 91), some (.int (iz e)), some (.ref 36), some (.int (iz 0)), some (.int (iz r_36)), some (.int (iz 1)), some (.int (iz r_57))]) (st' := [.int (iz (-1)), .int (iz 0)]) (h' := cxW (u2 (u2 (u2 z 3 2 pi) 3 3 len) 36 1 sz) (uf (uf (uf (uf f 4 w) 92 g) 93 lt_52) 94 g_58) C T rc tl) rfl ?_
        refine Rx.eq2 rfl rfl ⟨by omega, by omega⟩ ⟨by omega, by omega⟩ (fun b63 => by omega) (fun b63 => ?_)
        refine Rx.walk 2 (pc' := 76) (L' := [some (.ref 91), some (.int (iz e)), some (.ref 36), some (.int (iz 0)), some (.int (iz r_36)), some (.int (iz 1)), some (.int (iz r_57))]) (st' := [.int (iz r_36), .int (iz r_57)]) (h' := cxW (u2 (u2 (u2 z 3 2 pi) 3 3 len) 36 1 sz) (uf (uf (uf (uf f 4 w) 92 g) 93 lt_52) 94 g_58) C T rc tl) rfl ?_
        refine Rx.le2 rfl rfl ⟨by omega, by omega⟩ ⟨by omega, by omega⟩ (fun b64 => ?_) (fun b64 => ?_)
        · refine Rx.iinc (b := 1) rfl rfl rfl ?_
          refine Rx.walk 0 (pc' := 89) (L' := [some (.ref 91), some (.int (iz e)), some (.ref 36), some (.int (iz 0)), some (.int (iz r_36)), some (.int (iz 2)), some (.int (iz r_57))]) (st' := []) (h' := cxW (u2 (u2 (u2 z 3 2 pi) 3 3 len) 36 1 sz) (uf (uf (uf (uf f 4 w) 92 g) 93 lt_52) 94 g_58) C T rc tl) rfl ?_
          refine Rx.walk 5 (pc' := 17) (L' := [some (.ref 91), some (.int (iz e)), some (.ref 36), some (.int (iz 0)), some (.int (iz r_36)), some (.int (iz 2)), some (.int (iz r_57))]) (st' := [.int (iz pi), .int (iz 2)]) (h' := cxW (u2 (u2 (u2 z 3 2 pi) 3 3 len) 36 1 sz) (uf (uf (uf (uf f 4 w) 92 g) 93 lt_52) 94 g_58) C T rc tl) rfl ?_
          refine Rx.ge2 rfl rfl ⟨by omega, by omega⟩ ⟨by omega, by omega⟩ (fun b65 => ?_) (fun b65 => by omega)
          refine Rx.walk 1 (pc' := 93) (L' := [some (.ref 91), some (.int (iz e)), some (.ref 36), some (.int (iz 0)), some (.int (iz r_36)), some (.int (iz 2)), some (.int (iz r_57))]) (st' := [.int (iz 0)]) (h' := cxW (u2 (u2 (u2 z 3 2 pi) 3 3 len) 36 1 sz) (uf (uf (uf (uf f 4 w) 92 g) 93 lt_52) 94 g_58) C T rc tl) rfl ?_
          refine Rx.ret rfl ?_
          refine ⟨_, _, _, rfl, rfl, ?_⟩
          unfold chP
          rw [if_pos (by omega), if_pos ⟨by omega, by omega⟩, ← hv1, ← hv2, if_neg (by omega)]
        · refine Rx.walk 4 (pc' := 86) (L' := [some (.ref 91), some (.int (iz e)), some (.ref 36), some (.int (iz 1)), some (.int (iz r_57)), some (.int (iz 1)), some (.int (iz r_57))]) (st' := []) (h' := cxW (u2 (u2 (u2 z 3 2 pi) 3 3 len) 36 1 sz) (uf (uf (uf (uf f 4 w) 92 g) 93 lt_52) 94 g_58) C T rc tl) rfl ?_
          refine Rx.iinc (b := 1) rfl rfl rfl ?_
          refine Rx.walk 0 (pc' := 89) (L' := [some (.ref 91), some (.int (iz e)), some (.ref 36), some (.int (iz 1)), some (.int (iz r_57)), some (.int (iz 2)), some (.int (iz r_57))]) (st' := []) (h' := cxW (u2 (u2 (u2 z 3 2 pi) 3 3 len) 36 1 sz) (uf (uf (uf (uf f 4 w) 92 g) 93 lt_52) 94 g_58) C T rc tl) rfl ?_
          refine Rx.walk 5 (pc' := 17) (L' := [some (.ref 91), some (.int (iz e)), some (.ref 36), some (.int (iz 1)), some (.int (iz r_57)), some (.int (iz 2)), some (.int (iz r_57))]) (st' := [.int (iz pi), .int (iz 2)]) (h' := cxW (u2 (u2 (u2 z 3 2 pi) 3 3 len) 36 1 sz) (uf (uf (uf (uf f 4 w) 92 g) 93 lt_52) 94 g_58) C T rc tl) rfl ?_
          refine Rx.ge2 rfl rfl ⟨by omega, by omega⟩ ⟨by omega, by omega⟩ (fun b66 => ?_) (fun b66 => by omega)
          refine Rx.walk 1 (pc' := 93) (L' := [some (.ref 91), some (.int (iz e)), some (.ref 36), some (.int (iz 1)), some (.int (iz r_57)), some (.int (iz 2)), some (.int (iz r_57))]) (st' := [.int (iz 1)]) (h' := cxW (u2 (u2 (u2 z 3 2 pi) 3 3 len) 36 1 sz) (uf (uf (uf (uf f 4 w) 92 g) 93 lt_52) 94 g_58) C T rc tl) rfl ?_
          refine Rx.ret rfl ?_
          refine ⟨_, _, _, rfl, rfl, ?_⟩
          unfold chP
          rw [if_pos (by omega), if_pos ⟨by omega, by omega⟩, ← hv1, ← hv2, if_pos (by omega)]
set_option maxRecDepth 100000 in
set_option maxHeartbeats 4000000 in
theorem x_tillB_l36 (d : Nat) (z : Nat → Nat → Int) (f : Nat → Int → Int) (C : Nat → CuR) (T : Nat → TsR) (rc : Nat → Nat) (tl : AmH)  (v : Int) (ci : Int) (j : Nat) (st : Int) (Rz : Int × Int × Int) (pi : Int) (len : Int) (w : Int → Int) (sz : Int) (ln : Nat) (cd : Int → Int) (V : (Int → Int) → Int) (hw : wOK w) (hpi : pi = 1 ∨ pi = 2) (hlen : 1 ≤ len ∧ len ≤ 5) (hrc : 98 ≤ rc 36 ∧ am_nth tl (rc 36 - 98) = some (.inl (.int, ln, .inl (av cd)))) (hsz : 0 ≤ sz ∧ sz ≤ 161 ∧ sz = (ln : Int)) (hcb : ∀ j : Int, 0 ≤ j → j < sz → sgB (cd j)) (hV : ruV V (crem cd 0 sz.toNat)) (hj : j < 4) (hcu : cuI (C j)) (hch : 0 ≤ ((C j).2.2.2.2.2.2.2) ∧ ((C j).2.2.2.2.2.2.2) < (C j).2.2.2.1) (hst : st = ((C j).2.2.2.2.2.2.2) * 4) (P : Option Value → AmH → Prop) (hx0 : ∀ (g' : Int → Int) (lt' : Int → Int) (sk' : Int → Int), (Rz.1 = 0) → P (some (.int (iz (-1)))) (cxW (u2 (u2 (u2 z 3 2 pi) 3 3 len) 36 1 sz) (uf (uf (uf (uf f 4 w) 92 g') 93 lt') 94 sk') C T rc tl)) (hx1 : ∀ (i' : Int) (g' : Int → Int) (lt' : Int → Int) (sk' : Int → Int) (x7' : Option Value) (x8' : Option Value), (Rz.1 = 1 ∧ g' 0 = Rz.2.1 ∧ g' 1 = Rz.2.2) → ((0 ≤ g' 0 ∧ g' 0 < 3125) ∧ (0 ≤ g' 1 ∧ g' 1 < 3125)) → Rx (d + 4) m_X1_tillBehind 155 [some (.ref 91), some (.int (iz v)), some (.int (iz ci)), some (.ref 36), some (.ref (cpl j)), some (.int (iz st)), some (.int (iz i')), x7', x8'] [] (cxW (u2 (u2 (u2 z 3 2 pi) 3 3 len) 36 1 sz) (uf (uf (uf (uf f 4 w) 92 g') 93 lt') 94 sk') C T rc tl) P) : ∀ (kF : Nat) (i : Int) (g : Int → Int) (lt : Int → Int) (sk : Int → Int) (w7 : Option Value) (w8 : Option Value), (0 ≤ i ∧ i ≤ (C j).2.2.2.2.2.1 ((C j).2.2.2.2.2.2.2)) → (0 ≤ g 0 ∧ g 0 < 3125) → (0 ≤ g 1 ∧ g 1 < 3125) → (Rz = puB V w pi len (hnd (C j) ((C j).2.2.2.2.2.2.2) i) (g 0) (g 1)) → ((C j).2.2.2.2.2.1 ((C j).2.2.2.2.2.2.2) - i) < (kF : Int) → Rx (d + 4) m_X1_tillBehind 84 [some (.ref 91), some (.int (iz v)), some (.int (iz ci)), some (.ref 36), some (.ref (cpl j)), some (.int (iz st)), some (.int (iz i)), w7, w8] [] (cxW (u2 (u2 (u2 z 3 2 pi) 3 3 len) 36 1 sz) (uf (uf (uf (uf f 4 w) 92 g) 93 lt) 94 sk) C T rc tl) P := by
  obtain ⟨hq1, hq2, hq3⟩ := id hcu
  obtain ⟨hc1, hc2⟩ := id hch
  obtain ⟨hd1, hd2, hd3, hd4, hd5⟩ := hq3 ((C j).2.2.2.2.2.2.2) hc1 hc2
  intro kF
  induction kF with
  | zero =>
    intro i g lt sk w7 w8 hi hg0 hg1 hP hk
    exfalso; omega
  | succ kF ih =>
    intro i g lt sk w7 w8 hi hg0 hg1 hP hk
    refine Rx.walk 2 (pc' := 88) (L' := [some (.ref 91), some (.int (iz v)), some (.int (iz ci)), some (.ref 36), some (.ref (cpl j)), some (.int (iz st)), some (.int (iz i)), w7, w8]) (st' := [.ref (cpl j), .int (iz i)]) (h' := cxW (u2 (u2 (u2 z 3 2 pi) 3 3 len) 36 1 sz) (uf (uf (uf (uf f 4 w) 92 g) 93 lt) 94 sk) C T rc tl) rfl ?_
    refine Rx.gfS rfl rfl (cW_C (by omega)) rfl ?_
    refine Rx.walk 1 (pc' := 93) (L' := [some (.ref 91), some (.int (iz v)), some (.int (iz ci)), some (.ref 36), some (.ref (cpl j)), some (.int (iz st)), some (.int (iz i)), w7, w8]) (st' := [.ref (cpl j), .ref (cpl j + 3), .int (iz i)]) (h' := cxW (u2 (u2 (u2 z 3 2 pi) 3 3 len) 36 1 sz) (uf (uf (uf (uf f 4 w) 92 g) 93 lt) 94 sk) C T rc tl) rfl ?_
    refine Rx.gfS rfl rfl (cW_C (by omega)) rfl ?_
    refine Rx.ial (g := ((C j).2.2.2.2.2.1)) rfl (cW_C3 (by omega)) (by omega) (by omega) (by omega) ?_
    refine Rx.ge2 rfl rfl ⟨by omega, by omega⟩ ⟨by omega, by omega⟩ (fun b1 => ?_) (fun b1 => ?_)
    · exact hx1 _ _ _ _ _ _ (by rw [hnd_e (by omega)] at hP; rw [hP]; exact ⟨rfl, rfl, rfl⟩) ⟨hg0, hg1⟩
    · refine Rx.walk 1 (pc' := 102) (L' := [some (.ref 91), some (.int (iz v)), some (.int (iz ci)), some (.ref 36), some (.ref (cpl j)), some (.int (iz st)), some (.int (iz i)), w7, w8]) (st' := [.ref (cpl j)]) (h' := cxW (u2 (u2 (u2 z 3 2 pi) 3 3 len) 36 1 sz) (uf (uf (uf (uf f 4 w) 92 g) 93 lt) 94 sk) C T rc tl) rfl ?_
      refine Rx.gfS rfl rfl (cW_C (by omega)) rfl ?_
      refine Rx.walk 2 (pc' := 109) (L' := [some (.ref 91), some (.int (iz v)), some (.int (iz ci)), some (.ref 36), some (.ref (cpl j)), some (.int (iz st)), some (.int (iz i)), w7, w8]) (st' := [.int (iz i), .int (iz st), .ref (cpl j + 2)]) (h' := cxW (u2 (u2 (u2 z 3 2 pi) 3 3 len) 36 1 sz) (uf (uf (uf (uf f 4 w) 92 g) 93 lt) 94 sk) C T rc tl) rfl ?_
      refine Rx.iadd rfl ?_
      refine Rx.ial (g := ((C j).2.2.2.2.1)) rfl (cW_C2 (by omega)) (by omega) (by omega) (by omega) ?_
      have hix : (st + i) = ((C j).2.2.2.2.2.2.2) * 4 + i := by omega
      obtain ⟨e, he⟩ : ∃ e, e = (C j).2.2.2.2.1 (((C j).2.2.2.2.2.2.2) * 4 + i) := ⟨_, rfl⟩
      rw [show (((C j).2.2.2.2.1) (st + i)) = e from by rw [hix]; exact he.symm]
      have heb := hd5 i (by omega) (by omega)
      rw [← he] at heb
      rw [hnd_s (by omega), ← he] at hP
      refine Rx.walk 4 (pc' := 117) (L' := [some (.ref 91), some (.int (iz v)), some (.int (iz ci)), some (.ref 36), some (.ref (cpl j)), some (.int (iz st)), some (.int (iz i)), some (.int (iz e)), w8]) (st' := [.ref 36, .int (iz e), .ref 91]) (h' := cxW (u2 (u2 (u2 z 3 2 pi) 3 3 len) 36 1 sz) (uf (uf (uf (uf f 4 w) 92 g) 93 lt) 94 sk) C T rc tl) rfl ?_
      refine Rx.callx (m' := m_X1_chosenPipe) (as := [.ref 91, .int (iz e), .ref 36]) (rest := []) rfl (x_chosenP36 _ z f C T rc tl  e g pi len w lt sk sz ln cd V hw hpi hlen hrc hsz hcb hV heb hg0 hg1) (fun v6 h7 q8 => ?_)
      obtain ⟨r_2, lt_3, sk_4, rfl, rfl, f5⟩ := q8
      refine Rx.walk 0 (pc' := 120) (L' := [some (.ref 91), some (.int (iz v)), some (.int (iz ci)), some (.ref 36), some (.ref (cpl j)), some (.int (iz st)), some (.int (iz i)), some (.int (iz e)), w8]) (st' := [.int (iz r_2)]) (h' := cxW (u2 (u2 (u2 z 3 2 pi) 3 3 len) 36 1 sz) (uf (uf (uf (uf f 4 w) 92 g) 93 lt_3) 94 sk_4) C T rc tl) rfl ?_
      have hcc := chP_c V w pi len e (g 0) (g 1)
      rw [← f5] at hcc
      have hq0 := ht_c (g 0)
      have hq1 := ht_c (g 1)
      refine Rx.walk 3 (pc' := 125) (L' := [some (.ref 91), some (.int (iz v)), some (.int (iz ci)), some (.ref 36), some (.ref (cpl j)), some (.int (iz st)), some (.int (iz i)), some (.int (iz e)), some (.int (iz r_2))]) (st' := [.int (iz (-1)), .int (iz r_2)]) (h' := cxW (u2 (u2 (u2 z 3 2 pi) 3 3 len) 36 1 sz) (uf (uf (uf (uf f 4 w) 92 g) 93 lt_3) 94 sk_4) C T rc tl) rfl ?_
      refine Rx.ne2 rfl rfl ⟨by omega, by omega⟩ ⟨by omega, by omega⟩ (fun b9 => ?_) (fun b9 => ?_)
      · refine Rx.walk 6 (pc' := 142) (L' := [some (.ref 91), some (.int (iz v)), some (.int (iz ci)), some (.ref 36), some (.ref (cpl j)), some (.int (iz st)), some (.int (iz i)), some (.int (iz e)), some (.int (iz r_2))]) (st' := [.int (iz r_2), .ref 92, .int (iz r_2), .ref 92]) (h' := cxW (u2 (u2 (u2 z 3 2 pi) 3 3 len) 36 1 sz) (uf (uf (uf (uf f 4 w) 92 g) 93 lt_3) 94 sk_4) C T rc tl) rfl ?_
        refine Rx.ial (g := g) rfl rfl (by omega) (by omega) (by omega) ?_
        refine Rx.walk 1 (pc' := 144) (L' := [some (.ref 91), some (.int (iz v)), some (.int (iz ci)), some (.ref 36), some (.ref (cpl j)), some (.int (iz st)), some (.int (iz i)), some (.int (iz e)), some (.int (iz r_2))]) (st' := [.int (iz 5), .int (iz (g r_2)), .int (iz r_2), .ref 92]) (h' := cxW (u2 (u2 (u2 z 3 2 pi) 3 3 len) 36 1 sz) (uf (uf (uf (uf f 4 w) 92 g) 93 lt_3) 94 sk_4) C T rc tl) rfl ?_
        refine Rx.imul rfl ?_
        refine Rx.walk 1 (pc' := 147) (L' := [some (.ref 91), some (.int (iz v)), some (.int (iz ci)), some (.ref 36), some (.ref (cpl j)), some (.int (iz st)), some (.int (iz i)), some (.int (iz e)), some (.int (iz r_2))]) (st' := [.int (iz e), .int (iz ((g r_2) * 5)), .int (iz r_2), .ref 92]) (h' := cxW (u2 (u2 (u2 z 3 2 pi) 3 3 len) 36 1 sz) (uf (uf (uf (uf f 4 w) 92 g) 93 lt_3) 94 sk_4) C T rc tl) rfl ?_
        refine Rx.iadd rfl ?_
        refine Rx.ias (g := g) (h' := cxW (u2 (u2 (u2 z 3 2 pi) 3 3 len) 36 1 sz) (uf (uf (uf (uf f 4 w) 92 (iu g r_2 (((g r_2) * 5) + e))) 93 lt_3) 94 sk_4) C T rc tl) rfl rfl (by omega) (by omega) (by omega) rfl ?_
        refine Rx.iinc (b := 1) rfl rfl rfl ?_
        refine Rx.walk 0 (pc' := 152) (L' := [some (.ref 91), some (.int (iz v)), some (.int (iz ci)), some (.ref 36), some (.ref (cpl j)), some (.int (iz st)), some (.int (iz (i + 1))), some (.int (iz e)), some (.int (iz r_2))]) (st' := []) (h' := cxW (u2 (u2 (u2 z 3 2 pi) 3 3 len) 36 1 sz) (uf (uf (uf (uf f 4 w) 92 (iu g r_2 (((g r_2) * 5) + e))) 93 lt_3) 94 sk_4) C T rc tl) rfl ?_
        refine Rx.walk 1 (pc' := 84) (L' := [some (.ref 91), some (.int (iz v)), some (.int (iz ci)), some (.ref 36), some (.ref (cpl j)), some (.int (iz st)), some (.int (iz (i + 1))), some (.int (iz e)), some (.int (iz r_2))]) (st' := []) (h' := cxW (u2 (u2 (u2 z 3 2 pi) 3 3 len) 36 1 sz) (uf (uf (uf (uf f 4 w) 92 (iu g r_2 (((g r_2) * 5) + e))) 93 lt_3) 94 sk_4) C T rc tl) rfl ?_
        exact ih (i + 1) (iu g r_2 (((g r_2) * 5) + e)) lt_3 sk_4 (some (.int (iz e))) (some (.int (iz r_2))) ⟨by omega, by omega⟩ (by rcases hcc with q | q | q; (rw [q.1]; rw [iu_at]; exact ⟨by omega, by omega⟩); (rw [q.1]; rw [iu_ne _ _ (by decide)]; exact hg0); (exfalso; omega)) (by rcases hcc with q | q | q; (rw [q.1]; rw [iu_ne _ _ (by decide)]; exact hg1); (rw [q.1]; rw [iu_at]; exact ⟨by omega, by omega⟩); (exfalso; omega)) (by rcases hcc with q | q | q; (rw [q.1]; rw [iu_at, iu_ne _ _ (by decide), ← puB_0 (show chP V w pi len e (g 0) (g 1) = 0 by rw [← f5]; exact q.1)]; exact hP); (rw [q.1]; rw [iu_at, iu_ne _ _ (by decide), ← puB_1 (show chP V w pi len e (g 0) (g 1) = 1 by rw [← f5]; exact q.1)]; exact hP); (exfalso; omega)) (by omega) 
      · refine Rx.walk 1 (pc' := 129) (L' := [some (.ref 91), some (.int (iz v)), some (.int (iz ci)), some (.ref 36), some (.ref (cpl j)), some (.int (iz st)), some (.int (iz i)), some (.int (iz e)), some (.int (iz r_2))]) (st' := [.int (iz (-1))]) (h' := cxW (u2 (u2 (u2 z 3 2 pi) 3 3 len) 36 1 sz) (uf (uf (uf (uf f 4 w) 92 g) 93 lt_3) 94 sk_4) C T rc tl) rfl ?_
        refine Rx.ret rfl ?_
        exact hx0 _ _ _ (by rw [hP, puB_c (by rw [← f5]; omega)])
set_option maxRecDepth 100000 in
set_option maxHeartbeats 4000000 in
theorem x_tillB36 (d : Nat) (z : Nat → Nat → Int) (f : Nat → Int → Int) (C : Nat → CuR) (T : Nat → TsR) (rc : Nat → Nat) (tl : AmH)  (v : Int) (ci : Int) (g : Int → Int) (t : Int) (pi : Int) (len : Int) (w : Int → Int) (lt : Int → Int) (sk : Int → Int) (sz : Int) (ln : Nat) (cd : Int → Int) (V : (Int → Int) → Int) (hw : wOK w) (hpi : pi = 1 ∨ pi = 2) (hlen : 1 ≤ len ∧ len ≤ 5) (hrc : 98 ≤ rc 36 ∧ am_nth tl (rc 36 - 98) = some (.inl (.int, ln, .inl (av cd)))) (hsz : 0 ≤ sz ∧ sz ≤ 161 ∧ sz = (ln : Int)) (hcb : ∀ j : Int, 0 ≤ j → j < sz → sgB (cd j)) (hV : ruV V (crem cd 0 sz.toNat)) (hci : 0 ≤ ci ∧ ci < 4) (hv : 0 ≤ v ∧ v < 156250000) (hvt : v % 16 = tw (dgt (v % 16)) ∧ 0 ≤ dgt (v % 16) ∧ dgt (v % 16) ≤ 4) (hcu : cuI (C ci.toNat)) (hch : ((C ci.toNat).2.2.2.2.2.2.2) = -1 ∨ (0 ≤ ((C ci.toNat).2.2.2.2.2.2.2) ∧ ((C ci.toNat).2.2.2.2.2.2.2) < (C ci.toNat).2.2.2.1)) : Rx (d + 5) m_X1_tillBehind 0 (am_ent [.ref 91, .int (iz v), .int (iz ci), .ref 36] 9) [] (cxW (u2 (u2 (u2 (u2 z 3 2 pi) 3 3 len) 36 1 sz) 91 3 t) (uf (uf (uf (uf f 4 w) 92 g) 93 lt) 94 sk) C T rc tl) (fun rv h => ∃ r : Int, ∃ g' : Int → Int, ∃ t' : Int, ∃ lt' : Int → Int, ∃ sk' : Int → Int, rv = some (.int (iz r)) ∧ h = cxW (u2 (u2 (u2 (u2 z 3 2 pi) 3 3 len) 36 1 sz) 91 3 t') (uf (uf (uf (uf f 4 w) 92 g') 93 lt') 94 sk') C T rc tl ∧ r = tbN V w pi len (hOf (C ci.toNat)) v) := by
  refine Rx.walk 0 (pc' := 0) (L' := [some (.ref 91), some (.int (iz v)), some (.int (iz ci)), some (.ref 36), none, none, none, none, none]) (st' := []) (h' := cxW (u2 (u2 (u2 (u2 z 3 2 pi) 3 3 len) 36 1 sz) 91 3 t) (uf (uf (uf (uf f 4 w) 92 g) 93 lt) 94 sk) C T rc tl) rfl ?_
  refine Rx.walk 3 (pc' := 5) (L' := [some (.ref 91), some (.int (iz v)), some (.int (iz ci)), some (.ref 36), none, none, none, none, none]) (st' := [.int (iz ci), .ref 14]) (h' := cxW (u2 (u2 (u2 (u2 z 3 2 pi) 3 3 len) 36 1 sz) 91 3 t) (uf (uf (uf (uf f 4 w) 92 g) 93 lt) 94 sk) C T rc tl) rfl ?_
  obtain ⟨j1, hj1⟩ := Int.eq_ofNat_of_zero_le (show 0 ≤ ci by omega)
  refine Rx.aal j1 rfl rfl rfl hj1 (by omega) (by omega) (cus_at (by omega)) ?_
  have hcj : ci.toNat = j1 := by omega
  rw [hcj] at hcu hch
  have hcq := hcu.1
  have hcq2 := hcu.2.1
  refine Rx.walk 2 (pc' := 10) (L' := [some (.ref 91), some (.int (iz v)), some (.int (iz ci)), some (.ref 36), some (.ref (cpl j1)), none, none, none, none]) (st' := [.ref (cpl j1)]) (h' := cxW (u2 (u2 (u2 (u2 z 3 2 pi) 3 3 len) 36 1 sz) 91 3 t) (uf (uf (uf (uf f 4 w) 92 g) 93 lt) 94 sk) C T rc tl) rfl ?_
  refine Rx.gfS rfl rfl (cW_C (by omega)) rfl ?_
  refine Rx.walk 1 (pc' := 14) (L' := [some (.ref 91), some (.int (iz v)), some (.int (iz ci)), some (.ref 36), some (.ref (cpl j1)), none, none, none, none]) (st' := [.int (iz (-1)), .int (iz ((C j1).2.2.2.2.2.2.2))]) (h' := cxW (u2 (u2 (u2 (u2 z 3 2 pi) 3 3 len) 36 1 sz) 91 3 t) (uf (uf (uf (uf f 4 w) 92 g) 93 lt) 94 sk) C T rc tl) rfl ?_
  refine Rx.ne2 rfl rfl ⟨by omega, by omega⟩ ⟨by omega, by omega⟩ (fun b2 => ?_) (fun b2 => ?_)
  · replace hch := hch.elim (fun q => absurd q (by omega)) id
    obtain ⟨hq1, hq2, hq3⟩ := id hcu
    obtain ⟨hc1, hc2⟩ := id hch
    obtain ⟨hd1, hd2, hd3, hd4, hd5⟩ := hq3 ((C j1).2.2.2.2.2.2.2) hc1 hc2
    refine Rx.walk 5 (pc' := 26) (L' := [some (.ref 91), some (.int (iz v)), some (.int (iz ci)), some (.ref 36), some (.ref (cpl j1)), none, none, none, none]) (st' := [.int (iz 0), .int (iz v), .int (iz 0), .ref 92]) (h' := cxW (u2 (u2 (u2 (u2 z 3 2 pi) 3 3 len) 36 1 sz) 91 3 t) (uf (uf (uf (uf f 4 w) 92 g) 93 lt) 94 sk) C T rc tl) rfl ?_
    refine Rx.callx (m' := m_X10_pipeOf) (as := [.int (iz v), .int (iz 0)]) (rest := [.int (iz 0), .ref 92]) rfl (n_pipeOf _ (cxW (u2 (u2 (u2 (u2 z 3 2 pi) 3 3 len) 36 1 sz) 91 3 t) (uf (uf (uf (uf f 4 w) 92 g) 93 lt) 94 sk) C T rc tl)  v 0 (by first | assumption | omega) (by first | assumption | omega) ⟨by omega, by omega⟩) (fun v5 h6 q7 => ?_)
    obtain ⟨r_3, rfl, rfl, f4⟩ := q7
    refine Rx.walk 0 (pc' := 29) (L' := [some (.ref 91), some (.int (iz v)), some (.int (iz ci)), some (.ref 36), some (.ref (cpl j1)), none, none, none, none]) (st' := [.int (iz r_3), .int (iz 0), .ref 92]) (h' := cxW (u2 (u2 (u2 (u2 z 3 2 pi) 3 3 len) 36 1 sz) 91 3 t) (uf (uf (uf (uf f 4 w) 92 g) 93 lt) 94 sk) C T rc tl) rfl ?_
    refine Rx.ias (g := g) (h' := cxW (u2 (u2 (u2 (u2 z 3 2 pi) 3 3 len) 36 1 sz) 91 3 t) (uf (uf (uf (uf f 4 w) 92 (iu g 0 r_3)) 93 lt) 94 sk) C T rc tl) rfl rfl (by omega) (by omega) (by omega) rfl ?_
    refine Rx.walk 5 (pc' := 37) (L' := [some (.ref 91), some (.int (iz v)), some (.int (iz ci)), some (.ref 36), some (.ref (cpl j1)), none, none, none, none]) (st' := [.int (iz 1), .int (iz v), .int (iz 1), .ref 92]) (h' := cxW (u2 (u2 (u2 (u2 z 3 2 pi) 3 3 len) 36 1 sz) 91 3 t) (uf (uf (uf (uf f 4 w) 92 (iu g 0 r_3)) 93 lt) 94 sk) C T rc tl) rfl ?_
    refine Rx.callx (m' := m_X10_pipeOf) (as := [.int (iz v), .int (iz 1)]) (rest := [.int (iz 1), .ref 92]) rfl (n_pipeOf _ (cxW (u2 (u2 (u2 (u2 z 3 2 pi) 3 3 len) 36 1 sz) 91 3 t) (uf (uf (uf (uf f 4 w) 92 (iu g 0 r_3)) 93 lt) 94 sk) C T rc tl)  v 1 (by first | assumption | omega) (by first | assumption | omega) ⟨by omega, by omega⟩) (fun v10 h11 q12 => ?_)
    obtain ⟨r_8, rfl, rfl, f9⟩ := q12
    refine Rx.walk 0 (pc' := 40) (L' := [some (.ref 91), some (.int (iz v)), some (.int (iz ci)), some (.ref 36), some (.ref (cpl j1)), none, none, none, none]) (st' := [.int (iz r_8), .int (iz 1), .ref 92]) (h' := cxW (u2 (u2 (u2 (u2 z 3 2 pi) 3 3 len) 36 1 sz) 91 3 t) (uf (uf (uf (uf f 4 w) 92 (iu g 0 r_3)) 93 lt) 94 sk) C T rc tl) rfl ?_
    refine Rx.ias (g := (iu g 0 r_3)) (h' := cxW (u2 (u2 (u2 (u2 z 3 2 pi) 3 3 len) 36 1 sz) 91 3 t) (uf (uf (uf (uf f 4 w) 92 (iu (iu g 0 r_3) 1 r_8)) 93 lt) 94 sk) C T rc tl) rfl rfl (by omega) (by omega) (by omega) rfl ?_
    refine Rx.walk 2 (pc' := 43) (L' := [some (.ref 91), some (.int (iz v)), some (.int (iz ci)), some (.ref 36), some (.ref (cpl j1)), none, none, none, none]) (st' := [.int (iz v), .ref 91]) (h' := cxW (u2 (u2 (u2 (u2 z 3 2 pi) 3 3 len) 36 1 sz) 91 3 t) (uf (uf (uf (uf f 4 w) 92 (iu (iu g 0 r_3) 1 r_8)) 93 lt) 94 sk) C T rc tl) rfl ?_
    refine Rx.callx (m' := m_X10_trayOf) (as := [.int (iz v)]) (rest := [.ref 91]) rfl (n_trayOf _ (cxW (u2 (u2 (u2 (u2 z 3 2 pi) 3 3 len) 36 1 sz) 91 3 t) (uf (uf (uf (uf f 4 w) 92 (iu (iu g 0 r_3) 1 r_8)) 93 lt) 94 sk) C T rc tl)  v (by first | assumption | omega) (by first | assumption | omega)) (fun v15 h16 q17 => ?_)
    obtain ⟨r_13, rfl, rfl, f14⟩ := q17
    refine Rx.walk 0 (pc' := 46) (L' := [some (.ref 91), some (.int (iz v)), some (.int (iz ci)), some (.ref 36), some (.ref (cpl j1)), none, none, none, none]) (st' := [.int (iz r_13), .ref 91]) (h' := cxW (u2 (u2 (u2 (u2 z 3 2 pi) 3 3 len) 36 1 sz) 91 3 t) (uf (uf (uf (uf f 4 w) 92 (iu (iu g 0 r_3) 1 r_8)) 93 lt) 94 sk) C T rc tl) rfl ?_
    refine Rx.callx (m' := m_X10_digitOnTray) (as := [.int (iz r_13)]) (rest := [.ref 91]) rfl (n_digitOnTray _ (cxW (u2 (u2 (u2 (u2 z 3 2 pi) 3 3 len) 36 1 sz) 91 3 t) (uf (uf (uf (uf f 4 w) 92 (iu (iu g 0 r_3) 1 r_8)) 93 lt) 94 sk) C T rc tl)  r_13 (dgt (v % 16)) hvt.2.1 hvt.2.2 (by rw [f14]; exact hvt.1)) (fun v18 h19 q20 => ?_)
    obtain ⟨rfl, rfl⟩ := q20
    refine Rx.walk 0 (pc' := 49) (L' := [some (.ref 91), some (.int (iz v)), some (.int (iz ci)), some (.ref 36), some (.ref (cpl j1)), none, none, none, none]) (st' := [.int (iz (dgt (v % 16))), .ref 91]) (h' := cxW (u2 (u2 (u2 (u2 z 3 2 pi) 3 3 len) 36 1 sz) 91 3 t) (uf (uf (uf (uf f 4 w) 92 (iu (iu g 0 r_3) 1 r_8)) 93 lt) 94 sk) C T rc tl) rfl ?_
    refine Rx.walk 3 (pc' := 55) (L' := [some (.ref 91), some (.int (iz v)), some (.int (iz ci)), some (.ref 36), some (.ref (cpl j1)), none, none, none, none]) (st' := [.ref (cpl j1), .ref 91]) (h' := cxW (u2 (u2 (u2 (u2 z 3 2 pi) 3 3 len) 36 1 sz) 91 3 (dgt (v % 16))) (uf (uf (uf (uf f 4 w) 92 (iu (iu g 0 r_3) 1 r_8)) 93 lt) 94 sk) C T rc tl) rfl ?_
    refine Rx.gfS rfl rfl (cW_C (by omega)) rfl ?_
    refine Rx.walk 1 (pc' := 60) (L' := [some (.ref 91), some (.int (iz v)), some (.int (iz ci)), some (.ref 36), some (.ref (cpl j1)), none, none, none, none]) (st' := [.ref (cpl j1), .ref (cpl j1 + 4), .ref 91]) (h' := cxW (u2 (u2 (u2 (u2 z 3 2 pi) 3 3 len) 36 1 sz) 91 3 (dgt (v % 16))) (uf (uf (uf (uf f 4 w) 92 (iu (iu g 0 r_3) 1 r_8)) 93 lt) 94 sk) C T rc tl) rfl ?_
    refine Rx.gfS rfl rfl (cW_C (by omega)) rfl ?_
    refine Rx.ial (g := ((C j1).2.2.2.2.2.2.1)) rfl (cW_C4 (by omega)) (by omega) (by omega) (by omega) ?_
    have hz1 : 0 ≤ r_3 ∧ r_3 < 3125 := by have := f4; omega
    have hz2 : 0 ≤ r_8 ∧ r_8 < 3125 := by have := f9; omega
    refine Rx.callx (m' := m_X1_handsBack) (as := [.ref 91, .int (iz (((C j1).2.2.2.2.2.2.1) ((C j1).2.2.2.2.2.2.2)))]) (rest := []) rfl (x_handsB _ (u2 (u2 (u2 z 3 2 pi) 3 3 len) 36 1 sz) (uf (uf f 93 lt) 94 sk) C T rc tl  (((C j1).2.2.2.2.2.2.1) ((C j1).2.2.2.2.2.2.2)) w (iu (iu g 0 r_3) 1 r_8) (dgt (v % 16)) hw ⟨by omega, by omega⟩ (by simp only [iu_at, iu_ne _ _ (show (0 : Int) ≠ 1 by decide)]; exact hz1) (by simp only [iu_at]; exact hz2) ⟨by omega, by omega⟩) (fun v27 h28 q29 => ?_)
    obtain ⟨r_21, g_22, t_23, rfl, rfl, f24, f25, f26⟩ := q29
    refine Rx.walk 0 (pc' := 67) (L' := [some (.ref 91), some (.int (iz v)), some (.int (iz ci)), some (.ref 36), some (.ref (cpl j1)), none, none, none, none]) (st' := [.int (iz r_21)]) (h' := cxW (u2 (u2 (u2 (u2 z 3 2 pi) 3 3 len) 36 1 sz) 91 3 t_23) (uf (uf (uf (uf f 4 w) 92 g_22) 93 lt) 94 sk) C T rc tl) rfl ?_
    have hbx := f24
    simp only [iu_at, iu_ne _ _ (show (0 : Int) ≠ 1 by decide)] at hbx
    rw [show r_3 = v / 16 / 3125 by rcases f4 with q | q; exact q.2; (exfalso; omega), show r_8 = v / 16 % 3125 by rcases f9 with q | q; (exfalso; omega); exact q.2] at hbx
    have hby := f25
    refine Rx.ne1 rfl rfl ⟨by omega, by omega⟩ (fun b30 => ?_) (fun b30 => ?_)
    · refine Rx.walk 1 (pc' := 74) (L' := [some (.ref 91), some (.int (iz v)), some (.int (iz ci)), some (.ref 36), some (.ref (cpl j1)), none, none, none, none]) (st' := [.ref (cpl j1)]) (h' := cxW (u2 (u2 (u2 (u2 z 3 2 pi) 3 3 len) 36 1 sz) 91 3 t_23) (uf (uf (uf (uf f 4 w) 92 g_22) 93 lt) 94 sk) C T rc tl) rfl ?_
      refine Rx.gfS rfl rfl (cW_C (by omega)) rfl ?_
      refine Rx.walk 1 (pc' := 78) (L' := [some (.ref 91), some (.int (iz v)), some (.int (iz ci)), some (.ref 36), some (.ref (cpl j1)), none, none, none, none]) (st' := [.int (iz 4), .int (iz ((C j1).2.2.2.2.2.2.2))]) (h' := cxW (u2 (u2 (u2 (u2 z 3 2 pi) 3 3 len) 36 1 sz) 91 3 t_23) (uf (uf (uf (uf f 4 w) 92 g_22) 93 lt) 94 sk) C T rc tl) rfl ?_
      refine Rx.imul rfl ?_
      refine Rx.walk 3 (pc' := 84) (L' := [some (.ref 91), some (.int (iz v)), some (.int (iz ci)), some (.ref 36), some (.ref (cpl j1)), some (.int (iz (((C j1).2.2.2.2.2.2.2) * 4))), some (.int (iz 0)), none, none]) (st' := []) (h' := cxW (u2 (u2 (u2 (u2 z 3 2 pi) 3 3 len) 36 1 sz) 91 3 t_23) (uf (uf (uf (uf f 4 w) 92 g_22) 93 lt) 94 sk) C T rc tl) rfl ?_
      refine x_tillB_l36 _ (u2 z 91 3 t_23) f C T rc tl  v ci j1 (((C j1).2.2.2.2.2.2.2) * 4) (puB V w pi len (hnd (C j1) ((C j1).2.2.2.2.2.2.2) 0) (hbk w 11 (v / 16 / 3125) (v / 16 % 3125) (dgt (v % 16)) ((C j1).2.2.2.2.2.2.1 ((C j1).2.2.2.2.2.2.2))).2.1 (hbk w 11 (v / 16 / 3125) (v / 16 % 3125) (dgt (v % 16)) ((C j1).2.2.2.2.2.2.1 ((C j1).2.2.2.2.2.2.2))).2.2.1) pi len w sz ln cd V hw hpi hlen hrc hsz hcb hV (by omega) hcu hch rfl _ ?_ ?_ (((C j1).2.2.2.2.2.1 ((C j1).2.2.2.2.2.2.2) - 0) + 1 : Int).toNat 0 g_22 lt sk none none ⟨by omega, by omega⟩ (by have z := hby; exact z.1) (by have z := hby; exact z.2.1) (by rw [hbx.2.1, hbx.2.2.1]) (by omega) 
      · intro g_31 lt_32 sk_33 f34
        show (fun (rv : Option Value) (h : AmH) => ∃ r : Int, ∃ g' : Int → Int, ∃ t' : Int, ∃ lt' : Int → Int, ∃ sk' : Int → Int, rv = some (.int (iz r)) ∧ h = cxW (u2 (u2 (u2 (u2 z 3 2 pi) 3 3 len) 36 1 sz) 91 3 t') (uf (uf (uf (uf f 4 w) 92 g') 93 lt') 94 sk') C T rc tl ∧ r = tbN V w pi len (hOf (C ci.toNat)) v) (some (Value.int (iz (-1)))) (cxW (u2 (u2 (u2 (u2 z 3 2 pi) 3 3 len) 36 1 sz) 91 3 t_23) (uf (uf (uf (uf f 4 w) 92 g_31) 93 lt_32) 94 sk_33) C T rc tl)
        refine ⟨_, _, _, _, _, rfl, rfl, ?_⟩
        rw [hcj]
        unfold tbN
        rw [hOf_s (show ((C j1).2.2.2.2.2.2.2) ≠ -1 by omega)]
        rw [tbV_p (show (hbk w 11 (v / 16 / 3125) (v / 16 % 3125) (dgt (v % 16)) ((C j1).2.2.2.2.2.2.1 ((C j1).2.2.2.2.2.2.2))).1 ≠ 0 by rw [← (hbx).1]; omega) (show (puB V w pi len (hnd (C j1) ((C j1).2.2.2.2.2.2.2) 0) (hbk w 11 (v / 16 / 3125) (v / 16 % 3125) (dgt (v % 16)) ((C j1).2.2.2.2.2.2.1 ((C j1).2.2.2.2.2.2.2))).2.1 (hbk w 11 (v / 16 / 3125) (v / 16 % 3125) (dgt (v % 16)) ((C j1).2.2.2.2.2.2.1 ((C j1).2.2.2.2.2.2.2))).2.2.1).1 = 0 from f34)]
      · intro i_35 g_36 lt_37 sk_38 x7_39 x8_40 f41 f42
        refine Rx.walk 0 (pc' := 155) (L' := [some (.ref 91), some (.int (iz v)), some (.int (iz ci)), some (.ref 36), some (.ref (cpl j1)), some (.int (iz (((C j1).2.2.2.2.2.2.2) * 4))), some (.int (iz i_35)), x7_39, x8_40]) (st' := []) (h' := cxW (u2 (u2 (u2 (u2 z 3 2 pi) 3 3 len) 36 1 sz) 91 3 t_23) (uf (uf (uf (uf f 4 w) 92 g_36) 93 lt_37) 94 sk_38) C T rc tl) rfl ?_
        have hlx := f42
        refine Rx.walk 3 (pc' := 160) (L' := [some (.ref 91), some (.int (iz v)), some (.int (iz ci)), some (.ref 36), some (.ref (cpl j1)), some (.int (iz (((C j1).2.2.2.2.2.2.2) * 4))), some (.int (iz i_35)), x7_39, x8_40]) (st' := [.int (iz 0), .ref 92]) (h' := cxW (u2 (u2 (u2 (u2 z 3 2 pi) 3 3 len) 36 1 sz) 91 3 t_23) (uf (uf (uf (uf f 4 w) 92 g_36) 93 lt_37) 94 sk_38) C T rc tl) rfl ?_
        refine Rx.ial (g := g_36) rfl rfl (by omega) (by omega) (by omega) ?_
        refine Rx.walk 3 (pc' := 166) (L' := [some (.ref 91), some (.int (iz v)), some (.int (iz ci)), some (.ref 36), some (.ref (cpl j1)), some (.int (iz (((C j1).2.2.2.2.2.2.2) * 4))), some (.int (iz i_35)), x7_39, x8_40]) (st' := [.int (iz 1), .ref 92, .int (iz (g_36 0))]) (h' := cxW (u2 (u2 (u2 (u2 z 3 2 pi) 3 3 len) 36 1 sz) 91 3 t_23) (uf (uf (uf (uf f 4 w) 92 g_36) 93 lt_37) 94 sk_38) C T rc tl) rfl ?_
        refine Rx.ial (g := g_36) rfl rfl (by omega) (by omega) (by omega) ?_
        refine Rx.walk 2 (pc' := 171) (L' := [some (.ref 91), some (.int (iz v)), some (.int (iz ci)), some (.ref 36), some (.ref (cpl j1)), some (.int (iz (((C j1).2.2.2.2.2.2.2) * 4))), some (.int (iz i_35)), x7_39, x8_40]) (st' := [.int (iz t_23), .int (iz (g_36 1)), .int (iz (g_36 0))]) (h' := cxW (u2 (u2 (u2 (u2 z 3 2 pi) 3 3 len) 36 1 sz) 91 3 t_23) (uf (uf (uf (uf f 4 w) 92 g_36) 93 lt_37) 94 sk_38) C T rc tl) rfl ?_
        refine Rx.callx (m' := m_X10_trayWith) (as := [.int (iz t_23)]) (rest := [.int (iz (g_36 1)), .int (iz (g_36 0))]) rfl (n_trayWith _ (cxW (u2 (u2 (u2 (u2 z 3 2 pi) 3 3 len) 36 1 sz) 91 3 t_23) (uf (uf (uf (uf f 4 w) 92 g_36) 93 lt_37) 94 sk_38) C T rc tl)  t_23 (by first | assumption | omega) (by first | assumption | omega)) (fun v43 h44 q45 => ?_)
        obtain ⟨rfl, rfl⟩ := q45
        refine Rx.walk 0 (pc' := 174) (L' := [some (.ref 91), some (.int (iz v)), some (.int (iz ci)), some (.ref 36), some (.ref (cpl j1)), some (.int (iz (((C j1).2.2.2.2.2.2.2) * 4))), some (.int (iz i_35)), x7_39, x8_40]) (st' := [.int (iz (tw t_23)), .int (iz (g_36 1)), .int (iz (g_36 0))]) (h' := cxW (u2 (u2 (u2 (u2 z 3 2 pi) 3 3 len) 36 1 sz) 91 3 t_23) (uf (uf (uf (uf f 4 w) 92 g_36) 93 lt_37) 94 sk_38) C T rc tl) rfl ?_
        refine Rx.callx (m' := m_X10_number) (as := [.int (iz (g_36 0)), .int (iz (g_36 1)), .int (iz (tw t_23))]) (rest := []) rfl (n_number _ (cxW (u2 (u2 (u2 (u2 z 3 2 pi) 3 3 len) 36 1 sz) 91 3 t_23) (uf (uf (uf (uf f 4 w) 92 g_36) 93 lt_37) 94 sk_38) C T rc tl)  (g_36 0) (g_36 1) (tw t_23) ) (fun v46 h47 q48 => ?_)
        obtain ⟨rfl, rfl⟩ := q48
        refine Rx.walk 0 (pc' := 177) (L' := [some (.ref 91), some (.int (iz v)), some (.int (iz ci)), some (.ref 36), some (.ref (cpl j1)), some (.int (iz (((C j1).2.2.2.2.2.2.2) * 4))), some (.int (iz i_35)), x7_39, x8_40]) (st' := [.int (iz (((((g_36 0) * 3125) + (g_36 1)) * 16) + (tw t_23)))]) (h' := cxW (u2 (u2 (u2 (u2 z 3 2 pi) 3 3 len) 36 1 sz) 91 3 t_23) (uf (uf (uf (uf f 4 w) 92 g_36) 93 lt_37) 94 sk_38) C T rc tl) rfl ?_
        refine Rx.ret rfl ?_
        refine ⟨_, _, _, _, _, rfl, rfl, ?_⟩
        rw [hcj]
        unfold tbN
        rw [hOf_s (show ((C j1).2.2.2.2.2.2.2) ≠ -1 by omega)]
        rw [tbV_s (show (hbk w 11 (v / 16 / 3125) (v / 16 % 3125) (dgt (v % 16)) ((C j1).2.2.2.2.2.2.1 ((C j1).2.2.2.2.2.2.2))).1 ≠ 0 by rw [← (hbx).1]; omega) (show (puB V w pi len (hnd (C j1) ((C j1).2.2.2.2.2.2.2) 0) (hbk w 11 (v / 16 / 3125) (v / 16 % 3125) (dgt (v % 16)) ((C j1).2.2.2.2.2.2.1 ((C j1).2.2.2.2.2.2.2))).2.1 (hbk w 11 (v / 16 / 3125) (v / 16 % 3125) (dgt (v % 16)) ((C j1).2.2.2.2.2.2.1 ((C j1).2.2.2.2.2.2.2))).2.2.1).1 ≠ 0 by rw [(f41).1]; decide), ← (f41).2.1, ← (f41).2.2, ← hbx.2.2.2]
        rfl
    · refine Rx.walk 1 (pc' := 71) (L' := [some (.ref 91), some (.int (iz v)), some (.int (iz ci)), some (.ref 36), some (.ref (cpl j1)), none, none, none, none]) (st' := [.int (iz (-1))]) (h' := cxW (u2 (u2 (u2 (u2 z 3 2 pi) 3 3 len) 36 1 sz) 91 3 t_23) (uf (uf (uf (uf f 4 w) 92 g_22) 93 lt) 94 sk) C T rc tl) rfl ?_
      refine Rx.ret rfl ?_
      refine ⟨_, _, _, _, _, rfl, rfl, ?_⟩
      rw [hcj]
      unfold tbN
      rw [hOf_s (show ((C j1).2.2.2.2.2.2.2) ≠ -1 by omega)]
      rw [tbV_b (show (hbk w 11 (v / 16 / 3125) (v / 16 % 3125) (dgt (v % 16)) ((C j1).2.2.2.2.2.2.1 ((C j1).2.2.2.2.2.2.2))).1 = 0 by rw [← (hbx).1]; omega)]
  · refine Rx.walk 1 (pc' := 18) (L' := [some (.ref 91), some (.int (iz v)), some (.int (iz ci)), some (.ref 36), some (.ref (cpl j1)), none, none, none, none]) (st' := [.int (iz (-1))]) (h' := cxW (u2 (u2 (u2 (u2 z 3 2 pi) 3 3 len) 36 1 sz) 91 3 t) (uf (uf (uf (uf f 4 w) 92 g) 93 lt) 94 sk) C T rc tl) rfl ?_
    refine Rx.ret rfl ?_
    refine ⟨_, _, _, _, _, rfl, rfl, ?_⟩
    rw [hcj]
    unfold tbN
    rw [hOf_n (show ((C j1).2.2.2.2.2.2.2) = -1 by omega)]
    rfl
set_option maxRecDepth 100000 in
set_option maxHeartbeats 4000000 in
theorem x_chosenP38 (d : Nat) (z : Nat → Nat → Int) (f : Nat → Int → Int) (C : Nat → CuR) (T : Nat → TsR) (rc : Nat → Nat) (tl : AmH)  (e : Int) (g : Int → Int) (pi : Int) (len : Int) (w : Int → Int) (lt : Int → Int) (sk : Int → Int) (sz : Int) (ln : Nat) (cd : Int → Int) (V : (Int → Int) → Int) (hw : wOK w) (hpi : pi = 1 ∨ pi = 2) (hlen : 1 ≤ len ∧ len ≤ 5) (hrc : 98 ≤ rc 38 ∧ am_nth tl (rc 38 - 98) = some (.inl (.int, ln, .inl (av cd)))) (hsz : 0 ≤ sz ∧ sz ≤ 161 ∧ sz = (ln : Int)) (hcb : ∀ j : Int, 0 ≤ j → j < sz → sgB (cd j)) (hV : ruV V (crem cd 0 sz.toNat)) (he : 1 ≤ e ∧ e ≤ 4) (hg0 : 0 ≤ g 0 ∧ g 0 < 3125) (hg1 : 0 ≤ g 1 ∧ g 1 < 3125) : Rx (d + 3) m_X1_chosenPipe 0 (am_ent [.ref 91, .int (iz e), .ref 38] 7) [] (cxW (u2 (u2 (u2 z 3 2 pi) 3 3 len) 38 1 sz) (uf (uf (uf (uf f 4 w) 92 g) 93 lt) 94 sk) C T rc tl) (fun rv h => ∃ r : Int, ∃ lt' : Int → Int, ∃ sk' : Int → Int, rv = some (.int (iz r)) ∧ h = cxW (u2 (u2 (u2 z 3 2 pi) 3 3 len) 38 1 sz) (uf (uf (uf (uf f 4 w) 92 g) 93 lt') 94 sk') C T rc tl ∧ r = chP V w pi len e (g 0) (g 1)) := by
  have hh0 : 0 ≤ ht (g 0) ∧ ht (g 0) ≤ 5 := by have := ht_c (g 0); omega
  have hh1 : 0 ≤ ht (g 1) ∧ ht (g 1) ≤ 5 := by have := ht_c (g 1); omega
  refine Rx.walk 0 (pc' := 0) (L' := [some (.ref 91), some (.int (iz e)), some (.ref 38), none, none, none, none]) (st' := []) (h' := cxW (u2 (u2 (u2 z 3 2 pi) 3 3 len) 38 1 sz) (uf (uf (uf (uf f 4 w) 92 g) 93 lt) 94 sk) C T rc tl) rfl ?_
  refine Rx.walk 10 (pc' := 17) (L' := [some (.ref 91), some (.int (iz e)), some (.ref 38), some (.int (iz (-1))), some (.int (iz 0)), some (.int (iz 0)), none]) (st' := [.int (iz pi), .int (iz 0)]) (h' := cxW (u2 (u2 (u2 z 3 2 pi) 3 3 len) 38 1 sz) (uf (uf (uf (uf f 4 w) 92 g) 93 lt) 94 sk) C T rc tl) rfl ?_
  refine Rx.ge2 rfl rfl ⟨by omega, by omega⟩ ⟨by omega, by omega⟩ (fun b1 => by omega) (fun b1 => ?_)
  refine Rx.walk 2 (pc' := 23) (L' := [some (.ref 91), some (.int (iz e)), some (.ref 38), some (.int (iz (-1))), some (.int (iz 0)), some (.int (iz 0)), none]) (st' := [.int (iz 2), .int (iz 0)]) (h' := cxW (u2 (u2 (u2 z 3 2 pi) 3 3 len) 38 1 sz) (uf (uf (uf (uf f 4 w) 92 g) 93 lt) 94 sk) C T rc tl) rfl ?_
  refine Rx.ge2 rfl rfl ⟨by omega, by omega⟩ ⟨by omega, by omega⟩ (fun b2 => by omega) (fun b2 => ?_)
  refine Rx.walk 3 (pc' := 32) (L' := [some (.ref 91), some (.int (iz e)), some (.ref 38), some (.int (iz (-1))), some (.int (iz 0)), some (.int (iz 0)), none]) (st' := [.int (iz 0), .ref 92]) (h' := cxW (u2 (u2 (u2 z 3 2 pi) 3 3 len) 38 1 sz) (uf (uf (uf (uf f 4 w) 92 g) 93 lt) 94 sk) C T rc tl) rfl ?_
  refine Rx.ial (g := g) rfl rfl (by omega) (by omega) (by omega) ?_
  refine Rx.callx (m' := m_X10_height) (as := [.int (iz (g 0))]) (rest := []) rfl (n_height _ (cxW (u2 (u2 (u2 z 3 2 pi) 3 3 len) 38 1 sz) (uf (uf (uf (uf f 4 w) 92 g) 93 lt) 94 sk) C T rc tl)  (g 0) ⟨by omega, by omega⟩) (fun v5 h6 q7 => ?_)
  obtain ⟨r_3, rfl, rfl, f4⟩ := q7
  refine Rx.walk 0 (pc' := 36) (L' := [some (.ref 91), some (.int (iz e)), some (.ref 38), some (.int (iz (-1))), some (.int (iz 0)), some (.int (iz 0)), none]) (st' := [.int (iz r_3)]) (h' := cxW (u2 (u2 (u2 z 3 2 pi) 3 3 len) 38 1 sz) (uf (uf (uf (uf f 4 w) 92 g) 93 lt) 94 sk) C T rc tl) rfl ?_
  refine Rx.walk 3 (pc' := 43) (L' := [some (.ref 91), some (.int (iz e)), some (.ref 38), some (.int (iz (-1))), some (.int (iz 0)), some (.int (iz 0)), none]) (st' := [.int (iz len), .int (iz r_3)]) (h' := cxW (u2 (u2 (u2 z 3 2 pi) 3 3 len) 38 1 sz) (uf (uf (uf (uf f 4 w) 92 g) 93 lt) 94 sk) C T rc tl) rfl ?_
  refine Rx.ge2 rfl rfl ⟨by omega, by omega⟩ ⟨by omega, by omega⟩ (fun b8 => ?_) (fun b8 => ?_)
  · refine Rx.iinc (b := 1) rfl rfl rfl ?_
    refine Rx.walk 0 (pc' := 89) (L' := [some (.ref 91), some (.int (iz e)), some (.ref 38), some (.int (iz (-1))), some (.int (iz 0)), some (.int (iz 1)), none]) (st' := []) (h' := cxW (u2 (u2 (u2 z 3 2 pi) 3 3 len) 38 1 sz) (uf (uf (uf (uf f 4 w) 92 g) 93 lt) 94 sk) C T rc tl) rfl ?_
    refine Rx.walk 5 (pc' := 17) (L' := [some (.ref 91), some (.int (iz e)), some (.ref 38), some (.int (iz (-1))), some (.int (iz 0)), some (.int (iz 1)), none]) (st' := [.int (iz pi), .int (iz 1)]) (h' := cxW (u2 (u2 (u2 z 3 2 pi) 3 3 len) 38 1 sz) (uf (uf (uf (uf f 4 w) 92 g) 93 lt) 94 sk) C T rc tl) rfl ?_
    refine Rx.ge2 rfl rfl ⟨by omega, by omega⟩ ⟨by omega, by omega⟩ (fun b9 => ?_) (fun b9 => ?_)
    · refine Rx.walk 1 (pc' := 93) (L' := [some (.ref 91), some (.int (iz e)), some (.ref 38), some (.int (iz (-1))), some (.int (iz 0)), some (.int (iz 1)), none]) (st' := [.int (iz (-1))]) (h' := cxW (u2 (u2 (u2 z 3 2 pi) 3 3 len) 38 1 sz) (uf (uf (uf (uf f 4 w) 92 g) 93 lt) 94 sk) C T rc tl) rfl ?_
      refine Rx.ret rfl ?_
      refine ⟨_, _, _, rfl, rfl, ?_⟩
      unfold chP
      rw [if_neg (by omega), if_neg (by omega)]
    · refine Rx.walk 2 (pc' := 23) (L' := [some (.ref 91), some (.int (iz e)), some (.ref 38), some (.int (iz (-1))), some (.int (iz 0)), some (.int (iz 1)), none]) (st' := [.int (iz 2), .int (iz 1)]) (h' := cxW (u2 (u2 (u2 z 3 2 pi) 3 3 len) 38 1 sz) (uf (uf (uf (uf f 4 w) 92 g) 93 lt) 94 sk) C T rc tl) rfl ?_
      refine Rx.ge2 rfl rfl ⟨by omega, by omega⟩ ⟨by omega, by omega⟩ (fun b10 => by omega) (fun b10 => ?_)
      refine Rx.walk 3 (pc' := 32) (L' := [some (.ref 91), some (.int (iz e)), some (.ref 38), some (.int (iz (-1))), some (.int (iz 0)), some (.int (iz 1)), none]) (st' := [.int (iz 1), .ref 92]) (h' := cxW (u2 (u2 (u2 z 3 2 pi) 3 3 len) 38 1 sz) (uf (uf (uf (uf f 4 w) 92 g) 93 lt) 94 sk) C T rc tl) rfl ?_
      refine Rx.ial (g := g) rfl rfl (by omega) (by omega) (by omega) ?_
      refine Rx.callx (m' := m_X10_height) (as := [.int (iz (g 1))]) (rest := []) rfl (n_height _ (cxW (u2 (u2 (u2 z 3 2 pi) 3 3 len) 38 1 sz) (uf (uf (uf (uf f 4 w) 92 g) 93 lt) 94 sk) C T rc tl)  (g 1) ⟨by omega, by omega⟩) (fun v13 h14 q15 => ?_)
      obtain ⟨r_11, rfl, rfl, f12⟩ := q15
      refine Rx.walk 0 (pc' := 36) (L' := [some (.ref 91), some (.int (iz e)), some (.ref 38), some (.int (iz (-1))), some (.int (iz 0)), some (.int (iz 1)), none]) (st' := [.int (iz r_11)]) (h' := cxW (u2 (u2 (u2 z 3 2 pi) 3 3 len) 38 1 sz) (uf (uf (uf (uf f 4 w) 92 g) 93 lt) 94 sk) C T rc tl) rfl ?_
      refine Rx.walk 3 (pc' := 43) (L' := [some (.ref 91), some (.int (iz e)), some (.ref 38), some (.int (iz (-1))), some (.int (iz 0)), some (.int (iz 1)), none]) (st' := [.int (iz len), .int (iz r_11)]) (h' := cxW (u2 (u2 (u2 z 3 2 pi) 3 3 len) 38 1 sz) (uf (uf (uf (uf f 4 w) 92 g) 93 lt) 94 sk) C T rc tl) rfl ?_
      refine Rx.ge2 rfl rfl ⟨by omega, by omega⟩ ⟨by omega, by omega⟩ (fun b16 => ?_) (fun b16 => ?_)
      · refine Rx.iinc (b := 1) rfl rfl rfl ?_
        refine Rx.walk 0 (pc' := 89) (L' := [some (.ref 91), some (.int (iz e)), some (.ref 38), some (.int (iz (-1))), some (.int (iz 0)), some (.int (iz 2)), none]) (st' := []) (h' := cxW (u2 (u2 (u2 z 3 2 pi) 3 3 len) 38 1 sz) (uf (uf (uf (uf f 4 w) 92 g) 93 lt) 94 sk) C T rc tl) rfl ?_
        refine Rx.walk 5 (pc' := 17) (L' := [some (.ref 91), some (.int (iz e)), some (.ref 38), some (.int (iz (-1))), some (.int (iz 0)), some (.int (iz 2)), none]) (st' := [.int (iz pi), .int (iz 2)]) (h' := cxW (u2 (u2 (u2 z 3 2 pi) 3 3 len) 38 1 sz) (uf (uf (uf (uf f 4 w) 92 g) 93 lt) 94 sk) C T rc tl) rfl ?_
        refine Rx.ge2 rfl rfl ⟨by omega, by omega⟩ ⟨by omega, by omega⟩ (fun b17 => ?_) (fun b17 => by omega)
        refine Rx.walk 1 (pc' := 93) (L' := [some (.ref 91), some (.int (iz e)), some (.ref 38), some (.int (iz (-1))), some (.int (iz 0)), some (.int (iz 2)), none]) (st' := [.int (iz (-1))]) (h' := cxW (u2 (u2 (u2 z 3 2 pi) 3 3 len) 38 1 sz) (uf (uf (uf (uf f 4 w) 92 g) 93 lt) 94 sk) C T rc tl) rfl ?_
        refine Rx.ret rfl ?_
        refine ⟨_, _, _, rfl, rfl, ?_⟩
        unfold chP
        rw [if_neg (by omega), if_neg (by omega)]
      · refine Rx.walk 3 (pc' := 50) (L' := [some (.ref 91), some (.int (iz e)), some (.ref 38), some (.int (iz (-1))), some (.int (iz 0)), some (.int (iz 1)), none]) (st' := [.int (iz 1), .int (iz e), .ref 91]) (h' := cxW (u2 (u2 (u2 z 3 2 pi) 3 3 len) 38 1 sz) (uf (uf (uf (uf f 4 w) 92 g) 93 lt) 94 sk) C T rc tl) rfl ?_
        refine Rx.callx (m' := m_X1_setLetters) (as := [.ref 91, .int (iz e), .int (iz 1)]) (rest := []) rfl (x_setL1 _ (u2 (u2 (u2 z 3 2 pi) 3 3 len) 38 1 sz) (uf f 94 sk) C T rc tl  e w g lt hw ⟨by omega, by omega⟩ hg0 hg1) (fun v20 h21 q22 => ?_)
        obtain ⟨lt_18, rfl, rfl, f19⟩ := q22
        refine Rx.walk 0 (pc' := 53) (L' := [some (.ref 91), some (.int (iz e)), some (.ref 38), some (.int (iz (-1))), some (.int (iz 0)), some (.int (iz 1)), none]) (st' := []) (h' := cxW (u2 (u2 (u2 z 3 2 pi) 3 3 len) 38 1 sz) (uf (uf (uf (uf f 4 w) 92 g) 93 lt_18) 94 sk) C T rc tl) rfl ?_
        refine Rx.walk 5 (pc' := 62) (L' := [some (.ref 91), some (.int (iz e)), some (.ref 38), some (.int (iz (-1))), some (.int (iz 0)), some (.int (iz 1)), none]) (st' := [.ref 94, .ref 93, .ref 38]) (h' := cxW (u2 (u2 (u2 z 3 2 pi) 3 3 len) 38 1 sz) (uf (uf (uf (uf f 4 w) 92 g) 93 lt_18) 94 sk) C T rc tl) rfl ?_
        have hc1 : bdL (ltB w e 1 (g 1) (g 0)) := ltB_b hw ⟨by omega, by omega⟩ ⟨by omega, by omega⟩ hg1.1
        have hb1 := bdL_eq (fun j a b => (f19 j a b).symm) hc1
        refine Rx.callx (m' := m_X6_worth) (as := [.ref 38, .ref 93, .ref 94]) (rest := []) rfl (x_worth38 _ (u2 (u2 z 3 2 pi) 3 3 len) (uf (uf f 4 w) 92 g) C T rc tl  sz ln cd lt_18 sk hrc hsz hcb hb1 (hV _ hb1).1) (fun v26 h27 q28 => ?_)
        obtain ⟨r_23, g_24, rfl, rfl, f25⟩ := q28
        refine Rx.walk 0 (pc' := 65) (L' := [some (.ref 91), some (.int (iz e)), some (.ref 38), some (.int (iz (-1))), some (.int (iz 0)), some (.int (iz 1)), none]) (st' := [.int (iz r_23)]) (h' := cxW (u2 (u2 (u2 z 3 2 pi) 3 3 len) 38 1 sz) (uf (uf (uf (uf f 4 w) 92 g) 93 lt_18) 94 g_24) C T rc tl) rfl ?_
        have hv1 : r_23 = V (ltB w e 1 (g 1) (g 0)) := by rw [f25, ← (hV _ hb1).2.1]; exact ruV_congr hV hb1 f19
        obtain ⟨hu1, hx1⟩ := (hV _ hc1).2.2
        rw [← hv1] at hu1 hx1
        refine Rx.walk 3 (pc' := 69) (L' := [some (.ref 91), some (.int (iz e)), some (.ref 38), some (.int (iz (-1))), some (.int (iz 0)), some (.int (iz 1)), some (.int (iz r_23))]) (st' := [.int (iz (-1)), .int (iz (-1))]) (h' := cxW (u2 (u2 (u2 z 3 2 pi) 3 3 len) 38 1 sz) (uf (uf (uf (uf f 4 w) 92 g) 93 lt_18) 94 g_24) C T rc tl) rfl ?_
        refine Rx.eq2 rfl rfl ⟨by omega, by omega⟩ ⟨by omega, by omega⟩ (fun b29 => ?_) (fun b29 => by omega)
        refine Rx.walk 4 (pc' := 86) (L' := [some (.ref 91), some (.int (iz e)), some (.ref 38), some (.int (iz 1)), some (.int (iz r_23)), some (.int (iz 1)), some (.int (iz r_23))]) (st' := []) (h' := cxW (u2 (u2 (u2 z 3 2 pi) 3 3 len) 38 1 sz) (uf (uf (uf (uf f 4 w) 92 g) 93 lt_18) 94 g_24) C T rc tl) rfl ?_
        refine Rx.iinc (b := 1) rfl rfl rfl ?_
        refine Rx.walk 0 (pc' := 89) (L' := [some (.ref 91), some (.int (iz e)), some (.ref 38), some (.int (iz 1)), some (.int (iz r_23)), some (.int (iz 2)), some (.int (iz r_23))]) (st' := []) (h' := cxW (u2 (u2 (u2 z 3 2 pi) 3 3 len) 38 1 sz) (uf (uf (uf (uf f 4 w) 92 g) 93 lt_18) 94 g_24) C T rc tl) rfl ?_
        refine Rx.walk 5 (pc' := 17) (L' := [some (.ref 91), some (.int (iz e)), some (.ref 38), some (.int (iz 1)), some (.int (iz r_23)), some (.int (iz 2)), some (.int (iz r_23))]) (st' := [.int (iz pi), .int (iz 2)]) (h' := cxW (u2 (u2 (u2 z 3 2 pi) 3 3 len) 38 1 sz) (uf (uf (uf (uf f 4 w) 92 g) 93 lt_18) 94 g_24) C T rc tl) rfl ?_
        refine Rx.ge2 rfl rfl ⟨by omega, by omega⟩ ⟨by omega, by omega⟩ (fun b30 => ?_) (fun b30 => by omega)
        refine Rx.walk 1 (pc' := 93) (L' := [some (.ref 91), some (.int (iz e)), some (.ref 38), some (.int (iz 1)), some (.int (iz r_23)), some (.int (iz 2)), some (.int (iz r_23))]) (st' := [.int (iz 1)]) (h' := cxW (u2 (u2 (u2 z 3 2 pi) 3 3 len) 38 1 sz) (uf (uf (uf (uf f 4 w) 92 g) 93 lt_18) 94 g_24) C T rc tl) rfl ?_
        refine Rx.ret rfl ?_
        refine ⟨_, _, _, rfl, rfl, ?_⟩
        unfold chP
        rw [if_neg (by omega), if_pos ⟨by omega, by omega⟩]
  · refine Rx.walk 3 (pc' := 50) (L' := [some (.ref 91), some (.int (iz e)), some (.ref 38), some (.int (iz (-1))), some (.int (iz 0)), some (.int (iz 0)), none]) (st' := [.int (iz 0), .int (iz e), .ref 91]) (h' := cxW (u2 (u2 (u2 z 3 2 pi) 3 3 len) 38 1 sz) (uf (uf (uf (uf f 4 w) 92 g) 93 lt) 94 sk) C T rc tl) rfl ?_
    refine Rx.callx (m' := m_X1_setLetters) (as := [.ref 91, .int (iz e), .int (iz 0)]) (rest := []) rfl (x_setL0 _ (u2 (u2 (u2 z 3 2 pi) 3 3 len) 38 1 sz) (uf f 94 sk) C T rc tl  e w g lt hw ⟨by omega, by omega⟩ hg0 hg1) (fun v33 h34 q35 => ?_)
    obtain ⟨lt_31, rfl, rfl, f32⟩ := q35
    refine Rx.walk 0 (pc' := 53) (L' := [some (.ref 91), some (.int (iz e)), some (.ref 38), some (.int (iz (-1))), some (.int (iz 0)), some (.int (iz 0)), none]) (st' := []) (h' := cxW (u2 (u2 (u2 z 3 2 pi) 3 3 len) 38 1 sz) (uf (uf (uf (uf f 4 w) 92 g) 93 lt_31) 94 sk) C T rc tl) rfl ?_
    refine Rx.walk 5 (pc' := 62) (L' := [some (.ref 91), some (.int (iz e)), some (.ref 38), some (.int (iz (-1))), some (.int (iz 0)), some (.int (iz 0)), none]) (st' := [.ref 94, .ref 93, .ref 38]) (h' := cxW (u2 (u2 (u2 z 3 2 pi) 3 3 len) 38 1 sz) (uf (uf (uf (uf f 4 w) 92 g) 93 lt_31) 94 sk) C T rc tl) rfl ?_
    have hc1 : bdL (ltB w e 0 (g 0) (g 1)) := ltB_b hw ⟨by omega, by omega⟩ ⟨by omega, by omega⟩ hg0.1
    have hb1 := bdL_eq (fun j a b => (f32 j a b).symm) hc1
    refine Rx.callx (m' := m_X6_worth) (as := [.ref 38, .ref 93, .ref 94]) (rest := []) rfl (x_worth38 _ (u2 (u2 z 3 2 pi) 3 3 len) (uf (uf f 4 w) 92 g) C T rc tl  sz ln cd lt_31 sk hrc hsz hcb hb1 (hV _ hb1).1) (fun v39 h40 q41 => ?_)
    obtain ⟨r_36, g_37, rfl, rfl, f38⟩ := q41
    refine Rx.walk 0 (pc' := 65) (L' := [some (.ref 91), some (.int (iz e)), some (.ref 38), some (.int (iz (-1))), some (.int (iz 0)), some (.int (iz 0)), none]) (st' := [.int (iz r_36)]) (h' := cxW (u2 (u2 (u2 z 3 2 pi) 3 3 len) 38 1 sz) (uf (uf (uf (uf f 4 w) 92 g) 93 lt_31) 94 g_37) C T rc tl) rfl ?_
    have hv1 : r_36 = V (ltB w e 0 (g 0) (g 1)) := by rw [f38, ← (hV _ hb1).2.1]; exact ruV_congr hV hb1 f32
    obtain ⟨hu1, hx1⟩ := (hV _ hc1).2.2
    rw [← hv1] at hu1 hx1
    refine Rx.walk 3 (pc' := 69) (L' := [some (.ref 91), some (.int (iz e)), some (.ref 38), some (.int (iz (-1))), some (.int (iz 0)), some (.int (iz 0)), some (.int (iz r_36))]) (st' := [.int (iz (-1)), .int (iz (-1))]) (h' := cxW (u2 (u2 (u2 z 3 2 pi) 3 3 len) 38 1 sz) (uf (uf (uf (uf f 4 w) 92 g) 93 lt_31) 94 g_37) C T rc tl) rfl ?_
    refine Rx.eq2 rfl rfl ⟨by omega, by omega⟩ ⟨by omega, by omega⟩ (fun b42 => ?_) (fun b42 => by omega)
    refine Rx.walk 4 (pc' := 86) (L' := [some (.ref 91), some (.int (iz e)), some (.ref 38), some (.int (iz 0)), some (.int (iz r_36)), some (.int (iz 0)), some (.int (iz r_36))]) (st' := []) (h' := cxW (u2 (u2 (u2 z 3 2 pi) 3 3 len) 38 1 sz) (uf (uf (uf (uf f 4 w) 92 g) 93 lt_31) 94 g_37) C T rc tl) rfl ?_
    refine Rx.iinc (b := 1) rfl rfl rfl ?_
    refine Rx.walk 0 (pc' := 89) (L' := [some (.ref 91), some (.int (iz e)), some (.ref 38), some (.int (iz 0)), some (.int (iz r_36)), some (.int (iz 1)), some (.int (iz r_36))]) (st' := []) (h' := cxW (u2 (u2 (u2 z 3 2 pi) 3 3 len) 38 1 sz) (uf (uf (uf (uf f 4 w) 92 g) 93 lt_31) 94 g_37) C T rc tl) rfl ?_
    refine Rx.walk 5 (pc' := 17) (L' := [some (.ref 91), some (.int (iz e)), some (.ref 38), some (.int (iz 0)), some (.int (iz r_36)), some (.int (iz 1)), some (.int (iz r_36))]) (st' := [.int (iz pi), .int (iz 1)]) (h' := cxW (u2 (u2 (u2 z 3 2 pi) 3 3 len) 38 1 sz) (uf (uf (uf (uf f 4 w) 92 g) 93 lt_31) 94 g_37) C T rc tl) rfl ?_
    refine Rx.ge2 rfl rfl ⟨by omega, by omega⟩ ⟨by omega, by omega⟩ (fun b43 => ?_) (fun b43 => ?_)
    · refine Rx.walk 1 (pc' := 93) (L' := [some (.ref 91), some (.int (iz e)), some (.ref 38), some (.int (iz 0)), some (.int (iz r_36)), some (.int (iz 1)), some (.int (iz r_36))]) (st' := [.int (iz 0)]) (h' := cxW (u2 (u2 (u2 z 3 2 pi) 3 3 len) 38 1 sz) (uf (uf (uf (uf f 4 w) 92 g) 93 lt_31) 94 g_37) C T rc tl) rfl ?_
      refine Rx.ret rfl ?_
      refine ⟨_, _, _, rfl, rfl, ?_⟩
      unfold chP
      rw [if_pos (by omega), if_neg (by omega)]
    · refine Rx.walk 2 (pc' := 23) (L' := [some (.ref 91), some (.int (iz e)), some (.ref 38), some (.int (iz 0)), some (.int (iz r_36)), some (.int (iz 1)), some (.int (iz r_36))]) (st' := [.int (iz 2), .int (iz 1)]) (h' := cxW (u2 (u2 (u2 z 3 2 pi) 3 3 len) 38 1 sz) (uf (uf (uf (uf f 4 w) 92 g) 93 lt_31) 94 g_37) C T rc tl) rfl ?_
      refine Rx.ge2 rfl rfl ⟨by omega, by omega⟩ ⟨by omega, by omega⟩ (fun b44 => by omega) (fun b44 => ?_)
      refine Rx.walk 3 (pc' := 32) (L' := [some (.ref 91), some (.int (iz e)), some (.ref 38), some (.int (iz 0)), some (.int (iz r_36)), some (.int (iz 1)), some (.int (iz r_36))]) (st' := [.int (iz 1), .ref 92]) (h' := cxW (u2 (u2 (u2 z 3 2 pi) 3 3 len) 38 1 sz) (uf (uf (uf (uf f 4 w) 92 g) 93 lt_31) 94 g_37) C T rc tl) rfl ?_
      refine Rx.ial (g := g) rfl rfl (by omega) (by omega) (by omega) ?_
      refine Rx.callx (m' := m_X10_height) (as := [.int (iz (g 1))]) (rest := []) rfl (n_height _ (cxW (u2 (u2 (u2 z 3 2 pi) 3 3 len) 38 1 sz) (uf (uf (uf (uf f 4 w) 92 g) 93 lt_31) 94 g_37) C T rc tl)  (g 1) ⟨by omega, by omega⟩) (fun v47 h48 q49 => ?_)
      obtain ⟨r_45, rfl, rfl, f46⟩ := q49
      refine Rx.walk 0 (pc' := 36) (L' := [some (.ref 91), some (.int (iz e)), some (.ref 38), some (.int (iz 0)), some (.int (iz r_36)), some (.int (iz 1)), some (.int (iz r_36))]) (st' := [.int (iz r_45)]) (h' := cxW (u2 (u2 (u2 z 3 2 pi) 3 3 len) 38 1 sz) (uf (uf (uf (uf f 4 w) 92 g) 93 lt_31) 94 g_37) C T rc tl) rfl ?_
      refine Rx.walk 3 (pc' := 43) (L' := [some (.ref 91), some (.int (iz e)), some (.ref 38), some (.int (iz 0)), some (.int (iz r_36)), some (.int (iz 1)), some (.int (iz r_36))]) (st' := [.int (iz len), .int (iz r_45)]) (h' := cxW (u2 (u2 (u2 z 3 2 pi) 3 3 len) 38 1 sz) (uf (uf (uf (uf f 4 w) 92 g) 93 lt_31) 94 g_37) C T rc tl) rfl ?_
      refine Rx.ge2 rfl rfl ⟨by omega, by omega⟩ ⟨by omega, by omega⟩ (fun b50 => ?_) (fun b50 => ?_)
      · refine Rx.iinc (b := 1) rfl rfl rfl ?_
        refine Rx.walk 0 (pc' := 89) (L' := [some (.ref 91), some (.int (iz e)), some (.ref 38), some (.int (iz 0)), some (.int (iz r_36)), some (.int (iz 2)), some (.int (iz r_36))]) (st' := []) (h' := cxW (u2 (u2 (u2 z 3 2 pi) 3 3 len) 38 1 sz) (uf (uf (uf (uf f 4 w) 92 g) 93 lt_31) 94 g_37) C T rc tl) rfl ?_
        refine Rx.walk 5 (pc' := 17) (L' := [some (.ref 91), some (.int (iz e)), some (.ref 38), some (.int (iz 0)), some (.int (iz r_36)), some (.int (iz 2)), some (.int (iz r_36))]) (st' := [.int (iz pi), .int (iz 2)]) (h' := cxW (u2 (u2 (u2 z 3 2 pi) 3 3 len) 38 1 sz) (uf (uf (uf (uf f 4 w) 92 g) 93 lt_31) 94 g_37) C T rc tl) rfl ?_
        refine Rx.ge2 rfl rfl ⟨by omega, by omega⟩ ⟨by omega, by omega⟩ (fun b51 => ?_) (fun b51 => by omega)
        refine Rx.walk 1 (pc' := 93) (L' := [some (.ref 91), some (.int (iz e)), some (.ref 38), some (.int (iz 0)), some (.int (iz r_36)), some (.int (iz 2)), some (.int (iz r_36))]) (st' := [.int (iz 0)]) (h' := cxW (u2 (u2 (u2 z 3 2 pi) 3 3 len) 38 1 sz) (uf (uf (uf (uf f 4 w) 92 g) 93 lt_31) 94 g_37) C T rc tl) rfl ?_
        refine Rx.ret rfl ?_
        refine ⟨_, _, _, rfl, rfl, ?_⟩
        unfold chP
        rw [if_pos (by omega), if_neg (by omega)]
      · refine Rx.walk 3 (pc' := 50) (L' := [some (.ref 91), some (.int (iz e)), some (.ref 38), some (.int (iz 0)), some (.int (iz r_36)), some (.int (iz 1)), some (.int (iz r_36))]) (st' := [.int (iz 1), .int (iz e), .ref 91]) (h' := cxW (u2 (u2 (u2 z 3 2 pi) 3 3 len) 38 1 sz) (uf (uf (uf (uf f 4 w) 92 g) 93 lt_31) 94 g_37) C T rc tl) rfl ?_
        refine Rx.callx (m' := m_X1_setLetters) (as := [.ref 91, .int (iz e), .int (iz 1)]) (rest := []) rfl (x_setL1 _ (u2 (u2 (u2 z 3 2 pi) 3 3 len) 38 1 sz) (uf f 94 g_37) C T rc tl  e w g lt_31 hw ⟨by omega, by omega⟩ hg0 hg1) (fun v54 h55 q56 => ?_)
        obtain ⟨lt_52, rfl, rfl, f53⟩ := q56
        refine Rx.walk 0 (pc' := 53) (L' := [some (.ref 91), some (.int (iz e)), some (.ref 38), some (.int (iz 0)), some (.int (iz r_36)), some (.int (iz 1)), some (.int (iz r_36))]) (st' := []) (h' := cxW (u2 (u2 (u2 z 3 2 pi) 3 3 len) 38 1 sz) (uf (uf (uf (uf f 4 w) 92 g) 93 lt_52) 94 g_37) C T rc tl) rfl ?_
        refine Rx.walk 5 (pc' := 62) (L' := [some (.ref 91), some (.int (iz e)), some (.ref 38), some (.int (iz 0)), some (.int (iz r_36)), some (.int (iz 1)), some (.int (iz r_36))]) (st' := [.ref 94, .ref 93, .ref 38]) (h' := cxW (u2 (u2 (u2 z 3 2 pi) 3 3 len) 38 1 sz) (uf (uf (uf (uf f 4 w) 92 g) 93 lt_52) 94 g_37) C T rc tl) rfl ?_
        have hc2 : bdL (ltB w e 1 (g 1) (g 0)) := ltB_b hw ⟨by omega, by omega⟩ ⟨by omega, by omega⟩ hg1.1
        have hb2 := bdL_eq (fun j a b => (f53 j a b).symm) hc2
        refine Rx.callx (m' := m_X6_worth) (as := [.ref 38, .ref 93, .ref 94]) (rest := []) rfl (x_worth38 _ (u2 (u2 z 3 2 pi) 3 3 len) (uf (uf f 4 w) 92 g) C T rc tl  sz ln cd lt_52 g_37 hrc hsz hcb hb2 (hV _ hb2).1) (fun v60 h61 q62 => ?_)
        obtain ⟨r_57, g_58, rfl, rfl, f59⟩ := q62
        refine Rx.walk 0 (pc' := 65) (L' := [some (.ref 91), some (.int (iz e)), some (.ref 38), some (.int (iz 0)), some (.int (iz r_36)), some (.int (iz 1)), some (.int (iz r_36))]) (st' := [.int (iz r_57)]) (h' := cxW (u2 (u2 (u2 z 3 2 pi) 3 3 len) 38 1 sz) (uf (uf (uf (uf f 4 w) 92 g) 93 lt_52) 94 g_58) C T rc tl) rfl ?_
        have hv2 : r_57 = V (ltB w e 1 (g 1) (g 0)) := by rw [f59, ← (hV _ hb2).2.1]; exact ruV_congr hV hb2 f53
        obtain ⟨hu2, hx2⟩ := (hV _ hc2).2.2
        rw [← hv2] at hu2 hx2
        refine Rx.walk 3 (pc' := 69) (L' := [some (.ref 91), some (.int (iz e)), some (.ref 38), some (.int (iz 0)), some (.int (iz r_36)), some (.int (iz 1)), some (.int (iz r_57))]) (st' := [.int (iz (-1)), .int (iz 0)]) (h' := cxW (u2 (u2 (u2 z 3 2 pi) 3 3 len) 38 1 sz) (uf (uf (uf (uf f 4 w) 92 g) 93 lt_52) 94 g_58) C T rc tl) rfl ?_
        refine Rx.eq2 rfl rfl ⟨by omega, by omega⟩ ⟨by omega, by omega⟩ (fun b63 => by omega) (fun b63 => ?_)
        refine Rx.walk 2 (pc' := 76) (L' := [some (.ref 91), some (.int (iz e)), some (.ref 38), some (.int (iz 0)), some (.int (iz r_36)), some (.int (iz 1)), some (.int (iz r_57))]) (st' := [.int (iz r_36), .int (iz r_57)]) (h' := cxW (u2 (u2 (u2 z 3 2 pi) 3 3 len) 38 1 sz) (uf (uf (uf (uf f 4 w) 92 g) 93 lt_52) 94 g_58) C T rc tl) rfl ?_
        refine Rx.le2 rfl rfl ⟨by omega, by omega⟩ ⟨by omega, by omega⟩ (fun b64 => ?_) (fun b64 => ?_)
        · refine Rx.iinc (b := 1) rfl rfl rfl ?_
          refine Rx.walk 0 (pc' := 89) (L' := [some (.ref 91), some (.int (iz e)), some (.ref 38), some (.int (iz 0)), some (.int (iz r_36)), some (.int (iz 2)), some (.int (iz r_57))]) (st' := []) (h' := cxW (u2 (u2 (u2 z 3 2 pi) 3 3 len) 38 1 sz) (uf (uf (uf (uf f 4 w) 92 g) 93 lt_52) 94 g_58) C T rc tl) rfl ?_
          refine Rx.walk 5 (pc' := 17) (L' := [some (.ref 91), some (.int (iz e)), some (.ref 38), some (.int (iz 0)), some (.int (iz r_36)), some (.int (iz 2)), some (.int (iz r_57))]) (st' := [.int (iz pi), .int (iz 2)]) (h' := cxW (u2 (u2 (u2 z 3 2 pi) 3 3 len) 38 1 sz) (uf (uf (uf (uf f 4 w) 92 g) 93 lt_52) 94 g_58) C T rc tl) rfl ?_
          refine Rx.ge2 rfl rfl ⟨by omega, by omega⟩ ⟨by omega, by omega⟩ (fun b65 => ?_) (fun b65 => by omega)
          refine Rx.walk 1 (pc' := 93) (L' := [some (.ref 91), some (.int (iz e)), some (.ref 38), some (.int (iz 0)), some (.int (iz r_36)), some (.int (iz 2)), some (.int (iz r_57))]) (st' := [.int (iz 0)]) (h' := cxW (u2 (u2 (u2 z 3 2 pi) 3 3 len) 38 1 sz) (uf (uf (uf (uf f 4 w) 92 g) 93 lt_52) 94 g_58) C T rc tl) rfl ?_
          refine Rx.ret rfl ?_
          refine ⟨_, _, _, rfl, rfl, ?_⟩
          unfold chP
          rw [if_pos (by omega), if_pos ⟨by omega, by omega⟩, ← hv1, ← hv2, if_neg (by omega)]
        · refine Rx.walk 4 (pc' := 86) (L' := [some (.ref 91), some (.int (iz e)), some (.ref 38), some (.int (iz 1)), some (.int (iz r_57)), some (.int (iz 1)), some (.int (iz r_57))]) (st' := []) (h' := cxW (u2 (u2 (u2 z 3 2 pi) 3 3 len) 38 1 sz) (uf (uf (uf (uf f 4 w) 92 g) 93 lt_52) 94 g_58) C T rc tl) rfl ?_
          refine Rx.iinc (b := 1) rfl rfl rfl ?_
          refine Rx.walk 0 (pc' := 89) (L' := [some (.ref 91), some (.int (iz e)), some (.ref 38), some (.int (iz 1)), some (.int (iz r_57)), some (.int (iz 2)), some (.int (iz r_57))]) (st' := []) (h' := cxW (u2 (u2 (u2 z 3 2 pi) 3 3 len) 38 1 sz) (uf (uf (uf (uf f 4 w) 92 g) 93 lt_52) 94 g_58) C T rc tl) rfl ?_
          refine Rx.walk 5 (pc' := 17) (L' := [some (.ref 91), some (.int (iz e)), some (.ref 38), some (.int (iz 1)), some (.int (iz r_57)), some (.int (iz 2)), some (.int (iz r_57))]) (st' := [.int (iz pi), .int (iz 2)]) (h' := cxW (u2 (u2 (u2 z 3 2 pi) 3 3 len) 38 1 sz) (uf (uf (uf (uf f 4 w) 92 g) 93 lt_52) 94 g_58) C T rc tl) rfl ?_
          refine Rx.ge2 rfl rfl ⟨by omega, by omega⟩ ⟨by omega, by omega⟩ (fun b66 => ?_) (fun b66 => by omega)
          refine Rx.walk 1 (pc' := 93) (L' := [some (.ref 91), some (.int (iz e)), some (.ref 38), some (.int (iz 1)), some (.int (iz r_57)), some (.int (iz 2)), some (.int (iz r_57))]) (st' := [.int (iz 1)]) (h' := cxW (u2 (u2 (u2 z 3 2 pi) 3 3 len) 38 1 sz) (uf (uf (uf (uf f 4 w) 92 g) 93 lt_52) 94 g_58) C T rc tl) rfl ?_
          refine Rx.ret rfl ?_
          refine ⟨_, _, _, rfl, rfl, ?_⟩
          unfold chP
          rw [if_pos (by omega), if_pos ⟨by omega, by omega⟩, ← hv1, ← hv2, if_pos (by omega)]
set_option maxRecDepth 100000 in
set_option maxHeartbeats 4000000 in
theorem x_tillB_l38 (d : Nat) (z : Nat → Nat → Int) (f : Nat → Int → Int) (C : Nat → CuR) (T : Nat → TsR) (rc : Nat → Nat) (tl : AmH)  (v : Int) (ci : Int) (j : Nat) (st : Int) (Rz : Int × Int × Int) (pi : Int) (len : Int) (w : Int → Int) (sz : Int) (ln : Nat) (cd : Int → Int) (V : (Int → Int) → Int) (hw : wOK w) (hpi : pi = 1 ∨ pi = 2) (hlen : 1 ≤ len ∧ len ≤ 5) (hrc : 98 ≤ rc 38 ∧ am_nth tl (rc 38 - 98) = some (.inl (.int, ln, .inl (av cd)))) (hsz : 0 ≤ sz ∧ sz ≤ 161 ∧ sz = (ln : Int)) (hcb : ∀ j : Int, 0 ≤ j → j < sz → sgB (cd j)) (hV : ruV V (crem cd 0 sz.toNat)) (hj : j < 4) (hcu : cuI (C j)) (hch : 0 ≤ ((C j).2.2.2.2.2.2.2) ∧ ((C j).2.2.2.2.2.2.2) < (C j).2.2.2.1) (hst : st = ((C j).2.2.2.2.2.2.2) * 4) (P : Option Value → AmH → Prop) (hx0 : ∀ (g' : Int → Int) (lt' : Int → Int) (sk' : Int → Int), (Rz.1 = 0) → P (some (.int (iz (-1)))) (cxW (u2 (u2 (u2 z 3 2 pi) 3 3 len) 38 1 sz) (uf (uf (uf (uf f 4 w) 92 g') 93 lt') 94 sk') C T rc tl)) (hx1 : ∀ (i' : Int) (g' : Int → Int) (lt' : Int → Int) (sk' : Int → Int) (x7' : Option Value) (x8' : Option Value), (Rz.1 = 1 ∧ g' 0 = Rz.2.1 ∧ g' 1 = Rz.2.2) → ((0 ≤ g' 0 ∧ g' 0 < 3125) ∧ (0 ≤ g' 1 ∧ g' 1 < 3125)) → Rx (d + 4) m_X1_tillBehind 155 [some (.ref 91), some (.int (iz v)), some (.int (iz ci)), some (.ref 38), some (.ref (cpl j)), some (.int (iz st)), some (.int (iz i')), x7', x8'] [] (cxW (u2 (u2 (u2 z 3 2 pi) 3 3 len) 38 1 sz) (uf (uf (uf (uf f 4 w) 92 g') 93 lt') 94 sk') C T rc tl) P) : ∀ (kF : Nat) (i : Int) (g : Int → Int) (lt : Int → Int) (sk : Int → Int) (w7 : Option Value) (w8 : Option Value), (0 ≤ i ∧ i ≤ (C j).2.2.2.2.2.1 ((C j).2.2.2.2.2.2.2)) → (0 ≤ g 0 ∧ g 0 < 3125) → (0 ≤ g 1 ∧ g 1 < 3125) → (Rz = puB V w pi len (hnd (C j) ((C j).2.2.2.2.2.2.2) i) (g 0) (g 1)) → ((C j).2.2.2.2.2.1 ((C j).2.2.2.2.2.2.2) - i) < (kF : Int) → Rx (d + 4) m_X1_tillBehind 84 [some (.ref 91), some (.int (iz v)), some (.int (iz ci)), some (.ref 38), some (.ref (cpl j)), some (.int (iz st)), some (.int (iz i)), w7, w8] [] (cxW (u2 (u2 (u2 z 3 2 pi) 3 3 len) 38 1 sz) (uf (uf (uf (uf f 4 w) 92 g) 93 lt) 94 sk) C T rc tl) P := by
  obtain ⟨hq1, hq2, hq3⟩ := id hcu
  obtain ⟨hc1, hc2⟩ := id hch
  obtain ⟨hd1, hd2, hd3, hd4, hd5⟩ := hq3 ((C j).2.2.2.2.2.2.2) hc1 hc2
  intro kF
  induction kF with
  | zero =>
    intro i g lt sk w7 w8 hi hg0 hg1 hP hk
    exfalso; omega
  | succ kF ih =>
    intro i g lt sk w7 w8 hi hg0 hg1 hP hk
    refine Rx.walk 2 (pc' := 88) (L' := [some (.ref 91), some (.int (iz v)), some (.int (iz ci)), some (.ref 38), some (.ref (cpl j)), some (.int (iz st)), some (.int (iz i)), w7, w8]) (st' := [.ref (cpl j), .int (iz i)]) (h' := cxW (u2 (u2 (u2 z 3 2 pi) 3 3 len) 38 1 sz) (uf (uf (uf (uf f 4 w) 92 g) 93 lt) 94 sk) C T rc tl) rfl ?_
    refine Rx.gfS rfl rfl (cW_C (by omega)) rfl ?_
    refine Rx.walk 1 (pc' := 93) (L' := [some (.ref 91), some (.int (iz v)), some (.int (iz ci)), some (.ref 38), some (.ref (cpl j)), some (.int (iz st)), some (.int (iz i)), w7, w8]) (st' := [.ref (cpl j), .ref (cpl j + 3), .int (iz i)]) (h' := cxW (u2 (u2 (u2 z 3 2 pi) 3 3 len) 38 1 sz) (uf (uf (uf (uf f 4 w) 92 g) 93 lt) 94 sk) C T rc tl) rfl ?_
    refine Rx.gfS rfl rfl (cW_C (by omega)) rfl ?_
    refine Rx.ial (g := ((C j).2.2.2.2.2.1)) rfl (cW_C3 (by omega)) (by omega) (by omega) (by omega) ?_
    refine Rx.ge2 rfl rfl ⟨by omega, by omega⟩ ⟨by omega, by omega⟩ (fun b1 => ?_) (fun b1 => ?_)
    · exact hx1 _ _ _ _ _ _ (by rw [hnd_e (by omega)] at hP; rw [hP]; exact ⟨rfl, rfl, rfl⟩) ⟨hg0, hg1⟩
    · refine Rx.walk 1 (pc' := 102) (L' := [some (.ref 91), some (.int (iz v)), some (.int (iz ci)), some (.ref 38), some (.ref (cpl j)), some (.int (iz st)), some (.int (iz i)), w7, w8]) (st' := [.ref (cpl j)]) (h' := cxW (u2 (u2 (u2 z 3 2 pi) 3 3 len) 38 1 sz) (uf (uf (uf (uf f 4 w) 92 g) 93 lt) 94 sk) C T rc tl) rfl ?_
      refine Rx.gfS rfl rfl (cW_C (by omega)) rfl ?_
      refine Rx.walk 2 (pc' := 109) (L' := [some (.ref 91), some (.int (iz v)), some (.int (iz ci)), some (.ref 38), some (.ref (cpl j)), some (.int (iz st)), some (.int (iz i)), w7, w8]) (st' := [.int (iz i), .int (iz st), .ref (cpl j + 2)]) (h' := cxW (u2 (u2 (u2 z 3 2 pi) 3 3 len) 38 1 sz) (uf (uf (uf (uf f 4 w) 92 g) 93 lt) 94 sk) C T rc tl) rfl ?_
      refine Rx.iadd rfl ?_
      refine Rx.ial (g := ((C j).2.2.2.2.1)) rfl (cW_C2 (by omega)) (by omega) (by omega) (by omega) ?_
      have hix : (st + i) = ((C j).2.2.2.2.2.2.2) * 4 + i := by omega
      obtain ⟨e, he⟩ : ∃ e, e = (C j).2.2.2.2.1 (((C j).2.2.2.2.2.2.2) * 4 + i) := ⟨_, rfl⟩
      rw [show (((C j).2.2.2.2.1) (st + i)) = e from by rw [hix]; exact he.symm]
      have heb := hd5 i (by omega) (by omega)
      rw [← he] at heb
      rw [hnd_s (by omega), ← he] at hP
      refine Rx.walk 4 (pc' := 117) (L' := [some (.ref 91), some (.int (iz v)), some (.int (iz ci)), some (.ref 38), some (.ref (cpl j)), some (.int (iz st)), some (.int (iz i)), some (.int (iz e)), w8]) (st' := [.ref 38, .int (iz e), .ref 91]) (h' := cxW (u2 (u2 (u2 z 3 2 pi) 3 3 len) 38 1 sz) (uf (uf (uf (uf f 4 w) 92 g) 93 lt) 94 sk) C T rc tl) rfl ?_
      refine Rx.callx (m' := m_X1_chosenPipe) (as := [.ref 91, .int (iz e), .ref 38]) (rest := []) rfl (x_chosenP38 _ z f C T rc tl  e g pi len w lt sk sz ln cd V hw hpi hlen hrc hsz hcb hV heb hg0 hg1) (fun v6 h7 q8 => ?_)
      obtain ⟨r_2, lt_3, sk_4, rfl, rfl, f5⟩ := q8
      refine Rx.walk 0 (pc' := 120) (L' := [some (.ref 91), some (.int (iz v)), some (.int (iz ci)), some (.ref 38), some (.ref (cpl j)), some (.int (iz st)), some (.int (iz i)), some (.int (iz e)), w8]) (st' := [.int (iz r_2)]) (h' := cxW (u2 (u2 (u2 z 3 2 pi) 3 3 len) 38 1 sz) (uf (uf (uf (uf f 4 w) 92 g) 93 lt_3) 94 sk_4) C T rc tl) rfl ?_
      have hcc := chP_c V w pi len e (g 0) (g 1)
      rw [← f5] at hcc
      have hq0 := ht_c (g 0)
      have hq1 := ht_c (g 1)
      refine Rx.walk 3 (pc' := 125) (L' := [some (.ref 91), some (.int (iz v)), some (.int (iz ci)), some (.ref 38), some (.ref (cpl j)), some (.int (iz st)), some (.int (iz i)), some (.int (iz e)), some (.int (iz r_2))]) (st' := [.int (iz (-1)), .int (iz r_2)]) (h' := cxW (u2 (u2 (u2 z 3 2 pi) 3 3 len) 38 1 sz) (uf (uf (uf (uf f 4 w) 92 g) 93 lt_3) 94 sk_4) C T rc tl) rfl ?_
      refine Rx.ne2 rfl rfl ⟨by omega, by omega⟩ ⟨by omega, by omega⟩ (fun b9 => ?_) (fun b9 => ?_)
      · refine Rx.walk 6 (pc' := 142) (L' := [some (.ref 91), some (.int (iz v)), some (.int (iz ci)), some (.ref 38), some (.ref (cpl j)), some (.int (iz st)), some (.int (iz i)), some (.int (iz e)), some (.int (iz r_2))]) (st' := [.int (iz r_2), .ref 92, .int (iz r_2), .ref 92]) (h' := cxW (u2 (u2 (u2 z 3 2 pi) 3 3 len) 38 1 sz) (uf (uf (uf (uf f 4 w) 92 g) 93 lt_3) 94 sk_4) C T rc tl) rfl ?_
        refine Rx.ial (g := g) rfl rfl (by omega) (by omega) (by omega) ?_
        refine Rx.walk 1 (pc' := 144) (L' := [some (.ref 91), some (.int (iz v)), some (.int (iz ci)), some (.ref 38), some (.ref (cpl j)), some (.int (iz st)), some (.int (iz i)), some (.int (iz e)), some (.int (iz r_2))]) (st' := [.int (iz 5), .int (iz (g r_2)), .int (iz r_2), .ref 92]) (h' := cxW (u2 (u2 (u2 z 3 2 pi) 3 3 len) 38 1 sz) (uf (uf (uf (uf f 4 w) 92 g) 93 lt_3) 94 sk_4) C T rc tl) rfl ?_
        refine Rx.imul rfl ?_
        refine Rx.walk 1 (pc' := 147) (L' := [some (.ref 91), some (.int (iz v)), some (.int (iz ci)), some (.ref 38), some (.ref (cpl j)), some (.int (iz st)), some (.int (iz i)), some (.int (iz e)), some (.int (iz r_2))]) (st' := [.int (iz e), .int (iz ((g r_2) * 5)), .int (iz r_2), .ref 92]) (h' := cxW (u2 (u2 (u2 z 3 2 pi) 3 3 len) 38 1 sz) (uf (uf (uf (uf f 4 w) 92 g) 93 lt_3) 94 sk_4) C T rc tl) rfl ?_
        refine Rx.iadd rfl ?_
        refine Rx.ias (g := g) (h' := cxW (u2 (u2 (u2 z 3 2 pi) 3 3 len) 38 1 sz) (uf (uf (uf (uf f 4 w) 92 (iu g r_2 (((g r_2) * 5) + e))) 93 lt_3) 94 sk_4) C T rc tl) rfl rfl (by omega) (by omega) (by omega) rfl ?_
        refine Rx.iinc (b := 1) rfl rfl rfl ?_
        refine Rx.walk 0 (pc' := 152) (L' := [some (.ref 91), some (.int (iz v)), some (.int (iz ci)), some (.ref 38), some (.ref (cpl j)), some (.int (iz st)), some (.int (iz (i + 1))), some (.int (iz e)), some (.int (iz r_2))]) (st' := []) (h' := cxW (u2 (u2 (u2 z 3 2 pi) 3 3 len) 38 1 sz) (uf (uf (uf (uf f 4 w) 92 (iu g r_2 (((g r_2) * 5) + e))) 93 lt_3) 94 sk_4) C T rc tl) rfl ?_
        refine Rx.walk 1 (pc' := 84) (L' := [some (.ref 91), some (.int (iz v)), some (.int (iz ci)), some (.ref 38), some (.ref (cpl j)), some (.int (iz st)), some (.int (iz (i + 1))), some (.int (iz e)), some (.int (iz r_2))]) (st' := []) (h' := cxW (u2 (u2 (u2 z 3 2 pi) 3 3 len) 38 1 sz) (uf (uf (uf (uf f 4 w) 92 (iu g r_2 (((g r_2) * 5) + e))) 93 lt_3) 94 sk_4) C T rc tl) rfl ?_
        exact ih (i + 1) (iu g r_2 (((g r_2) * 5) + e)) lt_3 sk_4 (some (.int (iz e))) (some (.int (iz r_2))) ⟨by omega, by omega⟩ (by rcases hcc with q | q | q; (rw [q.1]; rw [iu_at]; exact ⟨by omega, by omega⟩); (rw [q.1]; rw [iu_ne _ _ (by decide)]; exact hg0); (exfalso; omega)) (by rcases hcc with q | q | q; (rw [q.1]; rw [iu_ne _ _ (by decide)]; exact hg1); (rw [q.1]; rw [iu_at]; exact ⟨by omega, by omega⟩); (exfalso; omega)) (by rcases hcc with q | q | q; (rw [q.1]; rw [iu_at, iu_ne _ _ (by decide), ← puB_0 (show chP V w pi len e (g 0) (g 1) = 0 by rw [← f5]; exact q.1)]; exact hP); (rw [q.1]; rw [iu_at, iu_ne _ _ (by decide), ← puB_1 (show chP V w pi len e (g 0) (g 1) = 1 by rw [← f5]; exact q.1)]; exact hP); (exfalso; omega)) (by omega) 
      · refine Rx.walk 1 (pc' := 129) (L' := [some (.ref 91), some (.int (iz v)), some (.int (iz ci)), some (.ref 38), some (.ref (cpl j)), some (.int (iz st)), some (.int (iz i)), some (.int (iz e)), some (.int (iz r_2))]) (st' := [.int (iz (-1))]) (h' := cxW (u2 (u2 (u2 z 3 2 pi) 3 3 len) 38 1 sz) (uf (uf (uf (uf f 4 w) 92 g) 93 lt_3) 94 sk_4) C T rc tl) rfl ?_
        refine Rx.ret rfl ?_
        exact hx0 _ _ _ (by rw [hP, puB_c (by rw [← f5]; omega)])
set_option maxRecDepth 100000 in
set_option maxHeartbeats 4000000 in
theorem x_tillB38 (d : Nat) (z : Nat → Nat → Int) (f : Nat → Int → Int) (C : Nat → CuR) (T : Nat → TsR) (rc : Nat → Nat) (tl : AmH)  (v : Int) (ci : Int) (g : Int → Int) (t : Int) (pi : Int) (len : Int) (w : Int → Int) (lt : Int → Int) (sk : Int → Int) (sz : Int) (ln : Nat) (cd : Int → Int) (V : (Int → Int) → Int) (hw : wOK w) (hpi : pi = 1 ∨ pi = 2) (hlen : 1 ≤ len ∧ len ≤ 5) (hrc : 98 ≤ rc 38 ∧ am_nth tl (rc 38 - 98) = some (.inl (.int, ln, .inl (av cd)))) (hsz : 0 ≤ sz ∧ sz ≤ 161 ∧ sz = (ln : Int)) (hcb : ∀ j : Int, 0 ≤ j → j < sz → sgB (cd j)) (hV : ruV V (crem cd 0 sz.toNat)) (hci : 0 ≤ ci ∧ ci < 4) (hv : 0 ≤ v ∧ v < 156250000) (hvt : v % 16 = tw (dgt (v % 16)) ∧ 0 ≤ dgt (v % 16) ∧ dgt (v % 16) ≤ 4) (hcu : cuI (C ci.toNat)) (hch : ((C ci.toNat).2.2.2.2.2.2.2) = -1 ∨ (0 ≤ ((C ci.toNat).2.2.2.2.2.2.2) ∧ ((C ci.toNat).2.2.2.2.2.2.2) < (C ci.toNat).2.2.2.1)) : Rx (d + 5) m_X1_tillBehind 0 (am_ent [.ref 91, .int (iz v), .int (iz ci), .ref 38] 9) [] (cxW (u2 (u2 (u2 (u2 z 3 2 pi) 3 3 len) 38 1 sz) 91 3 t) (uf (uf (uf (uf f 4 w) 92 g) 93 lt) 94 sk) C T rc tl) (fun rv h => ∃ r : Int, ∃ g' : Int → Int, ∃ t' : Int, ∃ lt' : Int → Int, ∃ sk' : Int → Int, rv = some (.int (iz r)) ∧ h = cxW (u2 (u2 (u2 (u2 z 3 2 pi) 3 3 len) 38 1 sz) 91 3 t') (uf (uf (uf (uf f 4 w) 92 g') 93 lt') 94 sk') C T rc tl ∧ r = tbN V w pi len (hOf (C ci.toNat)) v) := by
  refine Rx.walk 0 (pc' := 0) (L' := [some (.ref 91), some (.int (iz v)), some (.int (iz ci)), some (.ref 38), none, none, none, none, none]) (st' := []) (h' := cxW (u2 (u2 (u2 (u2 z 3 2 pi) 3 3 len) 38 1 sz) 91 3 t) (uf (uf (uf (uf f 4 w) 92 g) 93 lt) 94 sk) C T rc tl) rfl ?_
  refine Rx.walk 3 (pc' := 5) (L' := [some (.ref 91), some (.int (iz v)), some (.int (iz ci)), some (.ref 38), none, none, none, none, none]) (st' := [.int (iz ci), .ref 14]) (h' := cxW (u2 (u2 (u2 (u2 z 3 2 pi) 3 3 len) 38 1 sz) 91 3 t) (uf (uf (uf (uf f 4 w) 92 g) 93 lt) 94 sk) C T rc tl) rfl ?_
  obtain ⟨j1, hj1⟩ := Int.eq_ofNat_of_zero_le (show 0 ≤ ci by omega)
  refine Rx.aal j1 rfl rfl rfl hj1 (by omega) (by omega) (cus_at (by omega)) ?_
  have hcj : ci.toNat = j1 := by omega
  rw [hcj] at hcu hch
  have hcq := hcu.1
  have hcq2 := hcu.2.1
  refine Rx.walk 2 (pc' := 10) (L' := [some (.ref 91), some (.int (iz v)), some (.int (iz ci)), some (.ref 38), some (.ref (cpl j1)), none, none, none, none]) (st' := [.ref (cpl j1)]) (h' := cxW (u2 (u2 (u2 (u2 z 3 2 pi) 3 3 len) 38 1 sz) 91 3 t) (uf (uf (uf (uf f 4 w) 92 g) 93 lt) 94 sk) C T rc tl) rfl ?_
  refine Rx.gfS rfl rfl (cW_C (by omega)) rfl ?_
  refine Rx.walk 1 (pc' := 14) (L' := [some (.ref 91), some (.int (iz v)), some (.int (iz ci)), some (.ref 38), some (.ref (cpl j1)), none, none, none, none]) (st' := [.int (iz (-1)), .int (iz ((C j1).2.2.2.2.2.2.2))]) (h' := cxW (u2 (u2 (u2 (u2 z 3 2 pi) 3 3 len) 38 1 sz) 91 3 t) (uf (uf (uf (uf f 4 w) 92 g) 93 lt) 94 sk) C T rc tl) rfl ?_
  refine Rx.ne2 rfl rfl ⟨by omega, by omega⟩ ⟨by omega, by omega⟩ (fun b2 => ?_) (fun b2 => ?_)
  · replace hch := hch.elim (fun q => absurd q (by omega)) id
    obtain ⟨hq1, hq2, hq3⟩ := id hcu
    obtain ⟨hc1, hc2⟩ := id hch
    obtain ⟨hd1, hd2, hd3, hd4, hd5⟩ := hq3 ((C j1).2.2.2.2.2.2.2) hc1 hc2
    refine Rx.walk 5 (pc' := 26) (L' := [some (.ref 91), some (.int (iz v)), some (.int (iz ci)), some (.ref 38), some (.ref (cpl j1)), none, none, none, none]) (st' := [.int (iz 0), .int (iz v), .int (iz 0), .ref 92]) (h' := cxW (u2 (u2 (u2 (u2 z 3 2 pi) 3 3 len) 38 1 sz) 91 3 t) (uf (uf (uf (uf f 4 w) 92 g) 93 lt) 94 sk) C T rc tl) rfl ?_
    refine Rx.callx (m' := m_X10_pipeOf) (as := [.int (iz v), .int (iz 0)]) (rest := [.int (iz 0), .ref 92]) rfl (n_pipeOf _ (cxW (u2 (u2 (u2 (u2 z 3 2 pi) 3 3 len) 38 1 sz) 91 3 t) (uf (uf (uf (uf f 4 w) 92 g) 93 lt) 94 sk) C T rc tl)  v 0 (by first | assumption | omega) (by first | assumption | omega) ⟨by omega, by omega⟩) (fun v5 h6 q7 => ?_)
    obtain ⟨r_3, rfl, rfl, f4⟩ := q7
    refine Rx.walk 0 (pc' := 29) (L' := [some (.ref 91), some (.int (iz v)), some (.int (iz ci)), some (.ref 38), some (.ref (cpl j1)), none, none, none, none]) (st' := [.int (iz r_3), .int (iz 0), .ref 92]) (h' := cxW (u2 (u2 (u2 (u2 z 3 2 pi) 3 3 len) 38 1 sz) 91 3 t) (uf (uf (uf (uf f 4 w) 92 g) 93 lt) 94 sk) C T rc tl) rfl ?_
    refine Rx.ias (g := g) (h' := cxW (u2 (u2 (u2 (u2 z 3 2 pi) 3 3 len) 38 1 sz) 91 3 t) (uf (uf (uf (uf f 4 w) 92 (iu g 0 r_3)) 93 lt) 94 sk) C T rc tl) rfl rfl (by omega) (by omega) (by omega) rfl ?_
    refine Rx.walk 5 (pc' := 37) (L' := [some (.ref 91), some (.int (iz v)), some (.int (iz ci)), some (.ref 38), some (.ref (cpl j1)), none, none, none, none]) (st' := [.int (iz 1), .int (iz v), .int (iz 1), .ref 92]) (h' := cxW (u2 (u2 (u2 (u2 z 3 2 pi) 3 3 len) 38 1 sz) 91 3 t) (uf (uf (uf (uf f 4 w) 92 (iu g 0 r_3)) 93 lt) 94 sk) C T rc tl) rfl ?_
    refine Rx.callx (m' := m_X10_pipeOf) (as := [.int (iz v), .int (iz 1)]) (rest := [.int (iz 1), .ref 92]) rfl (n_pipeOf _ (cxW (u2 (u2 (u2 (u2 z 3 2 pi) 3 3 len) 38 1 sz) 91 3 t) (uf (uf (uf (uf f 4 w) 92 (iu g 0 r_3)) 93 lt) 94 sk) C T rc tl)  v 1 (by first | assumption | omega) (by first | assumption | omega) ⟨by omega, by omega⟩) (fun v10 h11 q12 => ?_)
    obtain ⟨r_8, rfl, rfl, f9⟩ := q12
    refine Rx.walk 0 (pc' := 40) (L' := [some (.ref 91), some (.int (iz v)), some (.int (iz ci)), some (.ref 38), some (.ref (cpl j1)), none, none, none, none]) (st' := [.int (iz r_8), .int (iz 1), .ref 92]) (h' := cxW (u2 (u2 (u2 (u2 z 3 2 pi) 3 3 len) 38 1 sz) 91 3 t) (uf (uf (uf (uf f 4 w) 92 (iu g 0 r_3)) 93 lt) 94 sk) C T rc tl) rfl ?_
    refine Rx.ias (g := (iu g 0 r_3)) (h' := cxW (u2 (u2 (u2 (u2 z 3 2 pi) 3 3 len) 38 1 sz) 91 3 t) (uf (uf (uf (uf f 4 w) 92 (iu (iu g 0 r_3) 1 r_8)) 93 lt) 94 sk) C T rc tl) rfl rfl (by omega) (by omega) (by omega) rfl ?_
    refine Rx.walk 2 (pc' := 43) (L' := [some (.ref 91), some (.int (iz v)), some (.int (iz ci)), some (.ref 38), some (.ref (cpl j1)), none, none, none, none]) (st' := [.int (iz v), .ref 91]) (h' := cxW (u2 (u2 (u2 (u2 z 3 2 pi) 3 3 len) 38 1 sz) 91 3 t) (uf (uf (uf (uf f 4 w) 92 (iu (iu g 0 r_3) 1 r_8)) 93 lt) 94 sk) C T rc tl) rfl ?_
    refine Rx.callx (m' := m_X10_trayOf) (as := [.int (iz v)]) (rest := [.ref 91]) rfl (n_trayOf _ (cxW (u2 (u2 (u2 (u2 z 3 2 pi) 3 3 len) 38 1 sz) 91 3 t) (uf (uf (uf (uf f 4 w) 92 (iu (iu g 0 r_3) 1 r_8)) 93 lt) 94 sk) C T rc tl)  v (by first | assumption | omega) (by first | assumption | omega)) (fun v15 h16 q17 => ?_)
    obtain ⟨r_13, rfl, rfl, f14⟩ := q17
    refine Rx.walk 0 (pc' := 46) (L' := [some (.ref 91), some (.int (iz v)), some (.int (iz ci)), some (.ref 38), some (.ref (cpl j1)), none, none, none, none]) (st' := [.int (iz r_13), .ref 91]) (h' := cxW (u2 (u2 (u2 (u2 z 3 2 pi) 3 3 len) 38 1 sz) 91 3 t) (uf (uf (uf (uf f 4 w) 92 (iu (iu g 0 r_3) 1 r_8)) 93 lt) 94 sk) C T rc tl) rfl ?_
    refine Rx.callx (m' := m_X10_digitOnTray) (as := [.int (iz r_13)]) (rest := [.ref 91]) rfl (n_digitOnTray _ (cxW (u2 (u2 (u2 (u2 z 3 2 pi) 3 3 len) 38 1 sz) 91 3 t) (uf (uf (uf (uf f 4 w) 92 (iu (iu g 0 r_3) 1 r_8)) 93 lt) 94 sk) C T rc tl)  r_13 (dgt (v % 16)) hvt.2.1 hvt.2.2 (by rw [f14]; exact hvt.1)) (fun v18 h19 q20 => ?_)
    obtain ⟨rfl, rfl⟩ := q20
    refine Rx.walk 0 (pc' := 49) (L' := [some (.ref 91), some (.int (iz v)), some (.int (iz ci)), some (.ref 38), some (.ref (cpl j1)), none, none, none, none]) (st' := [.int (iz (dgt (v % 16))), .ref 91]) (h' := cxW (u2 (u2 (u2 (u2 z 3 2 pi) 3 3 len) 38 1 sz) 91 3 t) (uf (uf (uf (uf f 4 w) 92 (iu (iu g 0 r_3) 1 r_8)) 93 lt) 94 sk) C T rc tl) rfl ?_
    refine Rx.walk 3 (pc' := 55) (L' := [some (.ref 91), some (.int (iz v)), some (.int (iz ci)), some (.ref 38), some (.ref (cpl j1)), none, none, none, none]) (st' := [.ref (cpl j1), .ref 91]) (h' := cxW (u2 (u2 (u2 (u2 z 3 2 pi) 3 3 len) 38 1 sz) 91 3 (dgt (v % 16))) (uf (uf (uf (uf f 4 w) 92 (iu (iu g 0 r_3) 1 r_8)) 93 lt) 94 sk) C T rc tl) rfl ?_
    refine Rx.gfS rfl rfl (cW_C (by omega)) rfl ?_
    refine Rx.walk 1 (pc' := 60) (L' := [some (.ref 91), some (.int (iz v)), some (.int (iz ci)), some (.ref 38), some (.ref (cpl j1)), none, none, none, none]) (st' := [.ref (cpl j1), .ref (cpl j1 + 4), .ref 91]) (h' := cxW (u2 (u2 (u2 (u2 z 3 2 pi) 3 3 len) 38 1 sz) 91 3 (dgt (v % 16))) (uf (uf (uf (uf f 4 w) 92 (iu (iu g 0 r_3) 1 r_8)) 93 lt) 94 sk) C T rc tl) rfl ?_
    refine Rx.gfS rfl rfl (cW_C (by omega)) rfl ?_
    refine Rx.ial (g := ((C j1).2.2.2.2.2.2.1)) rfl (cW_C4 (by omega)) (by omega) (by omega) (by omega) ?_
    have hz1 : 0 ≤ r_3 ∧ r_3 < 3125 := by have := f4; omega
    have hz2 : 0 ≤ r_8 ∧ r_8 < 3125 := by have := f9; omega
    refine Rx.callx (m' := m_X1_handsBack) (as := [.ref 91, .int (iz (((C j1).2.2.2.2.2.2.1) ((C j1).2.2.2.2.2.2.2)))]) (rest := []) rfl (x_handsB _ (u2 (u2 (u2 z 3 2 pi) 3 3 len) 38 1 sz) (uf (uf f 93 lt) 94 sk) C T rc tl  (((C j1).2.2.2.2.2.2.1) ((C j1).2.2.2.2.2.2.2)) w (iu (iu g 0 r_3) 1 r_8) (dgt (v % 16)) hw ⟨by omega, by omega⟩ (by simp only [iu_at, iu_ne _ _ (show (0 : Int) ≠ 1 by decide)]; exact hz1) (by simp only [iu_at]; exact hz2) ⟨by omega, by omega⟩) (fun v27 h28 q29 => ?_)
    obtain ⟨r_21, g_22, t_23, rfl, rfl, f24, f25, f26⟩ := q29
    refine Rx.walk 0 (pc' := 67) (L' := [some (.ref 91), some (.int (iz v)), some (.int (iz ci)), some (.ref 38), some (.ref (cpl j1)), none, none, none, none]) (st' := [.int (iz r_21)]) (h' := cxW (u2 (u2 (u2 (u2 z 3 2 pi) 3 3 len) 38 1 sz) 91 3 t_23) (uf (uf (uf (uf f 4 w) 92 g_22) 93 lt) 94 sk) C T rc tl) rfl ?_
    have hbx := f24
    simp only [iu_at, iu_ne _ _ (show (0 : Int) ≠ 1 by decide)] at hbx
    rw [show r_3 = v / 16 / 3125 by rcases f4 with q | q; exact q.2; (exfalso; omega), show r_8 = v / 16 % 3125 by rcases f9 with q | q; (exfalso; omega); exact q.2] at hbx
    have hby := f25
    refine Rx.ne1 rfl rfl ⟨by omega, by omega⟩ (fun b30 => ?_) (fun b30 => ?_)
    · refine Rx.walk 1 (pc' := 74) (L' := [some (.ref 91), some (.int (iz v)), some (.int (iz ci)), some (.ref 38), some (.ref (cpl j1)), none, none, none, none]) (st' := [.ref (cpl j1)]) (h' := cxW (u2 (u2 (u2 (u2 z 3 2 pi) 3 3 len) 38 1 sz) 91 3 t_23) (uf (uf (uf (uf f 4 w) 92 g_22) 93 lt) 94 sk) C T rc tl) rfl ?_
      refine Rx.gfS rfl rfl (cW_C (by omega)) rfl ?_
      refine Rx.walk 1 (pc' := 78) (L' := [some (.ref 91), some (.int (iz v)), some (.int (iz ci)), some (.ref 38), some (.ref (cpl j1)), none, none, none, none]) (st' := [.int (iz 4), .int (iz ((C j1).2.2.2.2.2.2.2))]) (h' := cxW (u2 (u2 (u2 (u2 z 3 2 pi) 3 3 len) 38 1 sz) 91 3 t_23) (uf (uf (uf (uf f 4 w) 92 g_22) 93 lt) 94 sk) C T rc tl) rfl ?_
      refine Rx.imul rfl ?_
      refine Rx.walk 3 (pc' := 84) (L' := [some (.ref 91), some (.int (iz v)), some (.int (iz ci)), some (.ref 38), some (.ref (cpl j1)), some (.int (iz (((C j1).2.2.2.2.2.2.2) * 4))), some (.int (iz 0)), none, none]) (st' := []) (h' := cxW (u2 (u2 (u2 (u2 z 3 2 pi) 3 3 len) 38 1 sz) 91 3 t_23) (uf (uf (uf (uf f 4 w) 92 g_22) 93 lt) 94 sk) C T rc tl) rfl ?_
      refine x_tillB_l38 _ (u2 z 91 3 t_23) f C T rc tl  v ci j1 (((C j1).2.2.2.2.2.2.2) * 4) (puB V w pi len (hnd (C j1) ((C j1).2.2.2.2.2.2.2) 0) (hbk w 11 (v / 16 / 3125) (v / 16 % 3125) (dgt (v % 16)) ((C j1).2.2.2.2.2.2.1 ((C j1).2.2.2.2.2.2.2))).2.1 (hbk w 11 (v / 16 / 3125) (v / 16 % 3125) (dgt (v % 16)) ((C j1).2.2.2.2.2.2.1 ((C j1).2.2.2.2.2.2.2))).2.2.1) pi len w sz ln cd V hw hpi hlen hrc hsz hcb hV (by omega) hcu hch rfl _ ?_ ?_ (((C j1).2.2.2.2.2.1 ((C j1).2.2.2.2.2.2.2) - 0) + 1 : Int).toNat 0 g_22 lt sk none none ⟨by omega, by omega⟩ (by have z := hby; exact z.1) (by have z := hby; exact z.2.1) (by rw [hbx.2.1, hbx.2.2.1]) (by omega) 
      · intro g_31 lt_32 sk_33 f34
        show (fun (rv : Option Value) (h : AmH) => ∃ r : Int, ∃ g' : Int → Int, ∃ t' : Int, ∃ lt' : Int → Int, ∃ sk' : Int → Int, rv = some (.int (iz r)) ∧ h = cxW (u2 (u2 (u2 (u2 z 3 2 pi) 3 3 len) 38 1 sz) 91 3 t') (uf (uf (uf (uf f 4 w) 92 g') 93 lt') 94 sk') C T rc tl ∧ r = tbN V w pi len (hOf (C ci.toNat)) v) (some (Value.int (iz (-1)))) (cxW (u2 (u2 (u2 (u2 z 3 2 pi) 3 3 len) 38 1 sz) 91 3 t_23) (uf (uf (uf (uf f 4 w) 92 g_31) 93 lt_32) 94 sk_33) C T rc tl)
        refine ⟨_, _, _, _, _, rfl, rfl, ?_⟩
        rw [hcj]
        unfold tbN
        rw [hOf_s (show ((C j1).2.2.2.2.2.2.2) ≠ -1 by omega)]
        rw [tbV_p (show (hbk w 11 (v / 16 / 3125) (v / 16 % 3125) (dgt (v % 16)) ((C j1).2.2.2.2.2.2.1 ((C j1).2.2.2.2.2.2.2))).1 ≠ 0 by rw [← (hbx).1]; omega) (show (puB V w pi len (hnd (C j1) ((C j1).2.2.2.2.2.2.2) 0) (hbk w 11 (v / 16 / 3125) (v / 16 % 3125) (dgt (v % 16)) ((C j1).2.2.2.2.2.2.1 ((C j1).2.2.2.2.2.2.2))).2.1 (hbk w 11 (v / 16 / 3125) (v / 16 % 3125) (dgt (v % 16)) ((C j1).2.2.2.2.2.2.1 ((C j1).2.2.2.2.2.2.2))).2.2.1).1 = 0 from f34)]
      · intro i_35 g_36 lt_37 sk_38 x7_39 x8_40 f41 f42
        refine Rx.walk 0 (pc' := 155) (L' := [some (.ref 91), some (.int (iz v)), some (.int (iz ci)), some (.ref 38), some (.ref (cpl j1)), some (.int (iz (((C j1).2.2.2.2.2.2.2) * 4))), some (.int (iz i_35)), x7_39, x8_40]) (st' := []) (h' := cxW (u2 (u2 (u2 (u2 z 3 2 pi) 3 3 len) 38 1 sz) 91 3 t_23) (uf (uf (uf (uf f 4 w) 92 g_36) 93 lt_37) 94 sk_38) C T rc tl) rfl ?_
        have hlx := f42
        refine Rx.walk 3 (pc' := 160) (L' := [some (.ref 91), some (.int (iz v)), some (.int (iz ci)), some (.ref 38), some (.ref (cpl j1)), some (.int (iz (((C j1).2.2.2.2.2.2.2) * 4))), some (.int (iz i_35)), x7_39, x8_40]) (st' := [.int (iz 0), .ref 92]) (h' := cxW (u2 (u2 (u2 (u2 z 3 2 pi) 3 3 len) 38 1 sz) 91 3 t_23) (uf (uf (uf (uf f 4 w) 92 g_36) 93 lt_37) 94 sk_38) C T rc tl) rfl ?_
        refine Rx.ial (g := g_36) rfl rfl (by omega) (by omega) (by omega) ?_
        refine Rx.walk 3 (pc' := 166) (L' := [some (.ref 91), some (.int (iz v)), some (.int (iz ci)), some (.ref 38), some (.ref (cpl j1)), some (.int (iz (((C j1).2.2.2.2.2.2.2) * 4))), some (.int (iz i_35)), x7_39, x8_40]) (st' := [.int (iz 1), .ref 92, .int (iz (g_36 0))]) (h' := cxW (u2 (u2 (u2 (u2 z 3 2 pi) 3 3 len) 38 1 sz) 91 3 t_23) (uf (uf (uf (uf f 4 w) 92 g_36) 93 lt_37) 94 sk_38) C T rc tl) rfl ?_
        refine Rx.ial (g := g_36) rfl rfl (by omega) (by omega) (by omega) ?_
        refine Rx.walk 2 (pc' := 171) (L' := [some (.ref 91), some (.int (iz v)), some (.int (iz ci)), some (.ref 38), some (.ref (cpl j1)), some (.int (iz (((C j1).2.2.2.2.2.2.2) * 4))), some (.int (iz i_35)), x7_39, x8_40]) (st' := [.int (iz t_23), .int (iz (g_36 1)), .int (iz (g_36 0))]) (h' := cxW (u2 (u2 (u2 (u2 z 3 2 pi) 3 3 len) 38 1 sz) 91 3 t_23) (uf (uf (uf (uf f 4 w) 92 g_36) 93 lt_37) 94 sk_38) C T rc tl) rfl ?_
        refine Rx.callx (m' := m_X10_trayWith) (as := [.int (iz t_23)]) (rest := [.int (iz (g_36 1)), .int (iz (g_36 0))]) rfl (n_trayWith _ (cxW (u2 (u2 (u2 (u2 z 3 2 pi) 3 3 len) 38 1 sz) 91 3 t_23) (uf (uf (uf (uf f 4 w) 92 g_36) 93 lt_37) 94 sk_38) C T rc tl)  t_23 (by first | assumption | omega) (by first | assumption | omega)) (fun v43 h44 q45 => ?_)
        obtain ⟨rfl, rfl⟩ := q45
        refine Rx.walk 0 (pc' := 174) (L' := [some (.ref 91), some (.int (iz v)), some (.int (iz ci)), some (.ref 38), some (.ref (cpl j1)), some (.int (iz (((C j1).2.2.2.2.2.2.2) * 4))), some (.int (iz i_35)), x7_39, x8_40]) (st' := [.int (iz (tw t_23)), .int (iz (g_36 1)), .int (iz (g_36 0))]) (h' := cxW (u2 (u2 (u2 (u2 z 3 2 pi) 3 3 len) 38 1 sz) 91 3 t_23) (uf (uf (uf (uf f 4 w) 92 g_36) 93 lt_37) 94 sk_38) C T rc tl) rfl ?_
        refine Rx.callx (m' := m_X10_number) (as := [.int (iz (g_36 0)), .int (iz (g_36 1)), .int (iz (tw t_23))]) (rest := []) rfl (n_number _ (cxW (u2 (u2 (u2 (u2 z 3 2 pi) 3 3 len) 38 1 sz) 91 3 t_23) (uf (uf (uf (uf f 4 w) 92 g_36) 93 lt_37) 94 sk_38) C T rc tl)  (g_36 0) (g_36 1) (tw t_23) ) (fun v46 h47 q48 => ?_)
        obtain ⟨rfl, rfl⟩ := q48
        refine Rx.walk 0 (pc' := 177) (L' := [some (.ref 91), some (.int (iz v)), some (.int (iz ci)), some (.ref 38), some (.ref (cpl j1)), some (.int (iz (((C j1).2.2.2.2.2.2.2) * 4))), some (.int (iz i_35)), x7_39, x8_40]) (st' := [.int (iz (((((g_36 0) * 3125) + (g_36 1)) * 16) + (tw t_23)))]) (h' := cxW (u2 (u2 (u2 (u2 z 3 2 pi) 3 3 len) 38 1 sz) 91 3 t_23) (uf (uf (uf (uf f 4 w) 92 g_36) 93 lt_37) 94 sk_38) C T rc tl) rfl ?_
        refine Rx.ret rfl ?_
        refine ⟨_, _, _, _, _, rfl, rfl, ?_⟩
        rw [hcj]
        unfold tbN
        rw [hOf_s (show ((C j1).2.2.2.2.2.2.2) ≠ -1 by omega)]
        rw [tbV_s (show (hbk w 11 (v / 16 / 3125) (v / 16 % 3125) (dgt (v % 16)) ((C j1).2.2.2.2.2.2.1 ((C j1).2.2.2.2.2.2.2))).1 ≠ 0 by rw [← (hbx).1]; omega) (show (puB V w pi len (hnd (C j1) ((C j1).2.2.2.2.2.2.2) 0) (hbk w 11 (v / 16 / 3125) (v / 16 % 3125) (dgt (v % 16)) ((C j1).2.2.2.2.2.2.1 ((C j1).2.2.2.2.2.2.2))).2.1 (hbk w 11 (v / 16 / 3125) (v / 16 % 3125) (dgt (v % 16)) ((C j1).2.2.2.2.2.2.1 ((C j1).2.2.2.2.2.2.2))).2.2.1).1 ≠ 0 by rw [(f41).1]; decide), ← (f41).2.1, ← (f41).2.2, ← hbx.2.2.2]
        rfl
    · refine Rx.walk 1 (pc' := 71) (L' := [some (.ref 91), some (.int (iz v)), some (.int (iz ci)), some (.ref 38), some (.ref (cpl j1)), none, none, none, none]) (st' := [.int (iz (-1))]) (h' := cxW (u2 (u2 (u2 (u2 z 3 2 pi) 3 3 len) 38 1 sz) 91 3 t_23) (uf (uf (uf (uf f 4 w) 92 g_22) 93 lt) 94 sk) C T rc tl) rfl ?_
      refine Rx.ret rfl ?_
      refine ⟨_, _, _, _, _, rfl, rfl, ?_⟩
      rw [hcj]
      unfold tbN
      rw [hOf_s (show ((C j1).2.2.2.2.2.2.2) ≠ -1 by omega)]
      rw [tbV_b (show (hbk w 11 (v / 16 / 3125) (v / 16 % 3125) (dgt (v % 16)) ((C j1).2.2.2.2.2.2.1 ((C j1).2.2.2.2.2.2.2))).1 = 0 by rw [← (hbx).1]; omega)]
  · refine Rx.walk 1 (pc' := 18) (L' := [some (.ref 91), some (.int (iz v)), some (.int (iz ci)), some (.ref 38), some (.ref (cpl j1)), none, none, none, none]) (st' := [.int (iz (-1))]) (h' := cxW (u2 (u2 (u2 (u2 z 3 2 pi) 3 3 len) 38 1 sz) 91 3 t) (uf (uf (uf (uf f 4 w) 92 g) 93 lt) 94 sk) C T rc tl) rfl ?_
    refine Rx.ret rfl ?_
    refine ⟨_, _, _, _, _, rfl, rfl, ?_⟩
    rw [hcj]
    unfold tbN
    rw [hOf_n (show ((C j1).2.2.2.2.2.2.2) = -1 by omega)]
    rfl
set_option maxRecDepth 100000 in
set_option maxHeartbeats 4000000 in
theorem x_chosenP40 (d : Nat) (z : Nat → Nat → Int) (f : Nat → Int → Int) (C : Nat → CuR) (T : Nat → TsR) (rc : Nat → Nat) (tl : AmH)  (e : Int) (g : Int → Int) (pi : Int) (len : Int) (w : Int → Int) (lt : Int → Int) (sk : Int → Int) (sz : Int) (ln : Nat) (cd : Int → Int) (V : (Int → Int) → Int) (hw : wOK w) (hpi : pi = 1 ∨ pi = 2) (hlen : 1 ≤ len ∧ len ≤ 5) (hrc : 98 ≤ rc 40 ∧ am_nth tl (rc 40 - 98) = some (.inl (.int, ln, .inl (av cd)))) (hsz : 0 ≤ sz ∧ sz ≤ 161 ∧ sz = (ln : Int)) (hcb : ∀ j : Int, 0 ≤ j → j < sz → sgB (cd j)) (hV : ruV V (crem cd 0 sz.toNat)) (he : 1 ≤ e ∧ e ≤ 4) (hg0 : 0 ≤ g 0 ∧ g 0 < 3125) (hg1 : 0 ≤ g 1 ∧ g 1 < 3125) : Rx (d + 3) m_X1_chosenPipe 0 (am_ent [.ref 91, .int (iz e), .ref 40] 7) [] (cxW (u2 (u2 (u2 z 3 2 pi) 3 3 len) 40 1 sz) (uf (uf (uf (uf f 4 w) 92 g) 93 lt) 94 sk) C T rc tl) (fun rv h => ∃ r : Int, ∃ lt' : Int → Int, ∃ sk' : Int → Int, rv = some (.int (iz r)) ∧ h = cxW (u2 (u2 (u2 z 3 2 pi) 3 3 len) 40 1 sz) (uf (uf (uf (uf f 4 w) 92 g) 93 lt') 94 sk') C T rc tl ∧ r = chP V w pi len e (g 0) (g 1)) := by
  have hh0 : 0 ≤ ht (g 0) ∧ ht (g 0) ≤ 5 := by have := ht_c (g 0); omega
  have hh1 : 0 ≤ ht (g 1) ∧ ht (g 1) ≤ 5 := by have := ht_c (g 1); omega
  refine Rx.walk 0 (pc' := 0) (L' := [some (.ref 91), some (.int (iz e)), some (.ref 40), none, none, none, none]) (st' := []) (h' := cxW (u2 (u2 (u2 z 3 2 pi) 3 3 len) 40 1 sz) (uf (uf (uf (uf f 4 w) 92 g) 93 lt) 94 sk) C T rc tl) rfl ?_
  refine Rx.walk 10 (pc' := 17) (L' := [some (.ref 91), some (.int (iz e)), some (.ref 40), some (.int (iz (-1))), some (.int (iz 0)), some (.int (iz 0)), none]) (st' := [.int (iz pi), .int (iz 0)]) (h' := cxW (u2 (u2 (u2 z 3 2 pi) 3 3 len) 40 1 sz) (uf (uf (uf (uf f 4 w) 92 g) 93 lt) 94 sk) C T rc tl) rfl ?_
  refine Rx.ge2 rfl rfl ⟨by omega, by omega⟩ ⟨by omega, by omega⟩ (fun b1 => by omega) (fun b1 => ?_)
  refine Rx.walk 2 (pc' := 23) (L' := [some (.ref 91), some (.int (iz e)), some (.ref 40), some (.int (iz (-1))), some (.int (iz 0)), some (.int (iz 0)), none]) (st' := [.int (iz 2), .int (iz 0)]) (h' := cxW (u2 (u2 (u2 z 3 2 pi) 3 3 len) 40 1 sz) (uf (uf (uf (uf f 4 w) 92 g) 93 lt) 94 sk) C T rc tl) rfl ?_
  refine Rx.ge2 rfl rfl ⟨by omega, by omega⟩ ⟨by omega, by omega⟩ (fun b2 => by omega) (fun b2 => ?_)
  refine Rx.walk 3 (pc' := 32) (L' := [some (.ref 91), some (.int (iz e)), some (.ref 40), some (.int (iz (-1))), some (.int (iz 0)), some (.int (iz 0)), none]) (st' := [.int (iz 0), .ref 92]) (h' := cxW (u2 (u2 (u2 z 3 2 pi) 3 3 len) 40 1 sz) (uf (uf (uf (uf f 4 w) 92 g) 93 lt) 94 sk) C T rc tl) rfl ?_
  refine Rx.ial (g := g) rfl rfl (by omega) (by omega) (by omega) ?_
  refine Rx.callx (m' := m_X10_height) (as := [.int (iz (g 0))]) (rest := []) rfl (n_height _ (cxW (u2 (u2 (u2 z 3 2 pi) 3 3 len) 40 1 sz) (uf (uf (uf (uf f 4 w) 92 g) 93 lt) 94 sk) C T rc tl)  (g 0) ⟨by omega, by omega⟩) (fun v5 h6 q7 => ?_)
  obtain ⟨r_3, rfl, rfl, f4⟩ := q7
  refine Rx.walk 0 (pc' := 36) (L' := [some (.ref 91), some (.int (iz e)), some (.ref 40), some (.int (iz (-1))), some (.int (iz 0)), some (.int (iz 0)), none]) (st' := [.int (iz r_3)]) (h' := cxW (u2 (u2 (u2 z 3 2 pi) 3 3 len) 40 1 sz) (uf (uf (uf (uf f 4 w) 92 g) 93 lt) 94 sk) C T rc tl) rfl ?_
  refine Rx.walk 3 (pc' := 43) (L' := [some (.ref 91), some (.int (iz e)), some (.ref 40), some (.int (iz (-1))), some (.int (iz 0)), some (.int (iz 0)), none]) (st' := [.int (iz len), .int (iz r_3)]) (h' := cxW (u2 (u2 (u2 z 3 2 pi) 3 3 len) 40 1 sz) (uf (uf (uf (uf f 4 w) 92 g) 93 lt) 94 sk) C T rc tl) rfl ?_
  refine Rx.ge2 rfl rfl ⟨by omega, by omega⟩ ⟨by omega, by omega⟩ (fun b8 => ?_) (fun b8 => ?_)
  · refine Rx.iinc (b := 1) rfl rfl rfl ?_
    refine Rx.walk 0 (pc' := 89) (L' := [some (.ref 91), some (.int (iz e)), some (.ref 40), some (.int (iz (-1))), some (.int (iz 0)), some (.int (iz 1)), none]) (st' := []) (h' := cxW (u2 (u2 (u2 z 3 2 pi) 3 3 len) 40 1 sz) (uf (uf (uf (uf f 4 w) 92 g) 93 lt) 94 sk) C T rc tl) rfl ?_
    refine Rx.walk 5 (pc' := 17) (L' := [some (.ref 91), some (.int (iz e)), some (.ref 40), some (.int (iz (-1))), some (.int (iz 0)), some (.int (iz 1)), none]) (st' := [.int (iz pi), .int (iz 1)]) (h' := cxW (u2 (u2 (u2 z 3 2 pi) 3 3 len) 40 1 sz) (uf (uf (uf (uf f 4 w) 92 g) 93 lt) 94 sk) C T rc tl) rfl ?_
    refine Rx.ge2 rfl rfl ⟨by omega, by omega⟩ ⟨by omega, by omega⟩ (fun b9 => ?_) (fun b9 => ?_)
    · refine Rx.walk 1 (pc' := 93) (L' := [some (.ref 91), some (.int (iz e)), some (.ref 40), some (.int (iz (-1))), some (.int (iz 0)), some (.int (iz 1)), none]) (st' := [.int (iz (-1))]) (h' := cxW (u2 (u2 (u2 z 3 2 pi) 3 3 len) 40 1 sz) (uf (uf (uf (uf f 4 w) 92 g) 93 lt) 94 sk) C T rc tl) rfl ?_
      refine Rx.ret rfl ?_
      refine ⟨_, _, _, rfl, rfl, ?_⟩
      unfold chP
      rw [if_neg (by omega), if_neg (by omega)]
    · refine Rx.walk 2 (pc' := 23) (L' := [some (.ref 91), some (.int (iz e)), some (.ref 40), some (.int (iz (-1))), some (.int (iz 0)), some (.int (iz 1)), none]) (st' := [.int (iz 2), .int (iz 1)]) (h' := cxW (u2 (u2 (u2 z 3 2 pi) 3 3 len) 40 1 sz) (uf (uf (uf (uf f 4 w) 92 g) 93 lt) 94 sk) C T rc tl) rfl ?_
      refine Rx.ge2 rfl rfl ⟨by omega, by omega⟩ ⟨by omega, by omega⟩ (fun b10 => by omega) (fun b10 => ?_)
      refine Rx.walk 3 (pc' := 32) (L' := [some (.ref 91), some (.int (iz e)), some (.ref 40), some (.int (iz (-1))), some (.int (iz 0)), some (.int (iz 1)), none]) (st' := [.int (iz 1), .ref 92]) (h' := cxW (u2 (u2 (u2 z 3 2 pi) 3 3 len) 40 1 sz) (uf (uf (uf (uf f 4 w) 92 g) 93 lt) 94 sk) C T rc tl) rfl ?_
      refine Rx.ial (g := g) rfl rfl (by omega) (by omega) (by omega) ?_
      refine Rx.callx (m' := m_X10_height) (as := [.int (iz (g 1))]) (rest := []) rfl (n_height _ (cxW (u2 (u2 (u2 z 3 2 pi) 3 3 len) 40 1 sz) (uf (uf (uf (uf f 4 w) 92 g) 93 lt) 94 sk) C T rc tl)  (g 1) ⟨by omega, by omega⟩) (fun v13 h14 q15 => ?_)
      obtain ⟨r_11, rfl, rfl, f12⟩ := q15
      refine Rx.walk 0 (pc' := 36) (L' := [some (.ref 91), some (.int (iz e)), some (.ref 40), some (.int (iz (-1))), some (.int (iz 0)), some (.int (iz 1)), none]) (st' := [.int (iz r_11)]) (h' := cxW (u2 (u2 (u2 z 3 2 pi) 3 3 len) 40 1 sz) (uf (uf (uf (uf f 4 w) 92 g) 93 lt) 94 sk) C T rc tl) rfl ?_
      refine Rx.walk 3 (pc' := 43) (L' := [some (.ref 91), some (.int (iz e)), some (.ref 40), some (.int (iz (-1))), some (.int (iz 0)), some (.int (iz 1)), none]) (st' := [.int (iz len), .int (iz r_11)]) (h' := cxW (u2 (u2 (u2 z 3 2 pi) 3 3 len) 40 1 sz) (uf (uf (uf (uf f 4 w) 92 g) 93 lt) 94 sk) C T rc tl) rfl ?_
      refine Rx.ge2 rfl rfl ⟨by omega, by omega⟩ ⟨by omega, by omega⟩ (fun b16 => ?_) (fun b16 => ?_)
      · refine Rx.iinc (b := 1) rfl rfl rfl ?_
        refine Rx.walk 0 (pc' := 89) (L' := [some (.ref 91), some (.int (iz e)), some (.ref 40), some (.int (iz (-1))), some (.int (iz 0)), some (.int (iz 2)), none]) (st' := []) (h' := cxW (u2 (u2 (u2 z 3 2 pi) 3 3 len) 40 1 sz) (uf (uf (uf (uf f 4 w) 92 g) 93 lt) 94 sk) C T rc tl) rfl ?_
        refine Rx.walk 5 (pc' := 17) (L' := [some (.ref 91), some (.int (iz e)), some (.ref 40), some (.int (iz (-1))), some (.int (iz 0)), some (.int (iz 2)), none]) (st' := [.int (iz pi), .int (iz 2)]) (h' := cxW (u2 (u2 (u2 z 3 2 pi) 3 3 len) 40 1 sz) (uf (uf (uf (uf f 4 w) 92 g) 93 lt) 94 sk) C T rc tl) rfl ?_
        refine Rx.ge2 rfl rfl ⟨by omega, by omega⟩ ⟨by omega, by omega⟩ (fun b17 => ?_) (fun b17 => by omega)
        refine Rx.walk 1 (pc' := 93) (L' := [some (.ref 91), some (.int (iz e)), some (.ref 40), some (.int (iz (-1))), some (.int (iz 0)), some (.int (iz 2)), none]) (st' := [.int (iz (-1))]) (h' := cxW (u2 (u2 (u2 z 3 2 pi) 3 3 len) 40 1 sz) (uf (uf (uf (uf f 4 w) 92 g) 93 lt) 94 sk) C T rc tl) rfl ?_
        refine Rx.ret rfl ?_
        refine ⟨_, _, _, rfl, rfl, ?_⟩
        unfold chP
        rw [if_neg (by omega), if_neg (by omega)]
      · refine Rx.walk 3 (pc' := 50) (L' := [some (.ref 91), some (.int (iz e)), some (.ref 40), some (.int (iz (-1))), some (.int (iz 0)), some (.int (iz 1)), none]) (st' := [.int (iz 1), .int (iz e), .ref 91]) (h' := cxW (u2 (u2 (u2 z 3 2 pi) 3 3 len) 40 1 sz) (uf (uf (uf (uf f 4 w) 92 g) 93 lt) 94 sk) C T rc tl) rfl ?_
        refine Rx.callx (m' := m_X1_setLetters) (as := [.ref 91, .int (iz e), .int (iz 1)]) (rest := []) rfl (x_setL1 _ (u2 (u2 (u2 z 3 2 pi) 3 3 len) 40 1 sz) (uf f 94 sk) C T rc tl  e w g lt hw ⟨by omega, by omega⟩ hg0 hg1) (fun v20 h21 q22 => ?_)
        obtain ⟨lt_18, rfl, rfl, f19⟩ := q22
        refine Rx.walk 0 (pc' := 53) (L' := [some (.ref 91), some (.int (iz e)), some (.ref 40), some (.int (iz (-1))), some (.int (iz 0)), some (.int (iz 1)), none]) (st' := []) (h' := cxW (u2 (u2 (u2 z 3 2 pi) 3 3 len) 40 1 sz) (uf (uf (uf (uf f 4 w) 92 g) 93 lt_18) 94 sk) C T rc tl) rfl ?_
        refine Rx.walk 5 (pc' := 62) (L' := [some (.ref 91), some (.int (iz e)), some (.ref 40), some (.int (iz (-1))), some (.int (iz 0)), some (.int (iz 1)), none]) (st' := [.ref 94, .ref 93, .ref 40]) (h' := cxW (u2 (u2 (u2 z 3 2 pi) 3 3 len) 40 1 sz) (uf (uf (uf (uf f 4 w) 92 g) 93 lt_18) 94 sk) C T rc tl) rfl ?_
        have hc1 : bdL (ltB w e 1 (g 1) (g 0)) := ltB_b hw ⟨by omega, by omega⟩ ⟨by omega, by omega⟩ hg1.1
        have hb1 := bdL_eq (fun j a b => (f19 j a b).symm) hc1
        refine Rx.callx (m' := m_X6_worth) (as := [.ref 40, .ref 93, .ref 94]) (rest := []) rfl (x_worth40 _ (u2 (u2 z 3 2 pi) 3 3 len) (uf (uf f 4 w) 92 g) C T rc tl  sz ln cd lt_18 sk hrc hsz hcb hb1 (hV _ hb1).1) (fun v26 h27 q28 => ?_)
        obtain ⟨r_23, g_24, rfl, rfl, f25⟩ := q28
        refine Rx.walk 0 (pc' := 65) (L' := [some (.ref 91), some (.int (iz e)), some (.ref 40), some (.int (iz (-1))), some (.int (iz 0)), some (.int (iz 1)), none]) (st' := [.int (iz r_23)]) (h' := cxW (u2 (u2 (u2 z 3 2 pi) 3 3 len) 40 1 sz) (uf (uf (uf (uf f 4 w) 92 g) 93 lt_18) 94 g_24) C T rc tl) rfl ?_
        have hv1 : r_23 = V (ltB w e 1 (g 1) (g 0)) := by rw [f25, ← (hV _ hb1).2.1]; exact ruV_congr hV hb1 f19
        obtain ⟨hu1, hx1⟩ := (hV _ hc1).2.2
        rw [← hv1] at hu1 hx1
        refine Rx.walk 3 (pc' := 69) (L' := [some (.ref 91), some (.int (iz e)), some (.ref 40), some (.int (iz (-1))), some (.int (iz 0)), some (.int (iz 1)), some (.int (iz r_23))]) (st' := [.int (iz (-1)), .int (iz (-1))]) (h' := cxW (u2 (u2 (u2 z 3 2 pi) 3 3 len) 40 1 sz) (uf (uf (uf (uf f 4 w) 92 g) 93 lt_18) 94 g_24) C T rc tl) rfl ?_
        refine Rx.eq2 rfl rfl ⟨by omega, by omega⟩ ⟨by omega, by omega⟩ (fun b29 => ?_) (fun b29 => by omega)
        refine Rx.walk 4 (pc' := 86) (L' := [some (.ref 91), some (.int (iz e)), some (.ref 40), some (.int (iz 1)), some (.int (iz r_23)), some (.int (iz 1)), some (.int (iz r_23))]) (st' := []) (h' := cxW (u2 (u2 (u2 z 3 2 pi) 3 3 len) 40 1 sz) (uf (uf (uf (uf f 4 w) 92 g) 93 lt_18) 94 g_24) C T rc tl) rfl ?_
        refine Rx.iinc (b := 1) rfl rfl rfl ?_
        refine Rx.walk 0 (pc' := 89) (L' := [some (.ref 91), some (.int (iz e)), some (.ref 40), some (.int (iz 1)), some (.int (iz r_23)), some (.int (iz 2)), some (.int (iz r_23))]) (st' := []) (h' := cxW (u2 (u2 (u2 z 3 2 pi) 3 3 len) 40 1 sz) (uf (uf (uf (uf f 4 w) 92 g) 93 lt_18) 94 g_24) C T rc tl) rfl ?_
        refine Rx.walk 5 (pc' := 17) (L' := [some (.ref 91), some (.int (iz e)), some (.ref 40), some (.int (iz 1)), some (.int (iz r_23)), some (.int (iz 2)), some (.int (iz r_23))]) (st' := [.int (iz pi), .int (iz 2)]) (h' := cxW (u2 (u2 (u2 z 3 2 pi) 3 3 len) 40 1 sz) (uf (uf (uf (uf f 4 w) 92 g) 93 lt_18) 94 g_24) C T rc tl) rfl ?_
        refine Rx.ge2 rfl rfl ⟨by omega, by omega⟩ ⟨by omega, by omega⟩ (fun b30 => ?_) (fun b30 => by omega)
        refine Rx.walk 1 (pc' := 93) (L' := [some (.ref 91), some (.int (iz e)), some (.ref 40), some (.int (iz 1)), some (.int (iz r_23)), some (.int (iz 2)), some (.int (iz r_23))]) (st' := [.int (iz 1)]) (h' := cxW (u2 (u2 (u2 z 3 2 pi) 3 3 len) 40 1 sz) (uf (uf (uf (uf f 4 w) 92 g) 93 lt_18) 94 g_24) C T rc tl) rfl ?_
        refine Rx.ret rfl ?_
        refine ⟨_, _, _, rfl, rfl, ?_⟩
        unfold chP
        rw [if_neg (by omega), if_pos ⟨by omega, by omega⟩]
  · refine Rx.walk 3 (pc' := 50) (L' := [some (.ref 91), some (.int (iz e)), some (.ref 40), some (.int (iz (-1))), some (.int (iz 0)), some (.int (iz 0)), none]) (st' := [.int (iz 0), .int (iz e), .ref 91]) (h' := cxW (u2 (u2 (u2 z 3 2 pi) 3 3 len) 40 1 sz) (uf (uf (uf (uf f 4 w) 92 g) 93 lt) 94 sk) C T rc tl) rfl ?_
    refine Rx.callx (m' := m_X1_setLetters) (as := [.ref 91, .int (iz e), .int (iz 0)]) (rest := []) rfl (x_setL0 _ (u2 (u2 (u2 z 3 2 pi) 3 3 len) 40 1 sz) (uf f 94 sk) C T rc tl  e w g lt hw ⟨by omega, by omega⟩ hg0 hg1) (fun v33 h34 q35 => ?_)
    obtain ⟨lt_31, rfl, rfl, f32⟩ := q35
    refine Rx.walk 0 (pc' := 53) (L' := [some (.ref 91), some (.int (iz e)), some (.ref 40), some (.int (iz (-1))), some (.int (iz 0)), some (.int (iz 0)), none]) (st' := []) (h' := cxW (u2 (u2 (u2 z 3 2 pi) 3 3 len) 40 1 sz) (uf (uf (uf (uf f 4 w) 92 g) 93 lt_31) 94 sk) C T rc tl) rfl ?_
    refine Rx.walk 5 (pc' := 62) (L' := [some (.ref 91), some (.int (iz e)), some (.ref 40), some (.int (iz (-1))), some (.int (iz 0)), some (.int (iz 0)), none]) (st' := [.ref 94, .ref 93, .ref 40]) (h' := cxW (u2 (u2 (u2 z 3 2 pi) 3 3 len) 40 1 sz) (uf (uf (uf (uf f 4 w) 92 g) 93 lt_31) 94 sk) C T rc tl) rfl ?_
    have hc1 : bdL (ltB w e 0 (g 0) (g 1)) := ltB_b hw ⟨by omega, by omega⟩ ⟨by omega, by omega⟩ hg0.1
    have hb1 := bdL_eq (fun j a b => (f32 j a b).symm) hc1
    refine Rx.callx (m' := m_X6_worth) (as := [.ref 40, .ref 93, .ref 94]) (rest := []) rfl (x_worth40 _ (u2 (u2 z 3 2 pi) 3 3 len) (uf (uf f 4 w) 92 g) C T rc tl  sz ln cd lt_31 sk hrc hsz hcb hb1 (hV _ hb1).1) (fun v39 h40 q41 => ?_)
    obtain ⟨r_36, g_37, rfl, rfl, f38⟩ := q41
    refine Rx.walk 0 (pc' := 65) (L' := [some (.ref 91), some (.int (iz e)), some (.ref 40), some (.int (iz (-1))), some (.int (iz 0)), some (.int (iz 0)), none]) (st' := [.int (iz r_36)]) (h' := cxW (u2 (u2 (u2 z 3 2 pi) 3 3 len) 40 1 sz) (uf (uf (uf (uf f 4 w) 92 g) 93 lt_31) 94 g_37) C T rc tl) rfl ?_
    have hv1 : r_36 = V (ltB w e 0 (g 0) (g 1)) := by rw [f38, ← (hV _ hb1).2.1]; exact ruV_congr hV hb1 f32
    obtain ⟨hu1, hx1⟩ := (hV _ hc1).2.2
    rw [← hv1] at hu1 hx1
    refine Rx.walk 3 (pc' := 69) (L' := [some (.ref 91), some (.int (iz e)), some (.ref 40), some (.int (iz (-1))), some (.int (iz 0)), some (.int (iz 0)), some (.int (iz r_36))]) (st' := [.int (iz (-1)), .int (iz (-1))]) (h' := cxW (u2 (u2 (u2 z 3 2 pi) 3 3 len) 40 1 sz) (uf (uf (uf (uf f 4 w) 92 g) 93 lt_31) 94 g_37) C T rc tl) rfl ?_
    refine Rx.eq2 rfl rfl ⟨by omega, by omega⟩ ⟨by omega, by omega⟩ (fun b42 => ?_) (fun b42 => by omega)
    refine Rx.walk 4 (pc' := 86) (L' := [some (.ref 91), some (.int (iz e)), some (.ref 40), some (.int (iz 0)), some (.int (iz r_36)), some (.int (iz 0)), some (.int (iz r_36))]) (st' := []) (h' := cxW (u2 (u2 (u2 z 3 2 pi) 3 3 len) 40 1 sz) (uf (uf (uf (uf f 4 w) 92 g) 93 lt_31) 94 g_37) C T rc tl) rfl ?_
    refine Rx.iinc (b := 1) rfl rfl rfl ?_
    refine Rx.walk 0 (pc' := 89) (L' := [some (.ref 91), some (.int (iz e)), some (.ref 40), some (.int (iz 0)), some (.int (iz r_36)), some (.int (iz 1)), some (.int (iz r_36))]) (st' := []) (h' := cxW (u2 (u2 (u2 z 3 2 pi) 3 3 len) 40 1 sz) (uf (uf (uf (uf f 4 w) 92 g) 93 lt_31) 94 g_37) C T rc tl) rfl ?_
    refine Rx.walk 5 (pc' := 17) (L' := [some (.ref 91), some (.int (iz e)), some (.ref 40), some (.int (iz 0)), some (.int (iz r_36)), some (.int (iz 1)), some (.int (iz r_36))]) (st' := [.int (iz pi), .int (iz 1)]) (h' := cxW (u2 (u2 (u2 z 3 2 pi) 3 3 len) 40 1 sz) (uf (uf (uf (uf f 4 w) 92 g) 93 lt_31) 94 g_37) C T rc tl) rfl ?_
    refine Rx.ge2 rfl rfl ⟨by omega, by omega⟩ ⟨by omega, by omega⟩ (fun b43 => ?_) (fun b43 => ?_)
    · refine Rx.walk 1 (pc' := 93) (L' := [some (.ref 91), some (.int (iz e)), some (.ref 40), some (.int (iz 0)), some (.int (iz r_36)), some (.int (iz 1)), some (.int (iz r_36))]) (st' := [.int (iz 0)]) (h' := cxW (u2 (u2 (u2 z 3 2 pi) 3 3 len) 40 1 sz) (uf (uf (uf (uf f 4 w) 92 g) 93 lt_31) 94 g_37) C T rc tl) rfl ?_
      refine Rx.ret rfl ?_
      refine ⟨_, _, _, rfl, rfl, ?_⟩
      unfold chP
      rw [if_pos (by omega), if_neg (by omega)]
    · refine Rx.walk 2 (pc' := 23) (L' := [some (.ref 91), some (.int (iz e)), some (.ref 40), some (.int (iz 0)), some (.int (iz r_36)), some (.int (iz 1)), some (.int (iz r_36))]) (st' := [.int (iz 2), .int (iz 1)]) (h' := cxW (u2 (u2 (u2 z 3 2 pi) 3 3 len) 40 1 sz) (uf (uf (uf (uf f 4 w) 92 g) 93 lt_31) 94 g_37) C T rc tl) rfl ?_
      refine Rx.ge2 rfl rfl ⟨by omega, by omega⟩ ⟨by omega, by omega⟩ (fun b44 => by omega) (fun b44 => ?_)
      refine Rx.walk 3 (pc' := 32) (L' := [some (.ref 91), some (.int (iz e)), some (.ref 40), some (.int (iz 0)), some (.int (iz r_36)), some (.int (iz 1)), some (.int (iz r_36))]) (st' := [.int (iz 1), .ref 92]) (h' := cxW (u2 (u2 (u2 z 3 2 pi) 3 3 len) 40 1 sz) (uf (uf (uf (uf f 4 w) 92 g) 93 lt_31) 94 g_37) C T rc tl) rfl ?_
      refine Rx.ial (g := g) rfl rfl (by omega) (by omega) (by omega) ?_
      refine Rx.callx (m' := m_X10_height) (as := [.int (iz (g 1))]) (rest := []) rfl (n_height _ (cxW (u2 (u2 (u2 z 3 2 pi) 3 3 len) 40 1 sz) (uf (uf (uf (uf f 4 w) 92 g) 93 lt_31) 94 g_37) C T rc tl)  (g 1) ⟨by omega, by omega⟩) (fun v47 h48 q49 => ?_)
      obtain ⟨r_45, rfl, rfl, f46⟩ := q49
      refine Rx.walk 0 (pc' := 36) (L' := [some (.ref 91), some (.int (iz e)), some (.ref 40), some (.int (iz 0)), some (.int (iz r_36)), some (.int (iz 1)), some (.int (iz r_36))]) (st' := [.int (iz r_45)]) (h' := cxW (u2 (u2 (u2 z 3 2 pi) 3 3 len) 40 1 sz) (uf (uf (uf (uf f 4 w) 92 g) 93 lt_31) 94 g_37) C T rc tl) rfl ?_
      refine Rx.walk 3 (pc' := 43) (L' := [some (.ref 91), some (.int (iz e)), some (.ref 40), some (.int (iz 0)), some (.int (iz r_36)), some (.int (iz 1)), some (.int (iz r_36))]) (st' := [.int (iz len), .int (iz r_45)]) (h' := cxW (u2 (u2 (u2 z 3 2 pi) 3 3 len) 40 1 sz) (uf (uf (uf (uf f 4 w) 92 g) 93 lt_31) 94 g_37) C T rc tl) rfl ?_
      refine Rx.ge2 rfl rfl ⟨by omega, by omega⟩ ⟨by omega, by omega⟩ (fun b50 => ?_) (fun b50 => ?_)
      · refine Rx.iinc (b := 1) rfl rfl rfl ?_
        refine Rx.walk 0 (pc' := 89) (L' := [some (.ref 91), some (.int (iz e)), some (.ref 40), some (.int (iz 0)), some (.int (iz r_36)), some (.int (iz 2)), some (.int (iz r_36))]) (st' := []) (h' := cxW (u2 (u2 (u2 z 3 2 pi) 3 3 len) 40 1 sz) (uf (uf (uf (uf f 4 w) 92 g) 93 lt_31) 94 g_37) C T rc tl) rfl ?_
        refine Rx.walk 5 (pc' := 17) (L' := [some (.ref 91), some (.int (iz e)), some (.ref 40), some (.int (iz 0)), some (.int (iz r_36)), some (.int (iz 2)), some (.int (iz r_36))]) (st' := [.int (iz pi), .int (iz 2)]) (h' := cxW (u2 (u2 (u2 z 3 2 pi) 3 3 len) 40 1 sz) (uf (uf (uf (uf f 4 w) 92 g) 93 lt_31) 94 g_37) C T rc tl) rfl ?_
        refine Rx.ge2 rfl rfl ⟨by omega, by omega⟩ ⟨by omega, by omega⟩ (fun b51 => ?_) (fun b51 => by omega)
        refine Rx.walk 1 (pc' := 93) (L' := [some (.ref 91), some (.int (iz e)), some (.ref 40), some (.int (iz 0)), some (.int (iz r_36)), some (.int (iz 2)), some (.int (iz r_36))]) (st' := [.int (iz 0)]) (h' := cxW (u2 (u2 (u2 z 3 2 pi) 3 3 len) 40 1 sz) (uf (uf (uf (uf f 4 w) 92 g) 93 lt_31) 94 g_37) C T rc tl) rfl ?_
        refine Rx.ret rfl ?_
        refine ⟨_, _, _, rfl, rfl, ?_⟩
        unfold chP
        rw [if_pos (by omega), if_neg (by omega)]
      · refine Rx.walk 3 (pc' := 50) (L' := [some (.ref 91), some (.int (iz e)), some (.ref 40), some (.int (iz 0)), some (.int (iz r_36)), some (.int (iz 1)), some (.int (iz r_36))]) (st' := [.int (iz 1), .int (iz e), .ref 91]) (h' := cxW (u2 (u2 (u2 z 3 2 pi) 3 3 len) 40 1 sz) (uf (uf (uf (uf f 4 w) 92 g) 93 lt_31) 94 g_37) C T rc tl) rfl ?_
        refine Rx.callx (m' := m_X1_setLetters) (as := [.ref 91, .int (iz e), .int (iz 1)]) (rest := []) rfl (x_setL1 _ (u2 (u2 (u2 z 3 2 pi) 3 3 len) 40 1 sz) (uf f 94 g_37) C T rc tl  e w g lt_31 hw ⟨by omega, by omega⟩ hg0 hg1) (fun v54 h55 q56 => ?_)
        obtain ⟨lt_52, rfl, rfl, f53⟩ := q56
        refine Rx.walk 0 (pc' := 53) (L' := [some (.ref 91), some (.int (iz e)), some (.ref 40), some (.int (iz 0)), some (.int (iz r_36)), some (.int (iz 1)), some (.int (iz r_36))]) (st' := []) (h' := cxW (u2 (u2 (u2 z 3 2 pi) 3 3 len) 40 1 sz) (uf (uf (uf (uf f 4 w) 92 g) 93 lt_52) 94 g_37) C T rc tl) rfl ?_
        refine Rx.walk 5 (pc' := 62) (L' := [some (.ref 91), some (.int (iz e)), some (.ref 40), some (.int (iz 0)), some (.int (iz r_36)), some (.int (iz 1)), some (.int (iz r_36))]) (st' := [.ref 94, .ref 93, .ref 40]) (h' := cxW (u2 (u2 (u2 z 3 2 pi) 3 3 len) 40 1 sz) (uf (uf (uf (uf f 4 w) 92 g) 93 lt_52) 94 g_37) C T rc tl) rfl ?_
        have hc2 : bdL (ltB w e 1 (g 1) (g 0)) := ltB_b hw ⟨by omega, by omega⟩ ⟨by omega, by omega⟩ hg1.1
        have hb2 := bdL_eq (fun j a b => (f53 j a b).symm) hc2
        refine Rx.callx (m' := m_X6_worth) (as := [.ref 40, .ref 93, .ref 94]) (rest := []) rfl (x_worth40 _ (u2 (u2 z 3 2 pi) 3 3 len) (uf (uf f 4 w) 92 g) C T rc tl  sz ln cd lt_52 g_37 hrc hsz hcb hb2 (hV _ hb2).1) (fun v60 h61 q62 => ?_)
        obtain ⟨r_57, g_58, rfl, rfl, f59⟩ := q62
        refine Rx.walk 0 (pc' := 65) (L' := [some (.ref 91), some (.int (iz e)), some (.ref 40), some (.int (iz 0)), some (.int (iz r_36)), some (.int (iz 1)), some (.int (iz r_36))]) (st' := [.int (iz r_57)]) (h' := cxW (u2 (u2 (u2 z 3 2 pi) 3 3 len) 40 1 sz) (uf (uf (uf (uf f 4 w) 92 g) 93 lt_52) 94 g_58) C T rc tl) rfl ?_
        have hv2 : r_57 = V (ltB w e 1 (g 1) (g 0)) := by rw [f59, ← (hV _ hb2).2.1]; exact ruV_congr hV hb2 f53
        obtain ⟨hu2, hx2⟩ := (hV _ hc2).2.2
        rw [← hv2] at hu2 hx2
        refine Rx.walk 3 (pc' := 69) (L' := [some (.ref 91), some (.int (iz e)), some (.ref 40), some (.int (iz 0)), some (.int (iz r_36)), some (.int (iz 1)), some (.int (iz r_57))]) (st' := [.int (iz (-1)), .int (iz 0)]) (h' := cxW (u2 (u2 (u2 z 3 2 pi) 3 3 len) 40 1 sz) (uf (uf (uf (uf f 4 w) 92 g) 93 lt_52) 94 g_58) C T rc tl) rfl ?_
        refine Rx.eq2 rfl rfl ⟨by omega, by omega⟩ ⟨by omega, by omega⟩ (fun b63 => by omega) (fun b63 => ?_)
        refine Rx.walk 2 (pc' := 76) (L' := [some (.ref 91), some (.int (iz e)), some (.ref 40), some (.int (iz 0)), some (.int (iz r_36)), some (.int (iz 1)), some (.int (iz r_57))]) (st' := [.int (iz r_36), .int (iz r_57)]) (h' := cxW (u2 (u2 (u2 z 3 2 pi) 3 3 len) 40 1 sz) (uf (uf (uf (uf f 4 w) 92 g) 93 lt_52) 94 g_58) C T rc tl) rfl ?_
        refine Rx.le2 rfl rfl ⟨by omega, by omega⟩ ⟨by omega, by omega⟩ (fun b64 => ?_) (fun b64 => ?_)
        · refine Rx.iinc (b := 1) rfl rfl rfl ?_
          refine Rx.walk 0 (pc' := 89) (L' := [some (.ref 91), some (.int (iz e)), some (.ref 40), some (.int (iz 0)), some (.int (iz r_36)), some (.int (iz 2)), some (.int (iz r_57))]) (st' := []) (h' := cxW (u2 (u2 (u2 z 3 2 pi) 3 3 len) 40 1 sz) (uf (uf (uf (uf f 4 w) 92 g) 93 lt_52) 94 g_58) C T rc tl) rfl ?_
          refine Rx.walk 5 (pc' := 17) (L' := [some (.ref 91), some (.int (iz e)), some (.ref 40), some (.int (iz 0)), some (.int (iz r_36)), some (.int (iz 2)), some (.int (iz r_57))]) (st' := [.int (iz pi), .int (iz 2)]) (h' := cxW (u2 (u2 (u2 z 3 2 pi) 3 3 len) 40 1 sz) (uf (uf (uf (uf f 4 w) 92 g) 93 lt_52) 94 g_58) C T rc tl) rfl ?_
          refine Rx.ge2 rfl rfl ⟨by omega, by omega⟩ ⟨by omega, by omega⟩ (fun b65 => ?_) (fun b65 => by omega)
          refine Rx.walk 1 (pc' := 93) (L' := [some (.ref 91), some (.int (iz e)), some (.ref 40), some (.int (iz 0)), some (.int (iz r_36)), some (.int (iz 2)), some (.int (iz r_57))]) (st' := [.int (iz 0)]) (h' := cxW (u2 (u2 (u2 z 3 2 pi) 3 3 len) 40 1 sz) (uf (uf (uf (uf f 4 w) 92 g) 93 lt_52) 94 g_58) C T rc tl) rfl ?_
          refine Rx.ret rfl ?_
          refine ⟨_, _, _, rfl, rfl, ?_⟩
          unfold chP
          rw [if_pos (by omega), if_pos ⟨by omega, by omega⟩, ← hv1, ← hv2, if_neg (by omega)]
        · refine Rx.walk 4 (pc' := 86) (L' := [some (.ref 91), some (.int (iz e)), some (.ref 40), some (.int (iz 1)), some (.int (iz r_57)), some (.int (iz 1)), some (.int (iz r_57))]) (st' := []) (h' := cxW (u2 (u2 (u2 z 3 2 pi) 3 3 len) 40 1 sz) (uf (uf (uf (uf f 4 w) 92 g) 93 lt_52) 94 g_58) C T rc tl) rfl ?_
          refine Rx.iinc (b := 1) rfl rfl rfl ?_
          refine Rx.walk 0 (pc' := 89) (L' := [some (.ref 91), some (.int (iz e)), some (.ref 40), some (.int (iz 1)), some (.int (iz r_57)), some (.int (iz 2)), some (.int (iz r_57))]) (st' := []) (h' := cxW (u2 (u2 (u2 z 3 2 pi) 3 3 len) 40 1 sz) (uf (uf (uf (uf f 4 w) 92 g) 93 lt_52) 94 g_58) C T rc tl) rfl ?_
          refine Rx.walk 5 (pc' := 17) (L' := [some (.ref 91), some (.int (iz e)), some (.ref 40), some (.int (iz 1)), some (.int (iz r_57)), some (.int (iz 2)), some (.int (iz r_57))]) (st' := [.int (iz pi), .int (iz 2)]) (h' := cxW (u2 (u2 (u2 z 3 2 pi) 3 3 len) 40 1 sz) (uf (uf (uf (uf f 4 w) 92 g) 93 lt_52) 94 g_58) C T rc tl) rfl ?_
          refine Rx.ge2 rfl rfl ⟨by omega, by omega⟩ ⟨by omega, by omega⟩ (fun b66 => ?_) (fun b66 => by omega)
          refine Rx.walk 1 (pc' := 93) (L' := [some (.ref 91), some (.int (iz e)), some (.ref 40), some (.int (iz 1)), some (.int (iz r_57)), some (.int (iz 2)), some (.int (iz r_57))]) (st' := [.int (iz 1)]) (h' := cxW (u2 (u2 (u2 z 3 2 pi) 3 3 len) 40 1 sz) (uf (uf (uf (uf f 4 w) 92 g) 93 lt_52) 94 g_58) C T rc tl) rfl ?_
          refine Rx.ret rfl ?_
          refine ⟨_, _, _, rfl, rfl, ?_⟩
          unfold chP
          rw [if_pos (by omega), if_pos ⟨by omega, by omega⟩, ← hv1, ← hv2, if_pos (by omega)]
set_option maxRecDepth 100000 in
set_option maxHeartbeats 4000000 in
theorem x_tillB_l40 (d : Nat) (z : Nat → Nat → Int) (f : Nat → Int → Int) (C : Nat → CuR) (T : Nat → TsR) (rc : Nat → Nat) (tl : AmH)  (v : Int) (ci : Int) (j : Nat) (st : Int) (Rz : Int × Int × Int) (pi : Int) (len : Int) (w : Int → Int) (sz : Int) (ln : Nat) (cd : Int → Int) (V : (Int → Int) → Int) (hw : wOK w) (hpi : pi = 1 ∨ pi = 2) (hlen : 1 ≤ len ∧ len ≤ 5) (hrc : 98 ≤ rc 40 ∧ am_nth tl (rc 40 - 98) = some (.inl (.int, ln, .inl (av cd)))) (hsz : 0 ≤ sz ∧ sz ≤ 161 ∧ sz = (ln : Int)) (hcb : ∀ j : Int, 0 ≤ j → j < sz → sgB (cd j)) (hV : ruV V (crem cd 0 sz.toNat)) (hj : j < 4) (hcu : cuI (C j)) (hch : 0 ≤ ((C j).2.2.2.2.2.2.2) ∧ ((C j).2.2.2.2.2.2.2) < (C j).2.2.2.1) (hst : st = ((C j).2.2.2.2.2.2.2) * 4) (P : Option Value → AmH → Prop) (hx0 : ∀ (g' : Int → Int) (lt' : Int → Int) (sk' : Int → Int), (Rz.1 = 0) → P (some (.int (iz (-1)))) (cxW (u2 (u2 (u2 z 3 2 pi) 3 3 len) 40 1 sz) (uf (uf (uf (uf f 4 w) 92 g') 93 lt') 94 sk') C T rc tl)) (hx1 : ∀ (i' : Int) (g' : Int → Int) (lt' : Int → Int) (sk' : Int → Int) (x7' : Option Value) (x8' : Option Value), (Rz.1 = 1 ∧ g' 0 = Rz.2.1 ∧ g' 1 = Rz.2.2) → ((0 ≤ g' 0 ∧ g' 0 < 3125) ∧ (0 ≤ g' 1 ∧ g' 1 < 3125)) → Rx (d + 4) m_X1_tillBehind 155 [some (.ref 91), some (.int (iz v)), some (.int (iz ci)), some (.ref 40), some (.ref (cpl j)), some (.int (iz st)), some (.int (iz i')), x7', x8'] [] (cxW (u2 (u2 (u2 z 3 2 pi) 3 3 len) 40 1 sz) (uf (uf (uf (uf f 4 w) 92 g') 93 lt') 94 sk') C T rc tl) P) : ∀ (kF : Nat) (i : Int) (g : Int → Int) (lt : Int → Int) (sk : Int → Int) (w7 : Option Value) (w8 : Option Value), (0 ≤ i ∧ i ≤ (C j).2.2.2.2.2.1 ((C j).2.2.2.2.2.2.2)) → (0 ≤ g 0 ∧ g 0 < 3125) → (0 ≤ g 1 ∧ g 1 < 3125) → (Rz = puB V w pi len (hnd (C j) ((C j).2.2.2.2.2.2.2) i) (g 0) (g 1)) → ((C j).2.2.2.2.2.1 ((C j).2.2.2.2.2.2.2) - i) < (kF : Int) → Rx (d + 4) m_X1_tillBehind 84 [some (.ref 91), some (.int (iz v)), some (.int (iz ci)), some (.ref 40), some (.ref (cpl j)), some (.int (iz st)), some (.int (iz i)), w7, w8] [] (cxW (u2 (u2 (u2 z 3 2 pi) 3 3 len) 40 1 sz) (uf (uf (uf (uf f 4 w) 92 g) 93 lt) 94 sk) C T rc tl) P := by
  obtain ⟨hq1, hq2, hq3⟩ := id hcu
  obtain ⟨hc1, hc2⟩ := id hch
  obtain ⟨hd1, hd2, hd3, hd4, hd5⟩ := hq3 ((C j).2.2.2.2.2.2.2) hc1 hc2
  intro kF
  induction kF with
  | zero =>
    intro i g lt sk w7 w8 hi hg0 hg1 hP hk
    exfalso; omega
  | succ kF ih =>
    intro i g lt sk w7 w8 hi hg0 hg1 hP hk
    refine Rx.walk 2 (pc' := 88) (L' := [some (.ref 91), some (.int (iz v)), some (.int (iz ci)), some (.ref 40), some (.ref (cpl j)), some (.int (iz st)), some (.int (iz i)), w7, w8]) (st' := [.ref (cpl j), .int (iz i)]) (h' := cxW (u2 (u2 (u2 z 3 2 pi) 3 3 len) 40 1 sz) (uf (uf (uf (uf f 4 w) 92 g) 93 lt) 94 sk) C T rc tl) rfl ?_
    refine Rx.gfS rfl rfl (cW_C (by omega)) rfl ?_
    refine Rx.walk 1 (pc' := 93) (L' := [some (.ref 91), some (.int (iz v)), some (.int (iz ci)), some (.ref 40), some (.ref (cpl j)), some (.int (iz st)), some (.int (iz i)), w7, w8]) (st' := [.ref (cpl j), .ref (cpl j + 3), .int (iz i)]) (h' := cxW (u2 (u2 (u2 z 3 2 pi) 3 3 len) 40 1 sz) (uf (uf (uf (uf f 4 w) 92 g) 93 lt) 94 sk) C T rc tl) rfl ?_
    refine Rx.gfS rfl rfl (cW_C (by omega)) rfl ?_
    refine Rx.ial (g := ((C j).2.2.2.2.2.1)) rfl (cW_C3 (by omega)) (by omega) (by omega) (by omega) ?_
    refine Rx.ge2 rfl rfl ⟨by omega, by omega⟩ ⟨by omega, by omega⟩ (fun b1 => ?_) (fun b1 => ?_)
    · exact hx1 _ _ _ _ _ _ (by rw [hnd_e (by omega)] at hP; rw [hP]; exact ⟨rfl, rfl, rfl⟩) ⟨hg0, hg1⟩
    · refine Rx.walk 1 (pc' := 102) (L' := [some (.ref 91), some (.int (iz v)), some (.int (iz ci)), some (.ref 40), some (.ref (cpl j)), some (.int (iz st)), some (.int (iz i)), w7, w8]) (st' := [.ref (cpl j)]) (h' := cxW (u2 (u2 (u2 z 3 2 pi) 3 3 len) 40 1 sz) (uf (uf (uf (uf f 4 w) 92 g) 93 lt) 94 sk) C T rc tl) rfl ?_
      refine Rx.gfS rfl rfl (cW_C (by omega)) rfl ?_
      refine Rx.walk 2 (pc' := 109) (L' := [some (.ref 91), some (.int (iz v)), some (.int (iz ci)), some (.ref 40), some (.ref (cpl j)), some (.int (iz st)), some (.int (iz i)), w7, w8]) (st' := [.int (iz i), .int (iz st), .ref (cpl j + 2)]) (h' := cxW (u2 (u2 (u2 z 3 2 pi) 3 3 len) 40 1 sz) (uf (uf (uf (uf f 4 w) 92 g) 93 lt) 94 sk) C T rc tl) rfl ?_
      refine Rx.iadd rfl ?_
      refine Rx.ial (g := ((C j).2.2.2.2.1)) rfl (cW_C2 (by omega)) (by omega) (by omega) (by omega) ?_
      have hix : (st + i) = ((C j).2.2.2.2.2.2.2) * 4 + i := by omega
      obtain ⟨e, he⟩ : ∃ e, e = (C j).2.2.2.2.1 (((C j).2.2.2.2.2.2.2) * 4 + i) := ⟨_, rfl⟩
      rw [show (((C j).2.2.2.2.1) (st + i)) = e from by rw [hix]; exact he.symm]
      have heb := hd5 i (by omega) (by omega)
      rw [← he] at heb
      rw [hnd_s (by omega), ← he] at hP
      refine Rx.walk 4 (pc' := 117) (L' := [some (.ref 91), some (.int (iz v)), some (.int (iz ci)), some (.ref 40), some (.ref (cpl j)), some (.int (iz st)), some (.int (iz i)), some (.int (iz e)), w8]) (st' := [.ref 40, .int (iz e), .ref 91]) (h' := cxW (u2 (u2 (u2 z 3 2 pi) 3 3 len) 40 1 sz) (uf (uf (uf (uf f 4 w) 92 g) 93 lt) 94 sk) C T rc tl) rfl ?_
      refine Rx.callx (m' := m_X1_chosenPipe) (as := [.ref 91, .int (iz e), .ref 40]) (rest := []) rfl (x_chosenP40 _ z f C T rc tl  e g pi len w lt sk sz ln cd V hw hpi hlen hrc hsz hcb hV heb hg0 hg1) (fun v6 h7 q8 => ?_)
      obtain ⟨r_2, lt_3, sk_4, rfl, rfl, f5⟩ := q8
      refine Rx.walk 0 (pc' := 120) (L' := [some (.ref 91), some (.int (iz v)), some (.int (iz ci)), some (.ref 40), some (.ref (cpl j)), some (.int (iz st)), some (.int (iz i)), some (.int (iz e)), w8]) (st' := [.int (iz r_2)]) (h' := cxW (u2 (u2 (u2 z 3 2 pi) 3 3 len) 40 1 sz) (uf (uf (uf (uf f 4 w) 92 g) 93 lt_3) 94 sk_4) C T rc tl) rfl ?_
      have hcc := chP_c V w pi len e (g 0) (g 1)
      rw [← f5] at hcc
      have hq0 := ht_c (g 0)
      have hq1 := ht_c (g 1)
      refine Rx.walk 3 (pc' := 125) (L' := [some (.ref 91), some (.int (iz v)), some (.int (iz ci)), some (.ref 40), some (.ref (cpl j)), some (.int (iz st)), some (.int (iz i)), some (.int (iz e)), some (.int (iz r_2))]) (st' := [.int (iz (-1)), .int (iz r_2)]) (h' := cxW (u2 (u2 (u2 z 3 2 pi) 3 3 len) 40 1 sz) (uf (uf (uf (uf f 4 w) 92 g) 93 lt_3) 94 sk_4) C T rc tl) rfl ?_
      refine Rx.ne2 rfl rfl ⟨by omega, by omega⟩ ⟨by omega, by omega⟩ (fun b9 => ?_) (fun b9 => ?_)
      · refine Rx.walk 6 (pc' := 142) (L' := [some (.ref 91), some (.int (iz v)), some (.int (iz ci)), some (.ref 40), some (.ref (cpl j)), some (.int (iz st)), some (.int (iz i)), some (.int (iz e)), some (.int (iz r_2))]) (st' := [.int (iz r_2), .ref 92, .int (iz r_2), .ref 92]) (h' := cxW (u2 (u2 (u2 z 3 2 pi) 3 3 len) 40 1 sz) (uf (uf (uf (uf f 4 w) 92 g) 93 lt_3) 94 sk_4) C T rc tl) rfl ?_
        refine Rx.ial (g := g) rfl rfl (by omega) (by omega) (by omega) ?_
        refine Rx.walk 1 (pc' := 144) (L' := [some (.ref 91), some (.int (iz v)), some (.int (iz ci)), some (.ref 40), some (.ref (cpl j)), some (.int (iz st)), some (.int (iz i)), some (.int (iz e)), some (.int (iz r_2))]) (st' := [.int (iz 5), .int (iz (g r_2)), .int (iz r_2), .ref 92]) (h' := cxW (u2 (u2 (u2 z 3 2 pi) 3 3 len) 40 1 sz) (uf (uf (uf (uf f 4 w) 92 g) 93 lt_3) 94 sk_4) C T rc tl) rfl ?_
        refine Rx.imul rfl ?_
        refine Rx.walk 1 (pc' := 147) (L' := [some (.ref 91), some (.int (iz v)), some (.int (iz ci)), some (.ref 40), some (.ref (cpl j)), some (.int (iz st)), some (.int (iz i)), some (.int (iz e)), some (.int (iz r_2))]) (st' := [.int (iz e), .int (iz ((g r_2) * 5)), .int (iz r_2), .ref 92]) (h' := cxW (u2 (u2 (u2 z 3 2 pi) 3 3 len) 40 1 sz) (uf (uf (uf (uf f 4 w) 92 g) 93 lt_3) 94 sk_4) C T rc tl) rfl ?_
        refine Rx.iadd rfl ?_
        refine Rx.ias (g := g) (h' := cxW (u2 (u2 (u2 z 3 2 pi) 3 3 len) 40 1 sz) (uf (uf (uf (uf f 4 w) 92 (iu g r_2 (((g r_2) * 5) + e))) 93 lt_3) 94 sk_4) C T rc tl) rfl rfl (by omega) (by omega) (by omega) rfl ?_
        refine Rx.iinc (b := 1) rfl rfl rfl ?_
        refine Rx.walk 0 (pc' := 152) (L' := [some (.ref 91), some (.int (iz v)), some (.int (iz ci)), some (.ref 40), some (.ref (cpl j)), some (.int (iz st)), some (.int (iz (i + 1))), some (.int (iz e)), some (.int (iz r_2))]) (st' := []) (h' := cxW (u2 (u2 (u2 z 3 2 pi) 3 3 len) 40 1 sz) (uf (uf (uf (uf f 4 w) 92 (iu g r_2 (((g r_2) * 5) + e))) 93 lt_3) 94 sk_4) C T rc tl) rfl ?_
        refine Rx.walk 1 (pc' := 84) (L' := [some (.ref 91), some (.int (iz v)), some (.int (iz ci)), some (.ref 40), some (.ref (cpl j)), some (.int (iz st)), some (.int (iz (i + 1))), some (.int (iz e)), some (.int (iz r_2))]) (st' := []) (h' := cxW (u2 (u2 (u2 z 3 2 pi) 3 3 len) 40 1 sz) (uf (uf (uf (uf f 4 w) 92 (iu g r_2 (((g r_2) * 5) + e))) 93 lt_3) 94 sk_4) C T rc tl) rfl ?_
        exact ih (i + 1) (iu g r_2 (((g r_2) * 5) + e)) lt_3 sk_4 (some (.int (iz e))) (some (.int (iz r_2))) ⟨by omega, by omega⟩ (by rcases hcc with q | q | q; (rw [q.1]; rw [iu_at]; exact ⟨by omega, by omega⟩); (rw [q.1]; rw [iu_ne _ _ (by decide)]; exact hg0); (exfalso; omega)) (by rcases hcc with q | q | q; (rw [q.1]; rw [iu_ne _ _ (by decide)]; exact hg1); (rw [q.1]; rw [iu_at]; exact ⟨by omega, by omega⟩); (exfalso; omega)) (by rcases hcc with q | q | q; (rw [q.1]; rw [iu_at, iu_ne _ _ (by decide), ← puB_0 (show chP V w pi len e (g 0) (g 1) = 0 by rw [← f5]; exact q.1)]; exact hP); (rw [q.1]; rw [iu_at, iu_ne _ _ (by decide), ← puB_1 (show chP V w pi len e (g 0) (g 1) = 1 by rw [← f5]; exact q.1)]; exact hP); (exfalso; omega)) (by omega) 
      · refine Rx.walk 1 (pc' := 129) (L' := [some (.ref 91), some (.int (iz v)), some (.int (iz ci)), some (.ref 40), some (.ref (cpl j)), some (.int (iz st)), some (.int (iz i)), some (.int (iz e)), some (.int (iz r_2))]) (st' := [.int (iz (-1))]) (h' := cxW (u2 (u2 (u2 z 3 2 pi) 3 3 len) 40 1 sz) (uf (uf (uf (uf f 4 w) 92 g) 93 lt_3) 94 sk_4) C T rc tl) rfl ?_
        refine Rx.ret rfl ?_
        exact hx0 _ _ _ (by rw [hP, puB_c (by rw [← f5]; omega)])
set_option maxRecDepth 100000 in
set_option maxHeartbeats 4000000 in
theorem x_tillB40 (d : Nat) (z : Nat → Nat → Int) (f : Nat → Int → Int) (C : Nat → CuR) (T : Nat → TsR) (rc : Nat → Nat) (tl : AmH)  (v : Int) (ci : Int) (g : Int → Int) (t : Int) (pi : Int) (len : Int) (w : Int → Int) (lt : Int → Int) (sk : Int → Int) (sz : Int) (ln : Nat) (cd : Int → Int) (V : (Int → Int) → Int) (hw : wOK w) (hpi : pi = 1 ∨ pi = 2) (hlen : 1 ≤ len ∧ len ≤ 5) (hrc : 98 ≤ rc 40 ∧ am_nth tl (rc 40 - 98) = some (.inl (.int, ln, .inl (av cd)))) (hsz : 0 ≤ sz ∧ sz ≤ 161 ∧ sz = (ln : Int)) (hcb : ∀ j : Int, 0 ≤ j → j < sz → sgB (cd j)) (hV : ruV V (crem cd 0 sz.toNat)) (hci : 0 ≤ ci ∧ ci < 4) (hv : 0 ≤ v ∧ v < 156250000) (hvt : v % 16 = tw (dgt (v % 16)) ∧ 0 ≤ dgt (v % 16) ∧ dgt (v % 16) ≤ 4) (hcu : cuI (C ci.toNat)) (hch : ((C ci.toNat).2.2.2.2.2.2.2) = -1 ∨ (0 ≤ ((C ci.toNat).2.2.2.2.2.2.2) ∧ ((C ci.toNat).2.2.2.2.2.2.2) < (C ci.toNat).2.2.2.1)) : Rx (d + 5) m_X1_tillBehind 0 (am_ent [.ref 91, .int (iz v), .int (iz ci), .ref 40] 9) [] (cxW (u2 (u2 (u2 (u2 z 3 2 pi) 3 3 len) 40 1 sz) 91 3 t) (uf (uf (uf (uf f 4 w) 92 g) 93 lt) 94 sk) C T rc tl) (fun rv h => ∃ r : Int, ∃ g' : Int → Int, ∃ t' : Int, ∃ lt' : Int → Int, ∃ sk' : Int → Int, rv = some (.int (iz r)) ∧ h = cxW (u2 (u2 (u2 (u2 z 3 2 pi) 3 3 len) 40 1 sz) 91 3 t') (uf (uf (uf (uf f 4 w) 92 g') 93 lt') 94 sk') C T rc tl ∧ r = tbN V w pi len (hOf (C ci.toNat)) v) := by
  refine Rx.walk 0 (pc' := 0) (L' := [some (.ref 91), some (.int (iz v)), some (.int (iz ci)), some (.ref 40), none, none, none, none, none]) (st' := []) (h' := cxW (u2 (u2 (u2 (u2 z 3 2 pi) 3 3 len) 40 1 sz) 91 3 t) (uf (uf (uf (uf f 4 w) 92 g) 93 lt) 94 sk) C T rc tl) rfl ?_
  refine Rx.walk 3 (pc' := 5) (L' := [some (.ref 91), some (.int (iz v)), some (.int (iz ci)), some (.ref 40), none, none, none, none, none]) (st' := [.int (iz ci), .ref 14]) (h' := cxW (u2 (u2 (u2 (u2 z 3 2 pi) 3 3 len) 40 1 sz) 91 3 t) (uf (uf (uf (uf f 4 w) 92 g) 93 lt) 94 sk) C T rc tl) rfl ?_
  obtain ⟨j1, hj1⟩ := Int.eq_ofNat_of_zero_le (show 0 ≤ ci by omega)
  refine Rx.aal j1 rfl rfl rfl hj1 (by omega) (by omega) (cus_at (by omega)) ?_
  have hcj : ci.toNat = j1 := by omega
  rw [hcj] at hcu hch
  have hcq := hcu.1
  have hcq2 := hcu.2.1
  refine Rx.walk 2 (pc' := 10) (L' := [some (.ref 91), some (.int (iz v)), some (.int (iz ci)), some (.ref 40), some (.ref (cpl j1)), none, none, none, none]) (st' := [.ref (cpl j1)]) (h' := cxW (u2 (u2 (u2 (u2 z 3 2 pi) 3 3 len) 40 1 sz) 91 3 t) (uf (uf (uf (uf f 4 w) 92 g) 93 lt) 94 sk) C T rc tl) rfl ?_
  refine Rx.gfS rfl rfl (cW_C (by omega)) rfl ?_
  refine Rx.walk 1 (pc' := 14) (L' := [some (.ref 91), some (.int (iz v)), some (.int (iz ci)), some (.ref 40), some (.ref (cpl j1)), none, none, none, none]) (st' := [.int (iz (-1)), .int (iz ((C j1).2.2.2.2.2.2.2))]) (h' := cxW (u2 (u2 (u2 (u2 z 3 2 pi) 3 3 len) 40 1 sz) 91 3 t) (uf (uf (uf (uf f 4 w) 92 g) 93 lt) 94 sk) C T rc tl) rfl ?_
  refine Rx.ne2 rfl rfl ⟨by omega, by omega⟩ ⟨by omega, by omega⟩ (fun b2 => ?_) (fun b2 => ?_)
  · replace hch := hch.elim (fun q => absurd q (by omega)) id
    obtain ⟨hq1, hq2, hq3⟩ := id hcu
    obtain ⟨hc1, hc2⟩ := id hch
    obtain ⟨hd1, hd2, hd3, hd4, hd5⟩ := hq3 ((C j1).2.2.2.2.2.2.2) hc1 hc2
    refine Rx.walk 5 (pc' := 26) (L' := [some (.ref 91), some (.int (iz v)), some (.int (iz ci)), some (.ref 40), some (.ref (cpl j1)), none, none, none, none]) (st' := [.int (iz 0), .int (iz v), .int (iz 0), .ref 92]) (h' := cxW (u2 (u2 (u2 (u2 z 3 2 pi) 3 3 len) 40 1 sz) 91 3 t) (uf (uf (uf (uf f 4 w) 92 g) 93 lt) 94 sk) C T rc tl) rfl ?_
    refine Rx.callx (m' := m_X10_pipeOf) (as := [.int (iz v), .int (iz 0)]) (rest := [.int (iz 0), .ref 92]) rfl (n_pipeOf _ (cxW (u2 (u2 (u2 (u2 z 3 2 pi) 3 3 len) 40 1 sz) 91 3 t) (uf (uf (uf (uf f 4 w) 92 g) 93 lt) 94 sk) C T rc tl)  v 0 (by first | assumption | omega) (by first | assumption | omega) ⟨by omega, by omega⟩) (fun v5 h6 q7 => ?_)
    obtain ⟨r_3, rfl, rfl, f4⟩ := q7
    refine Rx.walk 0 (pc' := 29) (L' := [some (.ref 91), some (.int (iz v)), some (.int (iz ci)), some (.ref 40), some (.ref (cpl j1)), none, none, none, none]) (st' := [.int (iz r_3), .int (iz 0), .ref 92]) (h' := cxW (u2 (u2 (u2 (u2 z 3 2 pi) 3 3 len) 40 1 sz) 91 3 t) (uf (uf (uf (uf f 4 w) 92 g) 93 lt) 94 sk) C T rc tl) rfl ?_
    refine Rx.ias (g := g) (h' := cxW (u2 (u2 (u2 (u2 z 3 2 pi) 3 3 len) 40 1 sz) 91 3 t) (uf (uf (uf (uf f 4 w) 92 (iu g 0 r_3)) 93 lt) 94 sk) C T rc tl) rfl rfl (by omega) (by omega) (by omega) rfl ?_
    refine Rx.walk 5 (pc' := 37) (L' := [some (.ref 91), some (.int (iz v)), some (.int (iz ci)), some (.ref 40), some (.ref (cpl j1)), none, none, none, none]) (st' := [.int (iz 1), .int (iz v), .int (iz 1), .ref 92]) (h' := cxW (u2 (u2 (u2 (u2 z 3 2 pi) 3 3 len) 40 1 sz) 91 3 t) (uf (uf (uf (uf f 4 w) 92 (iu g 0 r_3)) 93 lt) 94 sk) C T rc tl) rfl ?_
    refine Rx.callx (m' := m_X10_pipeOf) (as := [.int (iz v), .int (iz 1)]) (rest := [.int (iz 1), .ref 92]) rfl (n_pipeOf _ (cxW (u2 (u2 (u2 (u2 z 3 2 pi) 3 3 len) 40 1 sz) 91 3 t) (uf (uf (uf (uf f 4 w) 92 (iu g 0 r_3)) 93 lt) 94 sk) C T rc tl)  v 1 (by first | assumption | omega) (by first | assumption | omega) ⟨by omega, by omega⟩) (fun v10 h11 q12 => ?_)
    obtain ⟨r_8, rfl, rfl, f9⟩ := q12
    refine Rx.walk 0 (pc' := 40) (L' := [some (.ref 91), some (.int (iz v)), some (.int (iz ci)), some (.ref 40), some (.ref (cpl j1)), none, none, none, none]) (st' := [.int (iz r_8), .int (iz 1), .ref 92]) (h' := cxW (u2 (u2 (u2 (u2 z 3 2 pi) 3 3 len) 40 1 sz) 91 3 t) (uf (uf (uf (uf f 4 w) 92 (iu g 0 r_3)) 93 lt) 94 sk) C T rc tl) rfl ?_
    refine Rx.ias (g := (iu g 0 r_3)) (h' := cxW (u2 (u2 (u2 (u2 z 3 2 pi) 3 3 len) 40 1 sz) 91 3 t) (uf (uf (uf (uf f 4 w) 92 (iu (iu g 0 r_3) 1 r_8)) 93 lt) 94 sk) C T rc tl) rfl rfl (by omega) (by omega) (by omega) rfl ?_
    refine Rx.walk 2 (pc' := 43) (L' := [some (.ref 91), some (.int (iz v)), some (.int (iz ci)), some (.ref 40), some (.ref (cpl j1)), none, none, none, none]) (st' := [.int (iz v), .ref 91]) (h' := cxW (u2 (u2 (u2 (u2 z 3 2 pi) 3 3 len) 40 1 sz) 91 3 t) (uf (uf (uf (uf f 4 w) 92 (iu (iu g 0 r_3) 1 r_8)) 93 lt) 94 sk) C T rc tl) rfl ?_
    refine Rx.callx (m' := m_X10_trayOf) (as := [.int (iz v)]) (rest := [.ref 91]) rfl (n_trayOf _ (cxW (u2 (u2 (u2 (u2 z 3 2 pi) 3 3 len) 40 1 sz) 91 3 t) (uf (uf (uf (uf f 4 w) 92 (iu (iu g 0 r_3) 1 r_8)) 93 lt) 94 sk) C T rc tl)  v (by first | assumption | omega) (by first | assumption | omega)) (fun v15 h16 q17 => ?_)
    obtain ⟨r_13, rfl, rfl, f14⟩ := q17
    refine Rx.walk 0 (pc' := 46) (L' := [some (.ref 91), some (.int (iz v)), some (.int (iz ci)), some (.ref 40), some (.ref (cpl j1)), none, none, none, none]) (st' := [.int (iz r_13), .ref 91]) (h' := cxW (u2 (u2 (u2 (u2 z 3 2 pi) 3 3 len) 40 1 sz) 91 3 t) (uf (uf (uf (uf f 4 w) 92 (iu (iu g 0 r_3) 1 r_8)) 93 lt) 94 sk) C T rc tl) rfl ?_
    refine Rx.callx (m' := m_X10_digitOnTray) (as := [.int (iz r_13)]) (rest := [.ref 91]) rfl (n_digitOnTray _ (cxW (u2 (u2 (u2 (u2 z 3 2 pi) 3 3 len) 40 1 sz) 91 3 t) (uf (uf (uf (uf f 4 w) 92 (iu (iu g 0 r_3) 1 r_8)) 93 lt) 94 sk) C T rc tl)  r_13 (dgt (v % 16)) hvt.2.1 hvt.2.2 (by rw [f14]; exact hvt.1)) (fun v18 h19 q20 => ?_)
    obtain ⟨rfl, rfl⟩ := q20
    refine Rx.walk 0 (pc' := 49) (L' := [some (.ref 91), some (.int (iz v)), some (.int (iz ci)), some (.ref 40), some (.ref (cpl j1)), none, none, none, none]) (st' := [.int (iz (dgt (v % 16))), .ref 91]) (h' := cxW (u2 (u2 (u2 (u2 z 3 2 pi) 3 3 len) 40 1 sz) 91 3 t) (uf (uf (uf (uf f 4 w) 92 (iu (iu g 0 r_3) 1 r_8)) 93 lt) 94 sk) C T rc tl) rfl ?_
    refine Rx.walk 3 (pc' := 55) (L' := [some (.ref 91), some (.int (iz v)), some (.int (iz ci)), some (.ref 40), some (.ref (cpl j1)), none, none, none, none]) (st' := [.ref (cpl j1), .ref 91]) (h' := cxW (u2 (u2 (u2 (u2 z 3 2 pi) 3 3 len) 40 1 sz) 91 3 (dgt (v % 16))) (uf (uf (uf (uf f 4 w) 92 (iu (iu g 0 r_3) 1 r_8)) 93 lt) 94 sk) C T rc tl) rfl ?_
    refine Rx.gfS rfl rfl (cW_C (by omega)) rfl ?_
    refine Rx.walk 1 (pc' := 60) (L' := [some (.ref 91), some (.int (iz v)), some (.int (iz ci)), some (.ref 40), some (.ref (cpl j1)), none, none, none, none]) (st' := [.ref (cpl j1), .ref (cpl j1 + 4), .ref 91]) (h' := cxW (u2 (u2 (u2 (u2 z 3 2 pi) 3 3 len) 40 1 sz) 91 3 (dgt (v % 16))) (uf (uf (uf (uf f 4 w) 92 (iu (iu g 0 r_3) 1 r_8)) 93 lt) 94 sk) C T rc tl) rfl ?_
    refine Rx.gfS rfl rfl (cW_C (by omega)) rfl ?_
    refine Rx.ial (g := ((C j1).2.2.2.2.2.2.1)) rfl (cW_C4 (by omega)) (by omega) (by omega) (by omega) ?_
    have hz1 : 0 ≤ r_3 ∧ r_3 < 3125 := by have := f4; omega
    have hz2 : 0 ≤ r_8 ∧ r_8 < 3125 := by have := f9; omega
    refine Rx.callx (m' := m_X1_handsBack) (as := [.ref 91, .int (iz (((C j1).2.2.2.2.2.2.1) ((C j1).2.2.2.2.2.2.2)))]) (rest := []) rfl (x_handsB _ (u2 (u2 (u2 z 3 2 pi) 3 3 len) 40 1 sz) (uf (uf f 93 lt) 94 sk) C T rc tl  (((C j1).2.2.2.2.2.2.1) ((C j1).2.2.2.2.2.2.2)) w (iu (iu g 0 r_3) 1 r_8) (dgt (v % 16)) hw ⟨by omega, by omega⟩ (by simp only [iu_at, iu_ne _ _ (show (0 : Int) ≠ 1 by decide)]; exact hz1) (by simp only [iu_at]; exact hz2) ⟨by omega, by omega⟩) (fun v27 h28 q29 => ?_)
    obtain ⟨r_21, g_22, t_23, rfl, rfl, f24, f25, f26⟩ := q29
    refine Rx.walk 0 (pc' := 67) (L' := [some (.ref 91), some (.int (iz v)), some (.int (iz ci)), some (.ref 40), some (.ref (cpl j1)), none, none, none, none]) (st' := [.int (iz r_21)]) (h' := cxW (u2 (u2 (u2 (u2 z 3 2 pi) 3 3 len) 40 1 sz) 91 3 t_23) (uf (uf (uf (uf f 4 w) 92 g_22) 93 lt) 94 sk) C T rc tl) rfl ?_
    have hbx := f24
    simp only [iu_at, iu_ne _ _ (show (0 : Int) ≠ 1 by decide)] at hbx
    rw [show r_3 = v / 16 / 3125 by rcases f4 with q | q; exact q.2; (exfalso; omega), show r_8 = v / 16 % 3125 by rcases f9 with q | q; (exfalso; omega); exact q.2] at hbx
    have hby := f25
    refine Rx.ne1 rfl rfl ⟨by omega, by omega⟩ (fun b30 => ?_) (fun b30 => ?_)
    · refine Rx.walk 1 (pc' := 74) (L' := [some (.ref 91), some (.int (iz v)), some (.int (iz ci)), some (.ref 40), some (.ref (cpl j1)), none, none, none, none]) (st' := [.ref (cpl j1)]) (h' := cxW (u2 (u2 (u2 (u2 z 3 2 pi) 3 3 len) 40 1 sz) 91 3 t_23) (uf (uf (uf (uf f 4 w) 92 g_22) 93 lt) 94 sk) C T rc tl) rfl ?_
      refine Rx.gfS rfl rfl (cW_C (by omega)) rfl ?_
      refine Rx.walk 1 (pc' := 78) (L' := [some (.ref 91), some (.int (iz v)), some (.int (iz ci)), some (.ref 40), some (.ref (cpl j1)), none, none, none, none]) (st' := [.int (iz 4), .int (iz ((C j1).2.2.2.2.2.2.2))]) (h' := cxW (u2 (u2 (u2 (u2 z 3 2 pi) 3 3 len) 40 1 sz) 91 3 t_23) (uf (uf (uf (uf f 4 w) 92 g_22) 93 lt) 94 sk) C T rc tl) rfl ?_
      refine Rx.imul rfl ?_
      refine Rx.walk 3 (pc' := 84) (L' := [some (.ref 91), some (.int (iz v)), some (.int (iz ci)), some (.ref 40), some (.ref (cpl j1)), some (.int (iz (((C j1).2.2.2.2.2.2.2) * 4))), some (.int (iz 0)), none, none]) (st' := []) (h' := cxW (u2 (u2 (u2 (u2 z 3 2 pi) 3 3 len) 40 1 sz) 91 3 t_23) (uf (uf (uf (uf f 4 w) 92 g_22) 93 lt) 94 sk) C T rc tl) rfl ?_
      refine x_tillB_l40 _ (u2 z 91 3 t_23) f C T rc tl  v ci j1 (((C j1).2.2.2.2.2.2.2) * 4) (puB V w pi len (hnd (C j1) ((C j1).2.2.2.2.2.2.2) 0) (hbk w 11 (v / 16 / 3125) (v / 16 % 3125) (dgt (v % 16)) ((C j1).2.2.2.2.2.2.1 ((C j1).2.2.2.2.2.2.2))).2.1 (hbk w 11 (v / 16 / 3125) (v / 16 % 3125) (dgt (v % 16)) ((C j1).2.2.2.2.2.2.1 ((C j1).2.2.2.2.2.2.2))).2.2.1) pi len w sz ln cd V hw hpi hlen hrc hsz hcb hV (by omega) hcu hch rfl _ ?_ ?_ (((C j1).2.2.2.2.2.1 ((C j1).2.2.2.2.2.2.2) - 0) + 1 : Int).toNat 0 g_22 lt sk none none ⟨by omega, by omega⟩ (by have z := hby; exact z.1) (by have z := hby; exact z.2.1) (by rw [hbx.2.1, hbx.2.2.1]) (by omega) 
      · intro g_31 lt_32 sk_33 f34
        show (fun (rv : Option Value) (h : AmH) => ∃ r : Int, ∃ g' : Int → Int, ∃ t' : Int, ∃ lt' : Int → Int, ∃ sk' : Int → Int, rv = some (.int (iz r)) ∧ h = cxW (u2 (u2 (u2 (u2 z 3 2 pi) 3 3 len) 40 1 sz) 91 3 t') (uf (uf (uf (uf f 4 w) 92 g') 93 lt') 94 sk') C T rc tl ∧ r = tbN V w pi len (hOf (C ci.toNat)) v) (some (Value.int (iz (-1)))) (cxW (u2 (u2 (u2 (u2 z 3 2 pi) 3 3 len) 40 1 sz) 91 3 t_23) (uf (uf (uf (uf f 4 w) 92 g_31) 93 lt_32) 94 sk_33) C T rc tl)
        refine ⟨_, _, _, _, _, rfl, rfl, ?_⟩
        rw [hcj]
        unfold tbN
        rw [hOf_s (show ((C j1).2.2.2.2.2.2.2) ≠ -1 by omega)]
        rw [tbV_p (show (hbk w 11 (v / 16 / 3125) (v / 16 % 3125) (dgt (v % 16)) ((C j1).2.2.2.2.2.2.1 ((C j1).2.2.2.2.2.2.2))).1 ≠ 0 by rw [← (hbx).1]; omega) (show (puB V w pi len (hnd (C j1) ((C j1).2.2.2.2.2.2.2) 0) (hbk w 11 (v / 16 / 3125) (v / 16 % 3125) (dgt (v % 16)) ((C j1).2.2.2.2.2.2.1 ((C j1).2.2.2.2.2.2.2))).2.1 (hbk w 11 (v / 16 / 3125) (v / 16 % 3125) (dgt (v % 16)) ((C j1).2.2.2.2.2.2.1 ((C j1).2.2.2.2.2.2.2))).2.2.1).1 = 0 from f34)]
      · intro i_35 g_36 lt_37 sk_38 x7_39 x8_40 f41 f42
        refine Rx.walk 0 (pc' := 155) (L' := [some (.ref 91), some (.int (iz v)), some (.int (iz ci)), some (.ref 40), some (.ref (cpl j1)), some (.int (iz (((C j1).2.2.2.2.2.2.2) * 4))), some (.int (iz i_35)), x7_39, x8_40]) (st' := []) (h' := cxW (u2 (u2 (u2 (u2 z 3 2 pi) 3 3 len) 40 1 sz) 91 3 t_23) (uf (uf (uf (uf f 4 w) 92 g_36) 93 lt_37) 94 sk_38) C T rc tl) rfl ?_
        have hlx := f42
        refine Rx.walk 3 (pc' := 160) (L' := [some (.ref 91), some (.int (iz v)), some (.int (iz ci)), some (.ref 40), some (.ref (cpl j1)), some (.int (iz (((C j1).2.2.2.2.2.2.2) * 4))), some (.int (iz i_35)), x7_39, x8_40]) (st' := [.int (iz 0), .ref 92]) (h' := cxW (u2 (u2 (u2 (u2 z 3 2 pi) 3 3 len) 40 1 sz) 91 3 t_23) (uf (uf (uf (uf f 4 w) 92 g_36) 93 lt_37) 94 sk_38) C T rc tl) rfl ?_
        refine Rx.ial (g := g_36) rfl rfl (by omega) (by omega) (by omega) ?_
        refine Rx.walk 3 (pc' := 166) (L' := [some (.ref 91), some (.int (iz v)), some (.int (iz ci)), some (.ref 40), some (.ref (cpl j1)), some (.int (iz (((C j1).2.2.2.2.2.2.2) * 4))), some (.int (iz i_35)), x7_39, x8_40]) (st' := [.int (iz 1), .ref 92, .int (iz (g_36 0))]) (h' := cxW (u2 (u2 (u2 (u2 z 3 2 pi) 3 3 len) 40 1 sz) 91 3 t_23) (uf (uf (uf (uf f 4 w) 92 g_36) 93 lt_37) 94 sk_38) C T rc tl) rfl ?_
        refine Rx.ial (g := g_36) rfl rfl (by omega) (by omega) (by omega) ?_
        refine Rx.walk 2 (pc' := 171) (L' := [some (.ref 91), some (.int (iz v)), some (.int (iz ci)), some (.ref 40), some (.ref (cpl j1)), some (.int (iz (((C j1).2.2.2.2.2.2.2) * 4))), some (.int (iz i_35)), x7_39, x8_40]) (st' := [.int (iz t_23), .int (iz (g_36 1)), .int (iz (g_36 0))]) (h' := cxW (u2 (u2 (u2 (u2 z 3 2 pi) 3 3 len) 40 1 sz) 91 3 t_23) (uf (uf (uf (uf f 4 w) 92 g_36) 93 lt_37) 94 sk_38) C T rc tl) rfl ?_
        refine Rx.callx (m' := m_X10_trayWith) (as := [.int (iz t_23)]) (rest := [.int (iz (g_36 1)), .int (iz (g_36 0))]) rfl (n_trayWith _ (cxW (u2 (u2 (u2 (u2 z 3 2 pi) 3 3 len) 40 1 sz) 91 3 t_23) (uf (uf (uf (uf f 4 w) 92 g_36) 93 lt_37) 94 sk_38) C T rc tl)  t_23 (by first | assumption | omega) (by first | assumption | omega)) (fun v43 h44 q45 => ?_)
        obtain ⟨rfl, rfl⟩ := q45
        refine Rx.walk 0 (pc' := 174) (L' := [some (.ref 91), some (.int (iz v)), some (.int (iz ci)), some (.ref 40), some (.ref (cpl j1)), some (.int (iz (((C j1).2.2.2.2.2.2.2) * 4))), some (.int (iz i_35)), x7_39, x8_40]) (st' := [.int (iz (tw t_23)), .int (iz (g_36 1)), .int (iz (g_36 0))]) (h' := cxW (u2 (u2 (u2 (u2 z 3 2 pi) 3 3 len) 40 1 sz) 91 3 t_23) (uf (uf (uf (uf f 4 w) 92 g_36) 93 lt_37) 94 sk_38) C T rc tl) rfl ?_
        refine Rx.callx (m' := m_X10_number) (as := [.int (iz (g_36 0)), .int (iz (g_36 1)), .int (iz (tw t_23))]) (rest := []) rfl (n_number _ (cxW (u2 (u2 (u2 (u2 z 3 2 pi) 3 3 len) 40 1 sz) 91 3 t_23) (uf (uf (uf (uf f 4 w) 92 g_36) 93 lt_37) 94 sk_38) C T rc tl)  (g_36 0) (g_36 1) (tw t_23) ) (fun v46 h47 q48 => ?_)
        obtain ⟨rfl, rfl⟩ := q48
        refine Rx.walk 0 (pc' := 177) (L' := [some (.ref 91), some (.int (iz v)), some (.int (iz ci)), some (.ref 40), some (.ref (cpl j1)), some (.int (iz (((C j1).2.2.2.2.2.2.2) * 4))), some (.int (iz i_35)), x7_39, x8_40]) (st' := [.int (iz (((((g_36 0) * 3125) + (g_36 1)) * 16) + (tw t_23)))]) (h' := cxW (u2 (u2 (u2 (u2 z 3 2 pi) 3 3 len) 40 1 sz) 91 3 t_23) (uf (uf (uf (uf f 4 w) 92 g_36) 93 lt_37) 94 sk_38) C T rc tl) rfl ?_
        refine Rx.ret rfl ?_
        refine ⟨_, _, _, _, _, rfl, rfl, ?_⟩
        rw [hcj]
        unfold tbN
        rw [hOf_s (show ((C j1).2.2.2.2.2.2.2) ≠ -1 by omega)]
        rw [tbV_s (show (hbk w 11 (v / 16 / 3125) (v / 16 % 3125) (dgt (v % 16)) ((C j1).2.2.2.2.2.2.1 ((C j1).2.2.2.2.2.2.2))).1 ≠ 0 by rw [← (hbx).1]; omega) (show (puB V w pi len (hnd (C j1) ((C j1).2.2.2.2.2.2.2) 0) (hbk w 11 (v / 16 / 3125) (v / 16 % 3125) (dgt (v % 16)) ((C j1).2.2.2.2.2.2.1 ((C j1).2.2.2.2.2.2.2))).2.1 (hbk w 11 (v / 16 / 3125) (v / 16 % 3125) (dgt (v % 16)) ((C j1).2.2.2.2.2.2.1 ((C j1).2.2.2.2.2.2.2))).2.2.1).1 ≠ 0 by rw [(f41).1]; decide), ← (f41).2.1, ← (f41).2.2, ← hbx.2.2.2]
        rfl
    · refine Rx.walk 1 (pc' := 71) (L' := [some (.ref 91), some (.int (iz v)), some (.int (iz ci)), some (.ref 40), some (.ref (cpl j1)), none, none, none, none]) (st' := [.int (iz (-1))]) (h' := cxW (u2 (u2 (u2 (u2 z 3 2 pi) 3 3 len) 40 1 sz) 91 3 t_23) (uf (uf (uf (uf f 4 w) 92 g_22) 93 lt) 94 sk) C T rc tl) rfl ?_
      refine Rx.ret rfl ?_
      refine ⟨_, _, _, _, _, rfl, rfl, ?_⟩
      rw [hcj]
      unfold tbN
      rw [hOf_s (show ((C j1).2.2.2.2.2.2.2) ≠ -1 by omega)]
      rw [tbV_b (show (hbk w 11 (v / 16 / 3125) (v / 16 % 3125) (dgt (v % 16)) ((C j1).2.2.2.2.2.2.1 ((C j1).2.2.2.2.2.2.2))).1 = 0 by rw [← (hbx).1]; omega)]
  · refine Rx.walk 1 (pc' := 18) (L' := [some (.ref 91), some (.int (iz v)), some (.int (iz ci)), some (.ref 40), some (.ref (cpl j1)), none, none, none, none]) (st' := [.int (iz (-1))]) (h' := cxW (u2 (u2 (u2 (u2 z 3 2 pi) 3 3 len) 40 1 sz) 91 3 t) (uf (uf (uf (uf f 4 w) 92 g) 93 lt) 94 sk) C T rc tl) rfl ?_
    refine Rx.ret rfl ?_
    refine ⟨_, _, _, _, _, rfl, rfl, ?_⟩
    rw [hcj]
    unfold tbN
    rw [hOf_n (show ((C j1).2.2.2.2.2.2.2) = -1 by omega)]
    rfl
set_option maxRecDepth 100000 in
set_option maxHeartbeats 4000000 in
theorem x_chosenP42 (d : Nat) (z : Nat → Nat → Int) (f : Nat → Int → Int) (C : Nat → CuR) (T : Nat → TsR) (rc : Nat → Nat) (tl : AmH)  (e : Int) (g : Int → Int) (pi : Int) (len : Int) (w : Int → Int) (lt : Int → Int) (sk : Int → Int) (sz : Int) (ln : Nat) (cd : Int → Int) (V : (Int → Int) → Int) (hw : wOK w) (hpi : pi = 1 ∨ pi = 2) (hlen : 1 ≤ len ∧ len ≤ 5) (hrc : 98 ≤ rc 42 ∧ am_nth tl (rc 42 - 98) = some (.inl (.int, ln, .inl (av cd)))) (hsz : 0 ≤ sz ∧ sz ≤ 161 ∧ sz = (ln : Int)) (hcb : ∀ j : Int, 0 ≤ j → j < sz → sgB (cd j)) (hV : ruV V (crem cd 0 sz.toNat)) (he : 1 ≤ e ∧ e ≤ 4) (hg0 : 0 ≤ g 0 ∧ g 0 < 3125) (hg1 : 0 ≤ g 1 ∧ g 1 < 3125) : Rx (d + 3) m_X1_chosenPipe 0 (am_ent [.ref 91, .int (iz e), .ref 42] 7) [] (cxW (u2 (u2 (u2 z 3 2 pi) 3 3 len) 42 1 sz) (uf (uf (uf (uf f 4 w) 92 g) 93 lt) 94 sk) C T rc tl) (fun rv h => ∃ r : Int, ∃ lt' : Int → Int, ∃ sk' : Int → Int, rv = some (.int (iz r)) ∧ h = cxW (u2 (u2 (u2 z 3 2 pi) 3 3 len) 42 1 sz) (uf (uf (uf (uf f 4 w) 92 g) 93 lt') 94 sk') C T rc tl ∧ r = chP V w pi len e (g 0) (g 1)) := by
  have hh0 : 0 ≤ ht (g 0) ∧ ht (g 0) ≤ 5 := by have := ht_c (g 0); omega
  have hh1 : 0 ≤ ht (g 1) ∧ ht (g 1) ≤ 5 := by have := ht_c (g 1); omega
  refine Rx.walk 0 (pc' := 0) (L' := [some (.ref 91), some (.int (iz e)), some (.ref 42), none, none, none, none]) (st' := []) (h' := cxW (u2 (u2 (u2 z 3 2 pi) 3 3 len) 42 1 sz) (uf (uf (uf (uf f 4 w) 92 g) 93 lt) 94 sk) C T rc tl) rfl ?_
  refine Rx.walk 10 (pc' := 17) (L' := [some (.ref 91), some (.int (iz e)), some (.ref 42), some (.int (iz (-1))), some (.int (iz 0)), some (.int (iz 0)), none]) (st' := [.int (iz pi), .int (iz 0)]) (h' := cxW (u2 (u2 (u2 z 3 2 pi) 3 3 len) 42 1 sz) (uf (uf (uf (uf f 4 w) 92 g) 93 lt) 94 sk) C T rc tl) rfl ?_
  refine Rx.ge2 rfl rfl ⟨by omega, by omega⟩ ⟨by omega, by omega⟩ (fun b1 => by omega) (fun b1 => ?_)
  refine Rx.walk 2 (pc' := 23) (L' := [some (.ref 91), some (.int (iz e)), some (.ref 42), some (.int (iz (-1))), some (.int (iz 0)), some (.int (iz 0)), none]) (st' := [.int (iz 2), .int (iz 0)]) (h' := cxW (u2 (u2 (u2 z 3 2 pi) 3 3 len) 42 1 sz) (uf (uf (uf (uf f 4 w) 92 g) 93 lt) 94 sk) C T rc tl) rfl ?_
  refine Rx.ge2 rfl rfl ⟨by omega, by omega⟩ ⟨by omega, by omega⟩ (fun b2 => by omega) (fun b2 => ?_)
  refine Rx.walk 3 (pc' := 32) (L' := [some (.ref 91), some (.int (iz e)), some (.ref 42), some (.int (iz (-1))), some (.int (iz 0)), some (.int (iz 0)), none]) (st' := [.int (iz 0), .ref 92]) (h' := cxW (u2 (u2 (u2 z 3 2 pi) 3 3 len) 42 1 sz) (uf (uf (uf (uf f 4 w) 92 g) 93 lt) 94 sk) C T rc tl) rfl ?_
  refine Rx.ial (g := g) rfl rfl (by omega) (by omega) (by omega) ?_
  refine Rx.callx (m' := m_X10_height) (as := [.int (iz (g 0))]) (rest := []) rfl (n_height _ (cxW (u2 (u2 (u2 z 3 2 pi) 3 3 len) 42 1 sz) (uf (uf (uf (uf f 4 w) 92 g) 93 lt) 94 sk) C T rc tl)  (g 0) ⟨by omega, by omega⟩) (fun v5 h6 q7 => ?_)
  obtain ⟨r_3, rfl, rfl, f4⟩ := q7
  refine Rx.walk 0 (pc' := 36) (L' := [some (.ref 91), some (.int (iz e)), some (.ref 42), some (.int (iz (-1))), some (.int (iz 0)), some (.int (iz 0)), none]) (st' := [.int (iz r_3)]) (h' := cxW (u2 (u2 (u2 z 3 2 pi) 3 3 len) 42 1 sz) (uf (uf (uf (uf f 4 w) 92 g) 93 lt) 94 sk) C T rc tl) rfl ?_
  refine Rx.walk 3 (pc' := 43) (L' := [some (.ref 91), some (.int (iz e)), some (.ref 42), some (.int (iz (-1))), some (.int (iz 0)), some (.int (iz 0)), none]) (st' := [.int (iz len), .int (iz r_3)]) (h' := cxW (u2 (u2 (u2 z 3 2 pi) 3 3 len) 42 1 sz) (uf (uf (uf (uf f 4 w) 92 g) 93 lt) 94 sk) C T rc tl) rfl ?_
  refine Rx.ge2 rfl rfl ⟨by omega, by omega⟩ ⟨by omega, by omega⟩ (fun b8 => ?_) (fun b8 => ?_)
  · refine Rx.iinc (b := 1) rfl rfl rfl ?_
    refine Rx.walk 0 (pc' := 89) (L' := [some (.ref 91), some (.int (iz e)), some (.ref 42), some (.int (iz (-1))), some (.int (iz 0)), some (.int (iz 1)), none]) (st' := []) (h' := cxW (u2 (u2 (u2 z 3 2 pi) 3 3 len) 42 1 sz) (uf (uf (uf (uf f 4 w) 92 g) 93 lt) 94 sk) C T rc tl) rfl ?_
    refine Rx.walk 5 (pc' := 17) (L' := [some (.ref 91), some (.int (iz e)), some (.ref 42), some (.int (iz (-1))), some (.int (iz 0)), some (.int (iz 1)), none]) (st' := [.int (iz pi), .int (iz 1)]) (h' := cxW (u2 (u2 (u2 z 3 2 pi) 3 3 len) 42 1 sz) (uf (uf (uf (uf f 4 w) 92 g) 93 lt) 94 sk) C T rc tl) rfl ?_
    refine Rx.ge2 rfl rfl ⟨by omega, by omega⟩ ⟨by omega, by omega⟩ (fun b9 => ?_) (fun b9 => ?_)
    · refine Rx.walk 1 (pc' := 93) (L' := [some (.ref 91), some (.int (iz e)), some (.ref 42), some (.int (iz (-1))), some (.int (iz 0)), some (.int (iz 1)), none]) (st' := [.int (iz (-1))]) (h' := cxW (u2 (u2 (u2 z 3 2 pi) 3 3 len) 42 1 sz) (uf (uf (uf (uf f 4 w) 92 g) 93 lt) 94 sk) C T rc tl) rfl ?_
      refine Rx.ret rfl ?_
      refine ⟨_, _, _, rfl, rfl, ?_⟩
      unfold chP
      rw [if_neg (by omega), if_neg (by omega)]
    · refine Rx.walk 2 (pc' := 23) (L' := [some (.ref 91), some (.int (iz e)), some (.ref 42), some (.int (iz (-1))), some (.int (iz 0)), some (.int (iz 1)), none]) (st' := [.int (iz 2), .int (iz 1)]) (h' := cxW (u2 (u2 (u2 z 3 2 pi) 3 3 len) 42 1 sz) (uf (uf (uf (uf f 4 w) 92 g) 93 lt) 94 sk) C T rc tl) rfl ?_
      refine Rx.ge2 rfl rfl ⟨by omega, by omega⟩ ⟨by omega, by omega⟩ (fun b10 => by omega) (fun b10 => ?_)
      refine Rx.walk 3 (pc' := 32) (L' := [some (.ref 91), some (.int (iz e)), some (.ref 42), some (.int (iz (-1))), some (.int (iz 0)), some (.int (iz 1)), none]) (st' := [.int (iz 1), .ref 92]) (h' := cxW (u2 (u2 (u2 z 3 2 pi) 3 3 len) 42 1 sz) (uf (uf (uf (uf f 4 w) 92 g) 93 lt) 94 sk) C T rc tl) rfl ?_
      refine Rx.ial (g := g) rfl rfl (by omega) (by omega) (by omega) ?_
      refine Rx.callx (m' := m_X10_height) (as := [.int (iz (g 1))]) (rest := []) rfl (n_height _ (cxW (u2 (u2 (u2 z 3 2 pi) 3 3 len) 42 1 sz) (uf (uf (uf (uf f 4 w) 92 g) 93 lt) 94 sk) C T rc tl)  (g 1) ⟨by omega, by omega⟩) (fun v13 h14 q15 => ?_)
      obtain ⟨r_11, rfl, rfl, f12⟩ := q15
      refine Rx.walk 0 (pc' := 36) (L' := [some (.ref 91), some (.int (iz e)), some (.ref 42), some (.int (iz (-1))), some (.int (iz 0)), some (.int (iz 1)), none]) (st' := [.int (iz r_11)]) (h' := cxW (u2 (u2 (u2 z 3 2 pi) 3 3 len) 42 1 sz) (uf (uf (uf (uf f 4 w) 92 g) 93 lt) 94 sk) C T rc tl) rfl ?_
      refine Rx.walk 3 (pc' := 43) (L' := [some (.ref 91), some (.int (iz e)), some (.ref 42), some (.int (iz (-1))), some (.int (iz 0)), some (.int (iz 1)), none]) (st' := [.int (iz len), .int (iz r_11)]) (h' := cxW (u2 (u2 (u2 z 3 2 pi) 3 3 len) 42 1 sz) (uf (uf (uf (uf f 4 w) 92 g) 93 lt) 94 sk) C T rc tl) rfl ?_
      refine Rx.ge2 rfl rfl ⟨by omega, by omega⟩ ⟨by omega, by omega⟩ (fun b16 => ?_) (fun b16 => ?_)
      · refine Rx.iinc (b := 1) rfl rfl rfl ?_
        refine Rx.walk 0 (pc' := 89) (L' := [some (.ref 91), some (.int (iz e)), some (.ref 42), some (.int (iz (-1))), some (.int (iz 0)), some (.int (iz 2)), none]) (st' := []) (h' := cxW (u2 (u2 (u2 z 3 2 pi) 3 3 len) 42 1 sz) (uf (uf (uf (uf f 4 w) 92 g) 93 lt) 94 sk) C T rc tl) rfl ?_
        refine Rx.walk 5 (pc' := 17) (L' := [some (.ref 91), some (.int (iz e)), some (.ref 42), some (.int (iz (-1))), some (.int (iz 0)), some (.int (iz 2)), none]) (st' := [.int (iz pi), .int (iz 2)]) (h' := cxW (u2 (u2 (u2 z 3 2 pi) 3 3 len) 42 1 sz) (uf (uf (uf (uf f 4 w) 92 g) 93 lt) 94 sk) C T rc tl) rfl ?_
        refine Rx.ge2 rfl rfl ⟨by omega, by omega⟩ ⟨by omega, by omega⟩ (fun b17 => ?_) (fun b17 => by omega)
        refine Rx.walk 1 (pc' := 93) (L' := [some (.ref 91), some (.int (iz e)), some (.ref 42), some (.int (iz (-1))), some (.int (iz 0)), some (.int (iz 2)), none]) (st' := [.int (iz (-1))]) (h' := cxW (u2 (u2 (u2 z 3 2 pi) 3 3 len) 42 1 sz) (uf (uf (uf (uf f 4 w) 92 g) 93 lt) 94 sk) C T rc tl) rfl ?_
        refine Rx.ret rfl ?_
        refine ⟨_, _, _, rfl, rfl, ?_⟩
        unfold chP
        rw [if_neg (by omega), if_neg (by omega)]
      · refine Rx.walk 3 (pc' := 50) (L' := [some (.ref 91), some (.int (iz e)), some (.ref 42), some (.int (iz (-1))), some (.int (iz 0)), some (.int (iz 1)), none]) (st' := [.int (iz 1), .int (iz e), .ref 91]) (h' := cxW (u2 (u2 (u2 z 3 2 pi) 3 3 len) 42 1 sz) (uf (uf (uf (uf f 4 w) 92 g) 93 lt) 94 sk) C T rc tl) rfl ?_
        refine Rx.callx (m' := m_X1_setLetters) (as := [.ref 91, .int (iz e), .int (iz 1)]) (rest := []) rfl (x_setL1 _ (u2 (u2 (u2 z 3 2 pi) 3 3 len) 42 1 sz) (uf f 94 sk) C T rc tl  e w g lt hw ⟨by omega, by omega⟩ hg0 hg1) (fun v20 h21 q22 => ?_)
        obtain ⟨lt_18, rfl, rfl, f19⟩ := q22
        refine Rx.walk 0 (pc' := 53) (L' := [some (.ref 91), some (.int (iz e)), some (.ref 42), some (.int (iz (-1))), some (.int (iz 0)), some (.int (iz 1)), none]) (st' := []) (h' := cxW (u2 (u2 (u2 z 3 2 pi) 3 3 len) 42 1 sz) (uf (uf (uf (uf f 4 w) 92 g) 93 lt_18) 94 sk) C T rc tl) rfl ?_
        refine Rx.walk 5 (pc' := 62) (L' := [some (.ref 91), some (.int (iz e)), some (.ref 42), some (.int (iz (-1))), some (.int (iz 0)), some (.int (iz 1)), none]) (st' := [.ref 94, .ref 93, .ref 42]) (h' := cxW (u2 (u2 (u2 z 3 2 pi) 3 3 len) 42 1 sz) (uf (uf (uf (uf f 4 w) 92 g) 93 lt_18) 94 sk) C T rc tl) rfl ?_
        have hc1 : bdL (ltB w e 1 (g 1) (g 0)) := ltB_b hw ⟨by omega, by omega⟩ ⟨by omega, by omega⟩ hg1.1
        have hb1 := bdL_eq (fun j a b => (f19 j a b).symm) hc1
        refine Rx.callx (m' := m_X6_worth) (as := [.ref 42, .ref 93, .ref 94]) (rest := []) rfl (x_worth42 _ (u2 (u2 z 3 2 pi) 3 3 len) (uf (uf f 4 w) 92 g) C T rc tl  sz ln cd lt_18 sk hrc hsz hcb hb1 (hV _ hb1).1) (fun v26 h27 q28 => ?_)
        obtain ⟨r_23, g_24, rfl, rfl, f25⟩ := q28
        refine Rx.walk 0 (pc' := 65) (L' := [some (.ref 91), some (.int (iz e)), some (.ref 42), some (.int (iz (-1))), some (.int (iz 0)), some (.int (iz 1)), none]) (st' := [.int (iz r_23)]) (h' := cxW (u2 (u2 (u2 z 3 2 pi) 3 3 len) 42 1 sz) (uf (uf (uf (uf f 4 w) 92 g) 93 lt_18) 94 g_24) C T rc tl) rfl ?_
        have hv1 : r_23 = V (ltB w e 1 (g 1) (g 0)) := by rw [f25, ← (hV _ hb1).2.1]; exact ruV_congr hV hb1 f19
        obtain ⟨hu1, hx1⟩ := (hV _ hc1).2.2
        rw [← hv1] at hu1 hx1
        refine Rx.walk 3 (pc' := 69) (L' := [some (.ref 91), some (.int (iz e)), some (.ref 42), some (.int (iz (-1))), some (.int (iz 0)), some (.int (iz 1)), some (.int (iz r_23))]) (st' := [.int (iz (-1)), .int (iz (-1))]) (h' := cxW (u2 (u2 (u2 z 3 2 pi) 3 3 len) 42 1 sz) (uf (uf (uf (uf f 4 w) 92 g) 93 lt_18) 94 g_24) C T rc tl) rfl ?_
        refine Rx.eq2 rfl rfl ⟨by omega, by omega⟩ ⟨by omega, by omega⟩ (fun b29 => ?_) (fun b29 => by omega)
        refine Rx.walk 4 (pc' := 86) (L' := [some (.ref 91), some (.int (iz e)), some (.ref 42), some (.int (iz 1)), some (.int (iz r_23)), some (.int (iz 1)), some (.int (iz r_23))]) (st' := []) (h' := cxW (u2 (u2 (u2 z 3 2 pi) 3 3 len) 42 1 sz) (uf (uf (uf (uf f 4 w) 92 g) 93 lt_18) 94 g_24) C T rc tl) rfl ?_
        refine Rx.iinc (b := 1) rfl rfl rfl ?_
        refine Rx.walk 0 (pc' := 89) (L' := [some (.ref 91), some (.int (iz e)), some (.ref 42), some (.int (iz 1)), some (.int (iz r_23)), some (.int (iz 2)), some (.int (iz r_23))]) (st' := []) (h' := cxW (u2 (u2 (u2 z 3 2 pi) 3 3 len) 42 1 sz) (uf (uf (uf (uf f 4 w) 92 g) 93 lt_18) 94 g_24) C T rc tl) rfl ?_
        refine Rx.walk 5 (pc' := 17) (L' := [some (.ref 91), some (.int (iz e)), some (.ref 42), some (.int (iz 1)), some (.int (iz r_23)), some (.int (iz 2)), some (.int (iz r_23))]) (st' := [.int (iz pi), .int (iz 2)]) (h' := cxW (u2 (u2 (u2 z 3 2 pi) 3 3 len) 42 1 sz) (uf (uf (uf (uf f 4 w) 92 g) 93 lt_18) 94 g_24) C T rc tl) rfl ?_
        refine Rx.ge2 rfl rfl ⟨by omega, by omega⟩ ⟨by omega, by omega⟩ (fun b30 => ?_) (fun b30 => by omega)
        refine Rx.walk 1 (pc' := 93) (L' := [some (.ref 91), some (.int (iz e)), some (.ref 42), some (.int (iz 1)), some (.int (iz r_23)), some (.int (iz 2)), some (.int (iz r_23))]) (st' := [.int (iz 1)]) (h' := cxW (u2 (u2 (u2 z 3 2 pi) 3 3 len) 42 1 sz) (uf (uf (uf (uf f 4 w) 92 g) 93 lt_18) 94 g_24) C T rc tl) rfl ?_
        refine Rx.ret rfl ?_
        refine ⟨_, _, _, rfl, rfl, ?_⟩
        unfold chP
        rw [if_neg (by omega), if_pos ⟨by omega, by omega⟩]
  · refine Rx.walk 3 (pc' := 50) (L' := [some (.ref 91), some (.int (iz e)), some (.ref 42), some (.int (iz (-1))), some (.int (iz 0)), some (.int (iz 0)), none]) (st' := [.int (iz 0), .int (iz e), .ref 91]) (h' := cxW (u2 (u2 (u2 z 3 2 pi) 3 3 len) 42 1 sz) (uf (uf (uf (uf f 4 w) 92 g) 93 lt) 94 sk) C T rc tl) rfl ?_
    refine Rx.callx (m' := m_X1_setLetters) (as := [.ref 91, .int (iz e), .int (iz 0)]) (rest := []) rfl (x_setL0 _ (u2 (u2 (u2 z 3 2 pi) 3 3 len) 42 1 sz) (uf f 94 sk) C T rc tl  e w g lt hw ⟨by omega, by omega⟩ hg0 hg1) (fun v33 h34 q35 => ?_)
    obtain ⟨lt_31, rfl, rfl, f32⟩ := q35
    refine Rx.walk 0 (pc' := 53) (L' := [some (.ref 91), some (.int (iz e)), some (.ref 42), some (.int (iz (-1))), some (.int (iz 0)), some (.int (iz 0)), none]) (st' := []) (h' := cxW (u2 (u2 (u2 z 3 2 pi) 3 3 len) 42 1 sz) (uf (uf (uf (uf f 4 w) 92 g) 93 lt_31) 94 sk) C T rc tl) rfl ?_
    refine Rx.walk 5 (pc' := 62) (L' := [some (.ref 91), some (.int (iz e)), some (.ref 42), some (.int (iz (-1))), some (.int (iz 0)), some (.int (iz 0)), none]) (st' := [.ref 94, .ref 93, .ref 42]) (h' := cxW (u2 (u2 (u2 z 3 2 pi) 3 3 len) 42 1 sz) (uf (uf (uf (uf f 4 w) 92 g) 93 lt_31) 94 sk) C T rc tl) rfl ?_
    have hc1 : bdL (ltB w e 0 (g 0) (g 1)) := ltB_b hw ⟨by omega, by omega⟩ ⟨by omega, by omega⟩ hg0.1
    have hb1 := bdL_eq (fun j a b => (f32 j a b).symm) hc1
    refine Rx.callx (m' := m_X6_worth) (as := [.ref 42, .ref 93, .ref 94]) (rest := []) rfl (x_worth42 _ (u2 (u2 z 3 2 pi) 3 3 len) (uf (uf f 4 w) 92 g) C T rc tl  sz ln cd lt_31 sk hrc hsz hcb hb1 (hV _ hb1).1) (fun v39 h40 q41 => ?_)
    obtain ⟨r_36, g_37, rfl, rfl, f38⟩ := q41
    refine Rx.walk 0 (pc' := 65) (L' := [some (.ref 91), some (.int (iz e)), some (.ref 42), some (.int (iz (-1))), some (.int (iz 0)), some (.int (iz 0)), none]) (st' := [.int (iz r_36)]) (h' := cxW (u2 (u2 (u2 z 3 2 pi) 3 3 len) 42 1 sz) (uf (uf (uf (uf f 4 w) 92 g) 93 lt_31) 94 g_37) C T rc tl) rfl ?_
    have hv1 : r_36 = V (ltB w e 0 (g 0) (g 1)) := by rw [f38, ← (hV _ hb1).2.1]; exact ruV_congr hV hb1 f32
    obtain ⟨hu1, hx1⟩ := (hV _ hc1).2.2
    rw [← hv1] at hu1 hx1
    refine Rx.walk 3 (pc' := 69) (L' := [some (.ref 91), some (.int (iz e)), some (.ref 42), some (.int (iz (-1))), some (.int (iz 0)), some (.int (iz 0)), some (.int (iz r_36))]) (st' := [.int (iz (-1)), .int (iz (-1))]) (h' := cxW (u2 (u2 (u2 z 3 2 pi) 3 3 len) 42 1 sz) (uf (uf (uf (uf f 4 w) 92 g) 93 lt_31) 94 g_37) C T rc tl) rfl ?_
    refine Rx.eq2 rfl rfl ⟨by omega, by omega⟩ ⟨by omega, by omega⟩ (fun b42 => ?_) (fun b42 => by omega)
    refine Rx.walk 4 (pc' := 86) (L' := [some (.ref 91), some (.int (iz e)), some (.ref 42), some (.int (iz 0)), some (.int (iz r_36)), some (.int (iz 0)), some (.int (iz r_36))]) (st' := []) (h' := cxW (u2 (u2 (u2 z 3 2 pi) 3 3 len) 42 1 sz) (uf (uf (uf (uf f 4 w) 92 g) 93 lt_31) 94 g_37) C T rc tl) rfl ?_
    refine Rx.iinc (b := 1) rfl rfl rfl ?_
    refine Rx.walk 0 (pc' := 89) (L' := [some (.ref 91), some (.int (iz e)), some (.ref 42), some (.int (iz 0)), some (.int (iz r_36)), some (.int (iz 1)), some (.int (iz r_36))]) (st' := []) (h' := cxW (u2 (u2 (u2 z 3 2 pi) 3 3 len) 42 1 sz) (uf (uf (uf (uf f 4 w) 92 g) 93 lt_31) 94 g_37) C T rc tl) rfl ?_
    refine Rx.walk 5 (pc' := 17) (L' := [some (.ref 91), some (.int (iz e)), some (.ref 42), some (.int (iz 0)), some (.int (iz r_36)), some (.int (iz 1)), some (.int (iz r_36))]) (st' := [.int (iz pi), .int (iz 1)]) (h' := cxW (u2 (u2 (u2 z 3 2 pi) 3 3 len) 42 1 sz) (uf (uf (uf (uf f 4 w) 92 g) 93 lt_31) 94 g_37) C T rc tl) rfl ?_
    refine Rx.ge2 rfl rfl ⟨by omega, by omega⟩ ⟨by omega, by omega⟩ (fun b43 => ?_) (fun b43 => ?_)
    · refine Rx.walk 1 (pc' := 93) (L' := [some (.ref 91), some (.int (iz e)), some (.ref 42), some (.int (iz 0)), some (.int (iz r_36)), some (.int (iz 1)), some (.int (iz r_36))]) (st' := [.int (iz 0)]) (h' := cxW (u2 (u2 (u2 z 3 2 pi) 3 3 len) 42 1 sz) (uf (uf (uf (uf f 4 w) 92 g) 93 lt_31) 94 g_37) C T rc tl) rfl ?_
      refine Rx.ret rfl ?_
      refine ⟨_, _, _, rfl, rfl, ?_⟩
      unfold chP
      rw [if_pos (by omega), if_neg (by omega)]
    · refine Rx.walk 2 (pc' := 23) (L' := [some (.ref 91), some (.int (iz e)), some (.ref 42), some (.int (iz 0)), some (.int (iz r_36)), some (.int (iz 1)), some (.int (iz r_36))]) (st' := [.int (iz 2), .int (iz 1)]) (h' := cxW (u2 (u2 (u2 z 3 2 pi) 3 3 len) 42 1 sz) (uf (uf (uf (uf f 4 w) 92 g) 93 lt_31) 94 g_37) C T rc tl) rfl ?_
      refine Rx.ge2 rfl rfl ⟨by omega, by omega⟩ ⟨by omega, by omega⟩ (fun b44 => by omega) (fun b44 => ?_)
      refine Rx.walk 3 (pc' := 32) (L' := [some (.ref 91), some (.int (iz e)), some (.ref 42), some (.int (iz 0)), some (.int (iz r_36)), some (.int (iz 1)), some (.int (iz r_36))]) (st' := [.int (iz 1), .ref 92]) (h' := cxW (u2 (u2 (u2 z 3 2 pi) 3 3 len) 42 1 sz) (uf (uf (uf (uf f 4 w) 92 g) 93 lt_31) 94 g_37) C T rc tl) rfl ?_
      refine Rx.ial (g := g) rfl rfl (by omega) (by omega) (by omega) ?_
      refine Rx.callx (m' := m_X10_height) (as := [.int (iz (g 1))]) (rest := []) rfl (n_height _ (cxW (u2 (u2 (u2 z 3 2 pi) 3 3 len) 42 1 sz) (uf (uf (uf (uf f 4 w) 92 g) 93 lt_31) 94 g_37) C T rc tl)  (g 1) ⟨by omega, by omega⟩) (fun v47 h48 q49 => ?_)
      obtain ⟨r_45, rfl, rfl, f46⟩ := q49
      refine Rx.walk 0 (pc' := 36) (L' := [some (.ref 91), some (.int (iz e)), some (.ref 42), some (.int (iz 0)), some (.int (iz r_36)), some (.int (iz 1)), some (.int (iz r_36))]) (st' := [.int (iz r_45)]) (h' := cxW (u2 (u2 (u2 z 3 2 pi) 3 3 len) 42 1 sz) (uf (uf (uf (uf f 4 w) 92 g) 93 lt_31) 94 g_37) C T rc tl) rfl ?_
      refine Rx.walk 3 (pc' := 43) (L' := [some (.ref 91), some (.int (iz e)), some (.ref 42), some (.int (iz 0)), some (.int (iz r_36)), some (.int (iz 1)), some (.int (iz r_36))]) (st' := [.int (iz len), .int (iz r_45)]) (h' := cxW (u2 (u2 (u2 z 3 2 pi) 3 3 len) 42 1 sz) (uf (uf (uf (uf f 4 w) 92 g) 93 lt_31) 94 g_37) C T rc tl) rfl ?_
      refine Rx.ge2 rfl rfl ⟨by omega, by omega⟩ ⟨by omega, by omega⟩ (fun b50 => ?_) (fun b50 => ?_)
      · refine Rx.iinc (b := 1) rfl rfl rfl ?_
        refine Rx.walk 0 (pc' := 89) (L' := [some (.ref 91), some (.int (iz e)), some (.ref 42), some (.int (iz 0)), some (.int (iz r_36)), some (.int (iz 2)), some (.int (iz r_36))]) (st' := []) (h' := cxW (u2 (u2 (u2 z 3 2 pi) 3 3 len) 42 1 sz) (uf (uf (uf (uf f 4 w) 92 g) 93 lt_31) 94 g_37) C T rc tl) rfl ?_
        refine Rx.walk 5 (pc' := 17) (L' := [some (.ref 91), some (.int (iz e)), some (.ref 42), some (.int (iz 0)), some (.int (iz r_36)), some (.int (iz 2)), some (.int (iz r_36))]) (st' := [.int (iz pi), .int (iz 2)]) (h' := cxW (u2 (u2 (u2 z 3 2 pi) 3 3 len) 42 1 sz) (uf (uf (uf (uf f 4 w) 92 g) 93 lt_31) 94 g_37) C T rc tl) rfl ?_
        refine Rx.ge2 rfl rfl ⟨by omega, by omega⟩ ⟨by omega, by omega⟩ (fun b51 => ?_) (fun b51 => by omega)
        refine Rx.walk 1 (pc' := 93) (L' := [some (.ref 91), some (.int (iz e)), some (.ref 42), some (.int (iz 0)), some (.int (iz r_36)), some (.int (iz 2)), some (.int (iz r_36))]) (st' := [.int (iz 0)]) (h' := cxW (u2 (u2 (u2 z 3 2 pi) 3 3 len) 42 1 sz) (uf (uf (uf (uf f 4 w) 92 g) 93 lt_31) 94 g_37) C T rc tl) rfl ?_
        refine Rx.ret rfl ?_
        refine ⟨_, _, _, rfl, rfl, ?_⟩
        unfold chP
        rw [if_pos (by omega), if_neg (by omega)]
      · refine Rx.walk 3 (pc' := 50) (L' := [some (.ref 91), some (.int (iz e)), some (.ref 42), some (.int (iz 0)), some (.int (iz r_36)), some (.int (iz 1)), some (.int (iz r_36))]) (st' := [.int (iz 1), .int (iz e), .ref 91]) (h' := cxW (u2 (u2 (u2 z 3 2 pi) 3 3 len) 42 1 sz) (uf (uf (uf (uf f 4 w) 92 g) 93 lt_31) 94 g_37) C T rc tl) rfl ?_
        refine Rx.callx (m' := m_X1_setLetters) (as := [.ref 91, .int (iz e), .int (iz 1)]) (rest := []) rfl (x_setL1 _ (u2 (u2 (u2 z 3 2 pi) 3 3 len) 42 1 sz) (uf f 94 g_37) C T rc tl  e w g lt_31 hw ⟨by omega, by omega⟩ hg0 hg1) (fun v54 h55 q56 => ?_)
        obtain ⟨lt_52, rfl, rfl, f53⟩ := q56
        refine Rx.walk 0 (pc' := 53) (L' := [some (.ref 91), some (.int (iz e)), some (.ref 42), some (.int (iz 0)), some (.int (iz r_36)), some (.int (iz 1)), some (.int (iz r_36))]) (st' := []) (h' := cxW (u2 (u2 (u2 z 3 2 pi) 3 3 len) 42 1 sz) (uf (uf (uf (uf f 4 w) 92 g) 93 lt_52) 94 g_37) C T rc tl) rfl ?_
        refine Rx.walk 5 (pc' := 62) (L' := [some (.ref 91), some (.int (iz e)), some (.ref 42), some (.int (iz 0)), some (.int (iz r_36)), some (.int (iz 1)), some (.int (iz r_36))]) (st' := [.ref 94, .ref 93, .ref 42]) (h' := cxW (u2 (u2 (u2 z 3 2 pi) 3 3 len) 42 1 sz) (uf (uf (uf (uf f 4 w) 92 g) 93 lt_52) 94 g_37) C T rc tl) rfl ?_
        have hc2 : bdL (ltB w e 1 (g 1) (g 0)) := ltB_b hw ⟨by omega, by omega⟩ ⟨by omega, by omega⟩ hg1.1
        have hb2 := bdL_eq (fun j a b => (f53 j a b).symm) hc2
        refine Rx.callx (m' := m_X6_worth) (as := [.ref 42, .ref 93, .ref 94]) (rest := []) rfl (x_worth42 _ (u2 (u2 z 3 2 pi) 3 3 len) (uf (uf f 4 w) 92 g) C T rc tl  sz ln cd lt_52 g_37 hrc hsz hcb hb2 (hV _ hb2).1) (fun v60 h61 q62 => ?_)
        obtain ⟨r_57, g_58, rfl, rfl, f59⟩ := q62
        refine Rx.walk 0 (pc' := 65) (L' := [some (.ref 91), some (.int (iz e)), some (.ref 42), some (.int (iz 0)), some (.int (iz r_36)), some (.int (iz 1)), some (.int (iz r_36))]) (st' := [.int (iz r_57)]) (h' := cxW (u2 (u2 (u2 z 3 2 pi) 3 3 len) 42 1 sz) (uf (uf (uf (uf f 4 w) 92 g) 93 lt_52) 94 g_58) C T rc tl) rfl ?_
        have hv2 : r_57 = V (ltB w e 1 (g 1) (g 0)) := by rw [f59, ← (hV _ hb2).2.1]; exact ruV_congr hV hb2 f53
        obtain ⟨hu2, hx2⟩ := (hV _ hc2).2.2
        rw [← hv2] at hu2 hx2
        refine Rx.walk 3 (pc' := 69) (L' := [some (.ref 91), some (.int (iz e)), some (.ref 42), some (.int (iz 0)), some (.int (iz r_36)), some (.int (iz 1)), some (.int (iz r_57))]) (st' := [.int (iz (-1)), .int (iz 0)]) (h' := cxW (u2 (u2 (u2 z 3 2 pi) 3 3 len) 42 1 sz) (uf (uf (uf (uf f 4 w) 92 g) 93 lt_52) 94 g_58) C T rc tl) rfl ?_
        refine Rx.eq2 rfl rfl ⟨by omega, by omega⟩ ⟨by omega, by omega⟩ (fun b63 => by omega) (fun b63 => ?_)
        refine Rx.walk 2 (pc' := 76) (L' := [some (.ref 91), some (.int (iz e)), some (.ref 42), some (.int (iz 0)), some (.int (iz r_36)), some (.int (iz 1)), some (.int (iz r_57))]) (st' := [.int (iz r_36), .int (iz r_57)]) (h' := cxW (u2 (u2 (u2 z 3 2 pi) 3 3 len) 42 1 sz) (uf (uf (uf (uf f 4 w) 92 g) 93 lt_52) 94 g_58) C T rc tl) rfl ?_
        refine Rx.le2 rfl rfl ⟨by omega, by omega⟩ ⟨by omega, by omega⟩ (fun b64 => ?_) (fun b64 => ?_)
        · refine Rx.iinc (b := 1) rfl rfl rfl ?_
          refine Rx.walk 0 (pc' := 89) (L' := [some (.ref 91), some (.int (iz e)), some (.ref 42), some (.int (iz 0)), some (.int (iz r_36)), some (.int (iz 2)), some (.int (iz r_57))]) (st' := []) (h' := cxW (u2 (u2 (u2 z 3 2 pi) 3 3 len) 42 1 sz) (uf (uf (uf (uf f 4 w) 92 g) 93 lt_52) 94 g_58) C T rc tl) rfl ?_
          refine Rx.walk 5 (pc' := 17) (L' := [some (.ref 91), some (.int (iz e)), some (.ref 42), some (.int (iz 0)), some (.int (iz r_36)), some (.int (iz 2)), some (.int (iz r_57))]) (st' := [.int (iz pi), .int (iz 2)]) (h' := cxW (u2 (u2 (u2 z 3 2 pi) 3 3 len) 42 1 sz) (uf (uf (uf (uf f 4 w) 92 g) 93 lt_52) 94 g_58) C T rc tl) rfl ?_
          refine Rx.ge2 rfl rfl ⟨by omega, by omega⟩ ⟨by omega, by omega⟩ (fun b65 => ?_) (fun b65 => by omega)
          refine Rx.walk 1 (pc' := 93) (L' := [some (.ref 91), some (.int (iz e)), some (.ref 42), some (.int (iz 0)), some (.int (iz r_36)), some (.int (iz 2)), some (.int (iz r_57))]) (st' := [.int (iz 0)]) (h' := cxW (u2 (u2 (u2 z 3 2 pi) 3 3 len) 42 1 sz) (uf (uf (uf (uf f 4 w) 92 g) 93 lt_52) 94 g_58) C T rc tl) rfl ?_
          refine Rx.ret rfl ?_
          refine ⟨_, _, _, rfl, rfl, ?_⟩
          unfold chP
          rw [if_pos (by omega), if_pos ⟨by omega, by omega⟩, ← hv1, ← hv2, if_neg (by omega)]
        · refine Rx.walk 4 (pc' := 86) (L' := [some (.ref 91), some (.int (iz e)), some (.ref 42), some (.int (iz 1)), some (.int (iz r_57)), some (.int (iz 1)), some (.int (iz r_57))]) (st' := []) (h' := cxW (u2 (u2 (u2 z 3 2 pi) 3 3 len) 42 1 sz) (uf (uf (uf (uf f 4 w) 92 g) 93 lt_52) 94 g_58) C T rc tl) rfl ?_
          refine Rx.iinc (b := 1) rfl rfl rfl ?_
          refine Rx.walk 0 (pc' := 89) (L' := [some (.ref 91), some (.int (iz e)), some (.ref 42), some (.int (iz 1)), some (.int (iz r_57)), some (.int (iz 2)), some (.int (iz r_57))]) (st' := []) (h' := cxW (u2 (u2 (u2 z 3 2 pi) 3 3 len) 42 1 sz) (uf (uf (uf (uf f 4 w) 92 g) 93 lt_52) 94 g_58) C T rc tl) rfl ?_
          refine Rx.walk 5 (pc' := 17) (L' := [some (.ref 91), some (.int (iz e)), some (.ref 42), some (.int (iz 1)), some (.int (iz r_57)), some (.int (iz 2)), some (.int (iz r_57))]) (st' := [.int (iz pi), .int (iz 2)]) (h' := cxW (u2 (u2 (u2 z 3 2 pi) 3 3 len) 42 1 sz) (uf (uf (uf (uf f 4 w) 92 g) 93 lt_52) 94 g_58) C T rc tl) rfl ?_
          refine Rx.ge2 rfl rfl ⟨by omega, by omega⟩ ⟨by omega, by omega⟩ (fun b66 => ?_) (fun b66 => by omega)
          refine Rx.walk 1 (pc' := 93) (L' := [some (.ref 91), some (.int (iz e)), some (.ref 42), some (.int (iz 1)), some (.int (iz r_57)), some (.int (iz 2)), some (.int (iz r_57))]) (st' := [.int (iz 1)]) (h' := cxW (u2 (u2 (u2 z 3 2 pi) 3 3 len) 42 1 sz) (uf (uf (uf (uf f 4 w) 92 g) 93 lt_52) 94 g_58) C T rc tl) rfl ?_
          refine Rx.ret rfl ?_
          refine ⟨_, _, _, rfl, rfl, ?_⟩
          unfold chP
          rw [if_pos (by omega), if_pos ⟨by omega, by omega⟩, ← hv1, ← hv2, if_pos (by omega)]
set_option maxRecDepth 100000 in
set_option maxHeartbeats 4000000 in
theorem x_tillB_l42 (d : Nat) (z : Nat → Nat → Int) (f : Nat → Int → Int) (C : Nat → CuR) (T : Nat → TsR) (rc : Nat → Nat) (tl : AmH)  (v : Int) (ci : Int) (j : Nat) (st : Int) (Rz : Int × Int × Int) (pi : Int) (len : Int) (w : Int → Int) (sz : Int) (ln : Nat) (cd : Int → Int) (V : (Int → Int) → Int) (hw : wOK w) (hpi : pi = 1 ∨ pi = 2) (hlen : 1 ≤ len ∧ len ≤ 5) (hrc : 98 ≤ rc 42 ∧ am_nth tl (rc 42 - 98) = some (.inl (.int, ln, .inl (av cd)))) (hsz : 0 ≤ sz ∧ sz ≤ 161 ∧ sz = (ln : Int)) (hcb : ∀ j : Int, 0 ≤ j → j < sz → sgB (cd j)) (hV : ruV V (crem cd 0 sz.toNat)) (hj : j < 4) (hcu : cuI (C j)) (hch : 0 ≤ ((C j).2.2.2.2.2.2.2) ∧ ((C j).2.2.2.2.2.2.2) < (C j).2.2.2.1) (hst : st = ((C j).2.2.2.2.2.2.2) * 4) (P : Option Value → AmH → Prop) (hx0 : ∀ (g' : Int → Int) (lt' : Int → Int) (sk' : Int → Int), (Rz.1 = 0) → P (some (.int (iz (-1)))) (cxW (u2 (u2 (u2 z 3 2 pi) 3 3 len) 42 1 sz) (uf (uf (uf (uf f 4 w) 92 g') 93 lt') 94 sk') C T rc tl)) (hx1 : ∀ (i' : Int) (g' : Int → Int) (lt' : Int → Int) (sk' : Int → Int) (x7' : Option Value) (x8' : Option Value), (Rz.1 = 1 ∧ g' 0 = Rz.2.1 ∧ g' 1 = Rz.2.2) → ((0 ≤ g' 0 ∧ g' 0 < 3125) ∧ (0 ≤ g' 1 ∧ g' 1 < 3125)) → Rx (d + 4) m_X1_tillBehind 155 [some (.ref 91), some (.int (iz v)), some (.int (iz ci)), some (.ref 42), some (.ref (cpl j)), some (.int (iz st)), some (.int (iz i')), x7', x8'] [] (cxW (u2 (u2 (u2 z 3 2 pi) 3 3 len) 42 1 sz) (uf (uf (uf (uf f 4 w) 92 g') 93 lt') 94 sk') C T rc tl) P) : ∀ (kF : Nat) (i : Int) (g : Int → Int) (lt : Int → Int) (sk : Int → Int) (w7 : Option Value) (w8 : Option Value), (0 ≤ i ∧ i ≤ (C j).2.2.2.2.2.1 ((C j).2.2.2.2.2.2.2)) → (0 ≤ g 0 ∧ g 0 < 3125) → (0 ≤ g 1 ∧ g 1 < 3125) → (Rz = puB V w pi len (hnd (C j) ((C j).2.2.2.2.2.2.2) i) (g 0) (g 1)) → ((C j).2.2.2.2.2.1 ((C j).2.2.2.2.2.2.2) - i) < (kF : Int) → Rx (d + 4) m_X1_tillBehind 84 [some (.ref 91), some (.int (iz v)), some (.int (iz ci)), some (.ref 42), some (.ref (cpl j)), some (.int (iz st)), some (.int (iz i)), w7, w8] [] (cxW (u2 (u2 (u2 z 3 2 pi) 3 3 len) 42 1 sz) (uf (uf (uf (uf f 4 w) 92 g) 93 lt) 94 sk) C T rc tl) P := by
  obtain ⟨hq1, hq2, hq3⟩ := id hcu
  obtain ⟨hc1, hc2⟩ := id hch
  obtain ⟨hd1, hd2, hd3, hd4, hd5⟩ := hq3 ((C j).2.2.2.2.2.2.2) hc1 hc2
  intro kF
  induction kF with
  | zero =>
    intro i g lt sk w7 w8 hi hg0 hg1 hP hk
    exfalso; omega
  | succ kF ih =>
    intro i g lt sk w7 w8 hi hg0 hg1 hP hk
    refine Rx.walk 2 (pc' := 88) (L' := [some (.ref 91), some (.int (iz v)), some (.int (iz ci)), some (.ref 42), some (.ref (cpl j)), some (.int (iz st)), some (.int (iz i)), w7, w8]) (st' := [.ref (cpl j), .int (iz i)]) (h' := cxW (u2 (u2 (u2 z 3 2 pi) 3 3 len) 42 1 sz) (uf (uf (uf (uf f 4 w) 92 g) 93 lt) 94 sk) C T rc tl) rfl ?_
    refine Rx.gfS rfl rfl (cW_C (by omega)) rfl ?_
    refine Rx.walk 1 (pc' := 93) (L' := [some (.ref 91), some (.int (iz v)), some (.int (iz ci)), some (.ref 42), some (.ref (cpl j)), some (.int (iz st)), some (.int (iz i)), w7, w8]) (st' := [.ref (cpl j), .ref (cpl j + 3), .int (iz i)]) (h' := cxW (u2 (u2 (u2 z 3 2 pi) 3 3 len) 42 1 sz) (uf (uf (uf (uf f 4 w) 92 g) 93 lt) 94 sk) C T rc tl) rfl ?_
    refine Rx.gfS rfl rfl (cW_C (by omega)) rfl ?_
    refine Rx.ial (g := ((C j).2.2.2.2.2.1)) rfl (cW_C3 (by omega)) (by omega) (by omega) (by omega) ?_
    refine Rx.ge2 rfl rfl ⟨by omega, by omega⟩ ⟨by omega, by omega⟩ (fun b1 => ?_) (fun b1 => ?_)
    · exact hx1 _ _ _ _ _ _ (by rw [hnd_e (by omega)] at hP; rw [hP]; exact ⟨rfl, rfl, rfl⟩) ⟨hg0, hg1⟩
    · refine Rx.walk 1 (pc' := 102) (L' := [some (.ref 91), some (.int (iz v)), some (.int (iz ci)), some (.ref 42), some (.ref (cpl j)), some (.int (iz st)), some (.int (iz i)), w7, w8]) (st' := [.ref (cpl j)]) (h' := cxW (u2 (u2 (u2 z 3 2 pi) 3 3 len) 42 1 sz) (uf (uf (uf (uf f 4 w) 92 g) 93 lt) 94 sk) C T rc tl) rfl ?_
      refine Rx.gfS rfl rfl (cW_C (by omega)) rfl ?_
      refine Rx.walk 2 (pc' := 109) (L' := [some (.ref 91), some (.int (iz v)), some (.int (iz ci)), some (.ref 42), some (.ref (cpl j)), some (.int (iz st)), some (.int (iz i)), w7, w8]) (st' := [.int (iz i), .int (iz st), .ref (cpl j + 2)]) (h' := cxW (u2 (u2 (u2 z 3 2 pi) 3 3 len) 42 1 sz) (uf (uf (uf (uf f 4 w) 92 g) 93 lt) 94 sk) C T rc tl) rfl ?_
      refine Rx.iadd rfl ?_
      refine Rx.ial (g := ((C j).2.2.2.2.1)) rfl (cW_C2 (by omega)) (by omega) (by omega) (by omega) ?_
      have hix : (st + i) = ((C j).2.2.2.2.2.2.2) * 4 + i := by omega
      obtain ⟨e, he⟩ : ∃ e, e = (C j).2.2.2.2.1 (((C j).2.2.2.2.2.2.2) * 4 + i) := ⟨_, rfl⟩
      rw [show (((C j).2.2.2.2.1) (st + i)) = e from by rw [hix]; exact he.symm]
      have heb := hd5 i (by omega) (by omega)
      rw [← he] at heb
      rw [hnd_s (by omega), ← he] at hP
      refine Rx.walk 4 (pc' := 117) (L' := [some (.ref 91), some (.int (iz v)), some (.int (iz ci)), some (.ref 42), some (.ref (cpl j)), some (.int (iz st)), some (.int (iz i)), some (.int (iz e)), w8]) (st' := [.ref 42, .int (iz e), .ref 91]) (h' := cxW (u2 (u2 (u2 z 3 2 pi) 3 3 len) 42 1 sz) (uf (uf (uf (uf f 4 w) 92 g) 93 lt) 94 sk) C T rc tl) rfl ?_
      refine Rx.callx (m' := m_X1_chosenPipe) (as := [.ref 91, .int (iz e), .ref 42]) (rest := []) rfl (x_chosenP42 _ z f C T rc tl  e g pi len w lt sk sz ln cd V hw hpi hlen hrc hsz hcb hV heb hg0 hg1) (fun v6 h7 q8 => ?_)
      obtain ⟨r_2, lt_3, sk_4, rfl, rfl, f5⟩ := q8
      refine Rx.walk 0 (pc' := 120) (L' := [some (.ref 91), some (.int (iz v)), some (.int (iz ci)), some (.ref 42), some (.ref (cpl j)), some (.int (iz st)), some (.int (iz i)), some (.int (iz e)), w8]) (st' := [.int (iz r_2)]) (h' := cxW (u2 (u2 (u2 z 3 2 pi) 3 3 len) 42 1 sz) (uf (uf (uf (uf f 4 w) 92 g) 93 lt_3) 94 sk_4) C T rc tl) rfl ?_
      have hcc := chP_c V w pi len e (g 0) (g 1)
      rw [← f5] at hcc
      have hq0 := ht_c (g 0)
      have hq1 := ht_c (g 1)
      refine Rx.walk 3 (pc' := 125) (L' := [some (.ref 91), some (.int (iz v)), some (.int (iz ci)), some (.ref 42), some (.ref (cpl j)), some (.int (iz st)), some (.int (iz i)), some (.int (iz e)), some (.int (iz r_2))]) (st' := [.int (iz (-1)), .int (iz r_2)]) (h' := cxW (u2 (u2 (u2 z 3 2 pi) 3 3 len) 42 1 sz) (uf (uf (uf (uf f 4 w) 92 g) 93 lt_3) 94 sk_4) C T rc tl) rfl ?_
      refine Rx.ne2 rfl rfl ⟨by omega, by omega⟩ ⟨by omega, by omega⟩ (fun b9 => ?_) (fun b9 => ?_)
      · refine Rx.walk 6 (pc' := 142) (L' := [some (.ref 91), some (.int (iz v)), some (.int (iz ci)), some (.ref 42), some (.ref (cpl j)), some (.int (iz st)), some (.int (iz i)), some (.int (iz e)), some (.int (iz r_2))]) (st' := [.int (iz r_2), .ref 92, .int (iz r_2), .ref 92]) (h' := cxW (u2 (u2 (u2 z 3 2 pi) 3 3 len) 42 1 sz) (uf (uf (uf (uf f 4 w) 92 g) 93 lt_3) 94 sk_4) C T rc tl) rfl ?_
        refine Rx.ial (g := g) rfl rfl (by omega) (by omega) (by omega) ?_
        refine Rx.walk 1 (pc' := 144) (L' := [some (.ref 91), some (.int (iz v)), some (.int (iz ci)), some (.ref 42), some (.ref (cpl j)), some (.int (iz st)), some (.int (iz i)), some (.int (iz e)), some (.int (iz r_2))]) (st' := [.int (iz 5), .int (iz (g r_2)), .int (iz r_2), .ref 92]) (h' := cxW (u2 (u2 (u2 z 3 2 pi) 3 3 len) 42 1 sz) (uf (uf (uf (uf f 4 w) 92 g) 93 lt_3) 94 sk_4) C T rc tl) rfl ?_
        refine Rx.imul rfl ?_
        refine Rx.walk 1 (pc' := 147) (L' := [some (.ref 91), some (.int (iz v)), some (.int (iz ci)), some (.ref 42), some (.ref (cpl j)), some (.int (iz st)), some (.int (iz i)), some (.int (iz e)), some (.int (iz r_2))]) (st' := [.int (iz e), .int (iz ((g r_2) * 5)), .int (iz r_2), .ref 92]) (h' := cxW (u2 (u2 (u2 z 3 2 pi) 3 3 len) 42 1 sz) (uf (uf (uf (uf f 4 w) 92 g) 93 lt_3) 94 sk_4) C T rc tl) rfl ?_
        refine Rx.iadd rfl ?_
        refine Rx.ias (g := g) (h' := cxW (u2 (u2 (u2 z 3 2 pi) 3 3 len) 42 1 sz) (uf (uf (uf (uf f 4 w) 92 (iu g r_2 (((g r_2) * 5) + e))) 93 lt_3) 94 sk_4) C T rc tl) rfl rfl (by omega) (by omega) (by omega) rfl ?_
        refine Rx.iinc (b := 1) rfl rfl rfl ?_
        refine Rx.walk 0 (pc' := 152) (L' := [some (.ref 91), some (.int (iz v)), some (.int (iz ci)), some (.ref 42), some (.ref (cpl j)), some (.int (iz st)), some (.int (iz (i + 1))), some (.int (iz e)), some (.int (iz r_2))]) (st' := []) (h' := cxW (u2 (u2 (u2 z 3 2 pi) 3 3 len) 42 1 sz) (uf (uf (uf (uf f 4 w) 92 (iu g r_2 (((g r_2) * 5) + e))) 93 lt_3) 94 sk_4) C T rc tl) rfl ?_
        refine Rx.walk 1 (pc' := 84) (L' := [some (.ref 91), some (.int (iz v)), some (.int (iz ci)), some (.ref 42), some (.ref (cpl j)), some (.int (iz st)), some (.int (iz (i + 1))), some (.int (iz e)), some (.int (iz r_2))]) (st' := []) (h' := cxW (u2 (u2 (u2 z 3 2 pi) 3 3 len) 42 1 sz) (uf (uf (uf (uf f 4 w) 92 (iu g r_2 (((g r_2) * 5) + e))) 93 lt_3) 94 sk_4) C T rc tl) rfl ?_
        exact ih (i + 1) (iu g r_2 (((g r_2) * 5) + e)) lt_3 sk_4 (some (.int (iz e))) (some (.int (iz r_2))) ⟨by omega, by omega⟩ (by rcases hcc with q | q | q; (rw [q.1]; rw [iu_at]; exact ⟨by omega, by omega⟩); (rw [q.1]; rw [iu_ne _ _ (by decide)]; exact hg0); (exfalso; omega)) (by rcases hcc with q | q | q; (rw [q.1]; rw [iu_ne _ _ (by decide)]; exact hg1); (rw [q.1]; rw [iu_at]; exact ⟨by omega, by omega⟩); (exfalso; omega)) (by rcases hcc with q | q | q; (rw [q.1]; rw [iu_at, iu_ne _ _ (by decide), ← puB_0 (show chP V w pi len e (g 0) (g 1) = 0 by rw [← f5]; exact q.1)]; exact hP); (rw [q.1]; rw [iu_at, iu_ne _ _ (by decide), ← puB_1 (show chP V w pi len e (g 0) (g 1) = 1 by rw [← f5]; exact q.1)]; exact hP); (exfalso; omega)) (by omega) 
      · refine Rx.walk 1 (pc' := 129) (L' := [some (.ref 91), some (.int (iz v)), some (.int (iz ci)), some (.ref 42), some (.ref (cpl j)), some (.int (iz st)), some (.int (iz i)), some (.int (iz e)), some (.int (iz r_2))]) (st' := [.int (iz (-1))]) (h' := cxW (u2 (u2 (u2 z 3 2 pi) 3 3 len) 42 1 sz) (uf (uf (uf (uf f 4 w) 92 g) 93 lt_3) 94 sk_4) C T rc tl) rfl ?_
        refine Rx.ret rfl ?_
        exact hx0 _ _ _ (by rw [hP, puB_c (by rw [← f5]; omega)])
set_option maxRecDepth 100000 in
set_option maxHeartbeats 4000000 in
theorem x_tillB42 (d : Nat) (z : Nat → Nat → Int) (f : Nat → Int → Int) (C : Nat → CuR) (T : Nat → TsR) (rc : Nat → Nat) (tl : AmH)  (v : Int) (ci : Int) (g : Int → Int) (t : Int) (pi : Int) (len : Int) (w : Int → Int) (lt : Int → Int) (sk : Int → Int) (sz : Int) (ln : Nat) (cd : Int → Int) (V : (Int → Int) → Int) (hw : wOK w) (hpi : pi = 1 ∨ pi = 2) (hlen : 1 ≤ len ∧ len ≤ 5) (hrc : 98 ≤ rc 42 ∧ am_nth tl (rc 42 - 98) = some (.inl (.int, ln, .inl (av cd)))) (hsz : 0 ≤ sz ∧ sz ≤ 161 ∧ sz = (ln : Int)) (hcb : ∀ j : Int, 0 ≤ j → j < sz → sgB (cd j)) (hV : ruV V (crem cd 0 sz.toNat)) (hci : 0 ≤ ci ∧ ci < 4) (hv : 0 ≤ v ∧ v < 156250000) (hvt : v % 16 = tw (dgt (v % 16)) ∧ 0 ≤ dgt (v % 16) ∧ dgt (v % 16) ≤ 4) (hcu : cuI (C ci.toNat)) (hch : ((C ci.toNat).2.2.2.2.2.2.2) = -1 ∨ (0 ≤ ((C ci.toNat).2.2.2.2.2.2.2) ∧ ((C ci.toNat).2.2.2.2.2.2.2) < (C ci.toNat).2.2.2.1)) : Rx (d + 5) m_X1_tillBehind 0 (am_ent [.ref 91, .int (iz v), .int (iz ci), .ref 42] 9) [] (cxW (u2 (u2 (u2 (u2 z 3 2 pi) 3 3 len) 42 1 sz) 91 3 t) (uf (uf (uf (uf f 4 w) 92 g) 93 lt) 94 sk) C T rc tl) (fun rv h => ∃ r : Int, ∃ g' : Int → Int, ∃ t' : Int, ∃ lt' : Int → Int, ∃ sk' : Int → Int, rv = some (.int (iz r)) ∧ h = cxW (u2 (u2 (u2 (u2 z 3 2 pi) 3 3 len) 42 1 sz) 91 3 t') (uf (uf (uf (uf f 4 w) 92 g') 93 lt') 94 sk') C T rc tl ∧ r = tbN V w pi len (hOf (C ci.toNat)) v) := by
  refine Rx.walk 0 (pc' := 0) (L' := [some (.ref 91), some (.int (iz v)), some (.int (iz ci)), some (.ref 42), none, none, none, none, none]) (st' := []) (h' := cxW (u2 (u2 (u2 (u2 z 3 2 pi) 3 3 len) 42 1 sz) 91 3 t) (uf (uf (uf (uf f 4 w) 92 g) 93 lt) 94 sk) C T rc tl) rfl ?_
  refine Rx.walk 3 (pc' := 5) (L' := [some (.ref 91), some (.int (iz v)), some (.int (iz ci)), some (.ref 42), none, none, none, none, none]) (st' := [.int (iz ci), .ref 14]) (h' := cxW (u2 (u2 (u2 (u2 z 3 2 pi) 3 3 len) 42 1 sz) 91 3 t) (uf (uf (uf (uf f 4 w) 92 g) 93 lt) 94 sk) C T rc tl) rfl ?_
  obtain ⟨j1, hj1⟩ := Int.eq_ofNat_of_zero_le (show 0 ≤ ci by omega)
  refine Rx.aal j1 rfl rfl rfl hj1 (by omega) (by omega) (cus_at (by omega)) ?_
  have hcj : ci.toNat = j1 := by omega
  rw [hcj] at hcu hch
  have hcq := hcu.1
  have hcq2 := hcu.2.1
  refine Rx.walk 2 (pc' := 10) (L' := [some (.ref 91), some (.int (iz v)), some (.int (iz ci)), some (.ref 42), some (.ref (cpl j1)), none, none, none, none]) (st' := [.ref (cpl j1)]) (h' := cxW (u2 (u2 (u2 (u2 z 3 2 pi) 3 3 len) 42 1 sz) 91 3 t) (uf (uf (uf (uf f 4 w) 92 g) 93 lt) 94 sk) C T rc tl) rfl ?_
  refine Rx.gfS rfl rfl (cW_C (by omega)) rfl ?_
  refine Rx.walk 1 (pc' := 14) (L' := [some (.ref 91), some (.int (iz v)), some (.int (iz ci)), some (.ref 42), some (.ref (cpl j1)), none, none, none, none]) (st' := [.int (iz (-1)), .int (iz ((C j1).2.2.2.2.2.2.2))]) (h' := cxW (u2 (u2 (u2 (u2 z 3 2 pi) 3 3 len) 42 1 sz) 91 3 t) (uf (uf (uf (uf f 4 w) 92 g) 93 lt) 94 sk) C T rc tl) rfl ?_
  refine Rx.ne2 rfl rfl ⟨by omega, by omega⟩ ⟨by omega, by omega⟩ (fun b2 => ?_) (fun b2 => ?_)
  · replace hch := hch.elim (fun q => absurd q (by omega)) id
    obtain ⟨hq1, hq2, hq3⟩ := id hcu
    obtain ⟨hc1, hc2⟩ := id hch
    obtain ⟨hd1, hd2, hd3, hd4, hd5⟩ := hq3 ((C j1).2.2.2.2.2.2.2) hc1 hc2
    refine Rx.walk 5 (pc' := 26) (L' := [some (.ref 91), some (.int (iz v)), some (.int (iz ci)), some (.ref 42), some (.ref (cpl j1)), none, none, none, none]) (st' := [.int (iz 0), .int (iz v), .int (iz 0), .ref 92]) (h' := cxW (u2 (u2 (u2 (u2 z 3 2 pi) 3 3 len) 42 1 sz) 91 3 t) (uf (uf (uf (uf f 4 w) 92 g) 93 lt) 94 sk) C T rc tl) rfl ?_
    refine Rx.callx (m' := m_X10_pipeOf) (as := [.int (iz v), .int (iz 0)]) (rest := [.int (iz 0), .ref 92]) rfl (n_pipeOf _ (cxW (u2 (u2 (u2 (u2 z 3 2 pi) 3 3 len) 42 1 sz) 91 3 t) (uf (uf (uf (uf f 4 w) 92 g) 93 lt) 94 sk) C T rc tl)  v 0 (by first | assumption | omega) (by first | assumption | omega) ⟨by omega, by omega⟩) (fun v5 h6 q7 => ?_)
    obtain ⟨r_3, rfl, rfl, f4⟩ := q7
    refine Rx.walk 0 (pc' := 29) (L' := [some (.ref 91), some (.int (iz v)), some (.int (iz ci)), some (.ref 42), some (.ref (cpl j1)), none, none, none, none]) (st' := [.int (iz r_3), .int (iz 0), .ref 92]) (h' := cxW (u2 (u2 (u2 (u2 z 3 2 pi) 3 3 len) 42 1 sz) 91 3 t) (uf (uf (uf (uf f 4 w) 92 g) 93 lt) 94 sk) C T rc tl) rfl ?_
    refine Rx.ias (g := g) (h' := cxW (u2 (u2 (u2 (u2 z 3 2 pi) 3 3 len) 42 1 sz) 91 3 t) (uf (uf (uf (uf f 4 w) 92 (iu g 0 r_3)) 93 lt) 94 sk) C T rc tl) rfl rfl (by omega) (by omega) (by omega) rfl ?_
    refine Rx.walk 5 (pc' := 37) (L' := [some (.ref 91), some (.int (iz v)), some (.int (iz ci)), some (.ref 42), some (.ref (cpl j1)), none, none, none, none]) (st' := [.int (iz 1), .int (iz v), .int (iz 1), .ref 92]) (h' := cxW (u2 (u2 (u2 (u2 z 3 2 pi) 3 3 len) 42 1 sz) 91 3 t) (uf (uf (uf (uf f 4 w) 92 (iu g 0 r_3)) 93 lt) 94 sk) C T rc tl) rfl ?_
    refine Rx.callx (m' := m_X10_pipeOf) (as := [.int (iz v), .int (iz 1)]) (rest := [.int (iz 1), .ref 92]) rfl (n_pipeOf _ (cxW (u2 (u2 (u2 (u2 z 3 2 pi) 3 3 len) 42 1 sz) 91 3 t) (uf (uf (uf (uf f 4 w) 92 (iu g 0 r_3)) 93 lt) 94 sk) C T rc tl)  v 1 (by first | assumption | omega) (by first | assumption | omega) ⟨by omega, by omega⟩) (fun v10 h11 q12 => ?_)
    obtain ⟨r_8, rfl, rfl, f9⟩ := q12
    refine Rx.walk 0 (pc' := 40) (L' := [some (.ref 91), some (.int (iz v)), some (.int (iz ci)), some (.ref 42), some (.ref (cpl j1)), none, none, none, none]) (st' := [.int (iz r_8), .int (iz 1), .ref 92]) (h' := cxW (u2 (u2 (u2 (u2 z 3 2 pi) 3 3 len) 42 1 sz) 91 3 t) (uf (uf (uf (uf f 4 w) 92 (iu g 0 r_3)) 93 lt) 94 sk) C T rc tl) rfl ?_
    refine Rx.ias (g := (iu g 0 r_3)) (h' := cxW (u2 (u2 (u2 (u2 z 3 2 pi) 3 3 len) 42 1 sz) 91 3 t) (uf (uf (uf (uf f 4 w) 92 (iu (iu g 0 r_3) 1 r_8)) 93 lt) 94 sk) C T rc tl) rfl rfl (by omega) (by omega) (by omega) rfl ?_
    refine Rx.walk 2 (pc' := 43) (L' := [some (.ref 91), some (.int (iz v)), some (.int (iz ci)), some (.ref 42), some (.ref (cpl j1)), none, none, none, none]) (st' := [.int (iz v), .ref 91]) (h' := cxW (u2 (u2 (u2 (u2 z 3 2 pi) 3 3 len) 42 1 sz) 91 3 t) (uf (uf (uf (uf f 4 w) 92 (iu (iu g 0 r_3) 1 r_8)) 93 lt) 94 sk) C T rc tl) rfl ?_
    refine Rx.callx (m' := m_X10_trayOf) (as := [.int (iz v)]) (rest := [.ref 91]) rfl (n_trayOf _ (cxW (u2 (u2 (u2 (u2 z 3 2 pi) 3 3 len) 42 1 sz) 91 3 t) (uf (uf (uf (uf f 4 w) 92 (iu (iu g 0 r_3) 1 r_8)) 93 lt) 94 sk) C T rc tl)  v (by first | assumption | omega) (by first | assumption | omega)) (fun v15 h16 q17 => ?_)
    obtain ⟨r_13, rfl, rfl, f14⟩ := q17
    refine Rx.walk 0 (pc' := 46) (L' := [some (.ref 91), some (.int (iz v)), some (.int (iz ci)), some (.ref 42), some (.ref (cpl j1)), none, none, none, none]) (st' := [.int (iz r_13), .ref 91]) (h' := cxW (u2 (u2 (u2 (u2 z 3 2 pi) 3 3 len) 42 1 sz) 91 3 t) (uf (uf (uf (uf f 4 w) 92 (iu (iu g 0 r_3) 1 r_8)) 93 lt) 94 sk) C T rc tl) rfl ?_
    refine Rx.callx (m' := m_X10_digitOnTray) (as := [.int (iz r_13)]) (rest := [.ref 91]) rfl (n_digitOnTray _ (cxW (u2 (u2 (u2 (u2 z 3 2 pi) 3 3 len) 42 1 sz) 91 3 t) (uf (uf (uf (uf f 4 w) 92 (iu (iu g 0 r_3) 1 r_8)) 93 lt) 94 sk) C T rc tl)  r_13 (dgt (v % 16)) hvt.2.1 hvt.2.2 (by rw [f14]; exact hvt.1)) (fun v18 h19 q20 => ?_)
    obtain ⟨rfl, rfl⟩ := q20
    refine Rx.walk 0 (pc' := 49) (L' := [some (.ref 91), some (.int (iz v)), some (.int (iz ci)), some (.ref 42), some (.ref (cpl j1)), none, none, none, none]) (st' := [.int (iz (dgt (v % 16))), .ref 91]) (h' := cxW (u2 (u2 (u2 (u2 z 3 2 pi) 3 3 len) 42 1 sz) 91 3 t) (uf (uf (uf (uf f 4 w) 92 (iu (iu g 0 r_3) 1 r_8)) 93 lt) 94 sk) C T rc tl) rfl ?_
    refine Rx.walk 3 (pc' := 55) (L' := [some (.ref 91), some (.int (iz v)), some (.int (iz ci)), some (.ref 42), some (.ref (cpl j1)), none, none, none, none]) (st' := [.ref (cpl j1), .ref 91]) (h' := cxW (u2 (u2 (u2 (u2 z 3 2 pi) 3 3 len) 42 1 sz) 91 3 (dgt (v % 16))) (uf (uf (uf (uf f 4 w) 92 (iu (iu g 0 r_3) 1 r_8)) 93 lt) 94 sk) C T rc tl) rfl ?_
    refine Rx.gfS rfl rfl (cW_C (by omega)) rfl ?_
    refine Rx.walk 1 (pc' := 60) (L' := [some (.ref 91), some (.int (iz v)), some (.int (iz ci)), some (.ref 42), some (.ref (cpl j1)), none, none, none, none]) (st' := [.ref (cpl j1), .ref (cpl j1 + 4), .ref 91]) (h' := cxW (u2 (u2 (u2 (u2 z 3 2 pi) 3 3 len) 42 1 sz) 91 3 (dgt (v % 16))) (uf (uf (uf (uf f 4 w) 92 (iu (iu g 0 r_3) 1 r_8)) 93 lt) 94 sk) C T rc tl) rfl ?_
    refine Rx.gfS rfl rfl (cW_C (by omega)) rfl ?_
    refine Rx.ial (g := ((C j1).2.2.2.2.2.2.1)) rfl (cW_C4 (by omega)) (by omega) (by omega) (by omega) ?_
    have hz1 : 0 ≤ r_3 ∧ r_3 < 3125 := by have := f4; omega
    have hz2 : 0 ≤ r_8 ∧ r_8 < 3125 := by have := f9; omega
    refine Rx.callx (m' := m_X1_handsBack) (as := [.ref 91, .int (iz (((C j1).2.2.2.2.2.2.1) ((C j1).2.2.2.2.2.2.2)))]) (rest := []) rfl (x_handsB _ (u2 (u2 (u2 z 3 2 pi) 3 3 len) 42 1 sz) (uf (uf f 93 lt) 94 sk) C T rc tl  (((C j1).2.2.2.2.2.2.1) ((C j1).2.2.2.2.2.2.2)) w (iu (iu g 0 r_3) 1 r_8) (dgt (v % 16)) hw ⟨by omega, by omega⟩ (by simp only [iu_at, iu_ne _ _ (show (0 : Int) ≠ 1 by decide)]; exact hz1) (by simp only [iu_at]; exact hz2) ⟨by omega, by omega⟩) (fun v27 h28 q29 => ?_)
    obtain ⟨r_21, g_22, t_23, rfl, rfl, f24, f25, f26⟩ := q29
    refine Rx.walk 0 (pc' := 67) (L' := [some (.ref 91), some (.int (iz v)), some (.int (iz ci)), some (.ref 42), some (.ref (cpl j1)), none, none, none, none]) (st' := [.int (iz r_21)]) (h' := cxW (u2 (u2 (u2 (u2 z 3 2 pi) 3 3 len) 42 1 sz) 91 3 t_23) (uf (uf (uf (uf f 4 w) 92 g_22) 93 lt) 94 sk) C T rc tl) rfl ?_
    have hbx := f24
    simp only [iu_at, iu_ne _ _ (show (0 : Int) ≠ 1 by decide)] at hbx
    rw [show r_3 = v / 16 / 3125 by rcases f4 with q | q; exact q.2; (exfalso; omega), show r_8 = v / 16 % 3125 by rcases f9 with q | q; (exfalso; omega); exact q.2] at hbx
    have hby := f25
    refine Rx.ne1 rfl rfl ⟨by omega, by omega⟩ (fun b30 => ?_) (fun b30 => ?_)
    · refine Rx.walk 1 (pc' := 74) (L' := [some (.ref 91), some (.int (iz v)), some (.int (iz ci)), some (.ref 42), some (.ref (cpl j1)), none, none, none, none]) (st' := [.ref (cpl j1)]) (h' := cxW (u2 (u2 (u2 (u2 z 3 2 pi) 3 3 len) 42 1 sz) 91 3 t_23) (uf (uf (uf (uf f 4 w) 92 g_22) 93 lt) 94 sk) C T rc tl) rfl ?_
      refine Rx.gfS rfl rfl (cW_C (by omega)) rfl ?_
      refine Rx.walk 1 (pc' := 78) (L' := [some (.ref 91), some (.int (iz v)), some (.int (iz ci)), some (.ref 42), some (.ref (cpl j1)), none, none, none, none]) (st' := [.int (iz 4), .int (iz ((C j1).2.2.2.2.2.2.2))]) (h' := cxW (u2 (u2 (u2 (u2 z 3 2 pi) 3 3 len) 42 1 sz) 91 3 t_23) (uf (uf (uf (uf f 4 w) 92 g_22) 93 lt) 94 sk) C T rc tl) rfl ?_
      refine Rx.imul rfl ?_
      refine Rx.walk 3 (pc' := 84) (L' := [some (.ref 91), some (.int (iz v)), some (.int (iz ci)), some (.ref 42), some (.ref (cpl j1)), some (.int (iz (((C j1).2.2.2.2.2.2.2) * 4))), some (.int (iz 0)), none, none]) (st' := []) (h' := cxW (u2 (u2 (u2 (u2 z 3 2 pi) 3 3 len) 42 1 sz) 91 3 t_23) (uf (uf (uf (uf f 4 w) 92 g_22) 93 lt) 94 sk) C T rc tl) rfl ?_
      refine x_tillB_l42 _ (u2 z 91 3 t_23) f C T rc tl  v ci j1 (((C j1).2.2.2.2.2.2.2) * 4) (puB V w pi len (hnd (C j1) ((C j1).2.2.2.2.2.2.2) 0) (hbk w 11 (v / 16 / 3125) (v / 16 % 3125) (dgt (v % 16)) ((C j1).2.2.2.2.2.2.1 ((C j1).2.2.2.2.2.2.2))).2.1 (hbk w 11 (v / 16 / 3125) (v / 16 % 3125) (dgt (v % 16)) ((C j1).2.2.2.2.2.2.1 ((C j1).2.2.2.2.2.2.2))).2.2.1) pi len w sz ln cd V hw hpi hlen hrc hsz hcb hV (by omega) hcu hch rfl _ ?_ ?_ (((C j1).2.2.2.2.2.1 ((C j1).2.2.2.2.2.2.2) - 0) + 1 : Int).toNat 0 g_22 lt sk none none ⟨by omega, by omega⟩ (by have z := hby; exact z.1) (by have z := hby; exact z.2.1) (by rw [hbx.2.1, hbx.2.2.1]) (by omega) 
      · intro g_31 lt_32 sk_33 f34
        show (fun (rv : Option Value) (h : AmH) => ∃ r : Int, ∃ g' : Int → Int, ∃ t' : Int, ∃ lt' : Int → Int, ∃ sk' : Int → Int, rv = some (.int (iz r)) ∧ h = cxW (u2 (u2 (u2 (u2 z 3 2 pi) 3 3 len) 42 1 sz) 91 3 t') (uf (uf (uf (uf f 4 w) 92 g') 93 lt') 94 sk') C T rc tl ∧ r = tbN V w pi len (hOf (C ci.toNat)) v) (some (Value.int (iz (-1)))) (cxW (u2 (u2 (u2 (u2 z 3 2 pi) 3 3 len) 42 1 sz) 91 3 t_23) (uf (uf (uf (uf f 4 w) 92 g_31) 93 lt_32) 94 sk_33) C T rc tl)
        refine ⟨_, _, _, _, _, rfl, rfl, ?_⟩
        rw [hcj]
        unfold tbN
        rw [hOf_s (show ((C j1).2.2.2.2.2.2.2) ≠ -1 by omega)]
        rw [tbV_p (show (hbk w 11 (v / 16 / 3125) (v / 16 % 3125) (dgt (v % 16)) ((C j1).2.2.2.2.2.2.1 ((C j1).2.2.2.2.2.2.2))).1 ≠ 0 by rw [← (hbx).1]; omega) (show (puB V w pi len (hnd (C j1) ((C j1).2.2.2.2.2.2.2) 0) (hbk w 11 (v / 16 / 3125) (v / 16 % 3125) (dgt (v % 16)) ((C j1).2.2.2.2.2.2.1 ((C j1).2.2.2.2.2.2.2))).2.1 (hbk w 11 (v / 16 / 3125) (v / 16 % 3125) (dgt (v % 16)) ((C j1).2.2.2.2.2.2.1 ((C j1).2.2.2.2.2.2.2))).2.2.1).1 = 0 from f34)]
      · intro i_35 g_36 lt_37 sk_38 x7_39 x8_40 f41 f42
        refine Rx.walk 0 (pc' := 155) (L' := [some (.ref 91), some (.int (iz v)), some (.int (iz ci)), some (.ref 42), some (.ref (cpl j1)), some (.int (iz (((C j1).2.2.2.2.2.2.2) * 4))), some (.int (iz i_35)), x7_39, x8_40]) (st' := []) (h' := cxW (u2 (u2 (u2 (u2 z 3 2 pi) 3 3 len) 42 1 sz) 91 3 t_23) (uf (uf (uf (uf f 4 w) 92 g_36) 93 lt_37) 94 sk_38) C T rc tl) rfl ?_
        have hlx := f42
        refine Rx.walk 3 (pc' := 160) (L' := [some (.ref 91), some (.int (iz v)), some (.int (iz ci)), some (.ref 42), some (.ref (cpl j1)), some (.int (iz (((C j1).2.2.2.2.2.2.2) * 4))), some (.int (iz i_35)), x7_39, x8_40]) (st' := [.int (iz 0), .ref 92]) (h' := cxW (u2 (u2 (u2 (u2 z 3 2 pi) 3 3 len) 42 1 sz) 91 3 t_23) (uf (uf (uf (uf f 4 w) 92 g_36) 93 lt_37) 94 sk_38) C T rc tl) rfl ?_
        refine Rx.ial (g := g_36) rfl rfl (by omega) (by omega) (by omega) ?_
        refine Rx.walk 3 (pc' := 166) (L' := [some (.ref 91), some (.int (iz v)), some (.int (iz ci)), some (.ref 42), some (.ref (cpl j1)), some (.int (iz (((C j1).2.2.2.2.2.2.2) * 4))), some (.int (iz i_35)), x7_39, x8_40]) (st' := [.int (iz 1), .ref 92, .int (iz (g_36 0))]) (h' := cxW (u2 (u2 (u2 (u2 z 3 2 pi) 3 3 len) 42 1 sz) 91 3 t_23) (uf (uf (uf (uf f 4 w) 92 g_36) 93 lt_37) 94 sk_38) C T rc tl) rfl ?_
        refine Rx.ial (g := g_36) rfl rfl (by omega) (by omega) (by omega) ?_
        refine Rx.walk 2 (pc' := 171) (L' := [some (.ref 91), some (.int (iz v)), some (.int (iz ci)), some (.ref 42), some (.ref (cpl j1)), some (.int (iz (((C j1).2.2.2.2.2.2.2) * 4))), some (.int (iz i_35)), x7_39, x8_40]) (st' := [.int (iz t_23), .int (iz (g_36 1)), .int (iz (g_36 0))]) (h' := cxW (u2 (u2 (u2 (u2 z 3 2 pi) 3 3 len) 42 1 sz) 91 3 t_23) (uf (uf (uf (uf f 4 w) 92 g_36) 93 lt_37) 94 sk_38) C T rc tl) rfl ?_
        refine Rx.callx (m' := m_X10_trayWith) (as := [.int (iz t_23)]) (rest := [.int (iz (g_36 1)), .int (iz (g_36 0))]) rfl (n_trayWith _ (cxW (u2 (u2 (u2 (u2 z 3 2 pi) 3 3 len) 42 1 sz) 91 3 t_23) (uf (uf (uf (uf f 4 w) 92 g_36) 93 lt_37) 94 sk_38) C T rc tl)  t_23 (by first | assumption | omega) (by first | assumption | omega)) (fun v43 h44 q45 => ?_)
        obtain ⟨rfl, rfl⟩ := q45
        refine Rx.walk 0 (pc' := 174) (L' := [some (.ref 91), some (.int (iz v)), some (.int (iz ci)), some (.ref 42), some (.ref (cpl j1)), some (.int (iz (((C j1).2.2.2.2.2.2.2) * 4))), some (.int (iz i_35)), x7_39, x8_40]) (st' := [.int (iz (tw t_23)), .int (iz (g_36 1)), .int (iz (g_36 0))]) (h' := cxW (u2 (u2 (u2 (u2 z 3 2 pi) 3 3 len) 42 1 sz) 91 3 t_23) (uf (uf (uf (uf f 4 w) 92 g_36) 93 lt_37) 94 sk_38) C T rc tl) rfl ?_
        refine Rx.callx (m' := m_X10_number) (as := [.int (iz (g_36 0)), .int (iz (g_36 1)), .int (iz (tw t_23))]) (rest := []) rfl (n_number _ (cxW (u2 (u2 (u2 (u2 z 3 2 pi) 3 3 len) 42 1 sz) 91 3 t_23) (uf (uf (uf (uf f 4 w) 92 g_36) 93 lt_37) 94 sk_38) C T rc tl)  (g_36 0) (g_36 1) (tw t_23) ) (fun v46 h47 q48 => ?_)
        obtain ⟨rfl, rfl⟩ := q48
        refine Rx.walk 0 (pc' := 177) (L' := [some (.ref 91), some (.int (iz v)), some (.int (iz ci)), some (.ref 42), some (.ref (cpl j1)), some (.int (iz (((C j1).2.2.2.2.2.2.2) * 4))), some (.int (iz i_35)), x7_39, x8_40]) (st' := [.int (iz (((((g_36 0) * 3125) + (g_36 1)) * 16) + (tw t_23)))]) (h' := cxW (u2 (u2 (u2 (u2 z 3 2 pi) 3 3 len) 42 1 sz) 91 3 t_23) (uf (uf (uf (uf f 4 w) 92 g_36) 93 lt_37) 94 sk_38) C T rc tl) rfl ?_
        refine Rx.ret rfl ?_
        refine ⟨_, _, _, _, _, rfl, rfl, ?_⟩
        rw [hcj]
        unfold tbN
        rw [hOf_s (show ((C j1).2.2.2.2.2.2.2) ≠ -1 by omega)]
        rw [tbV_s (show (hbk w 11 (v / 16 / 3125) (v / 16 % 3125) (dgt (v % 16)) ((C j1).2.2.2.2.2.2.1 ((C j1).2.2.2.2.2.2.2))).1 ≠ 0 by rw [← (hbx).1]; omega) (show (puB V w pi len (hnd (C j1) ((C j1).2.2.2.2.2.2.2) 0) (hbk w 11 (v / 16 / 3125) (v / 16 % 3125) (dgt (v % 16)) ((C j1).2.2.2.2.2.2.1 ((C j1).2.2.2.2.2.2.2))).2.1 (hbk w 11 (v / 16 / 3125) (v / 16 % 3125) (dgt (v % 16)) ((C j1).2.2.2.2.2.2.1 ((C j1).2.2.2.2.2.2.2))).2.2.1).1 ≠ 0 by rw [(f41).1]; decide), ← (f41).2.1, ← (f41).2.2, ← hbx.2.2.2]
        rfl
    · refine Rx.walk 1 (pc' := 71) (L' := [some (.ref 91), some (.int (iz v)), some (.int (iz ci)), some (.ref 42), some (.ref (cpl j1)), none, none, none, none]) (st' := [.int (iz (-1))]) (h' := cxW (u2 (u2 (u2 (u2 z 3 2 pi) 3 3 len) 42 1 sz) 91 3 t_23) (uf (uf (uf (uf f 4 w) 92 g_22) 93 lt) 94 sk) C T rc tl) rfl ?_
      refine Rx.ret rfl ?_
      refine ⟨_, _, _, _, _, rfl, rfl, ?_⟩
      rw [hcj]
      unfold tbN
      rw [hOf_s (show ((C j1).2.2.2.2.2.2.2) ≠ -1 by omega)]
      rw [tbV_b (show (hbk w 11 (v / 16 / 3125) (v / 16 % 3125) (dgt (v % 16)) ((C j1).2.2.2.2.2.2.1 ((C j1).2.2.2.2.2.2.2))).1 = 0 by rw [← (hbx).1]; omega)]
  · refine Rx.walk 1 (pc' := 18) (L' := [some (.ref 91), some (.int (iz v)), some (.int (iz ci)), some (.ref 42), some (.ref (cpl j1)), none, none, none, none]) (st' := [.int (iz (-1))]) (h' := cxW (u2 (u2 (u2 (u2 z 3 2 pi) 3 3 len) 42 1 sz) 91 3 t) (uf (uf (uf (uf f 4 w) 92 g) 93 lt) 94 sk) C T rc tl) rfl ?_
    refine Rx.ret rfl ?_
    refine ⟨_, _, _, _, _, rfl, rfl, ?_⟩
    rw [hcj]
    unfold tbN
    rw [hOf_n (show ((C j1).2.2.2.2.2.2.2) = -1 by omega)]
    rfl

/-! a shop's text, read by class and model (printed by wip/whole/genshop2.py) -/
set_option maxRecDepth 100000 in
set_option maxHeartbeats 4000000 in
theorem x_readsValues (d : Nat) (z : Nat → Nat → Int) (f : Nat → Int → Int) (rc : Nat → Nat) (tl : AmH) (n a K : Int) (g : Int → Int) (hT : tOK n (f 2)) (hg : shI g) (hK0 : 0 ≤ K) (hK1 : K ≤ 4) (h0 : 0 ≤ a) (h1 : a ≤ n) : Rx (d + 3) m_X7_readsValues 0 (am_ent [.ref 5, .ref 1] 4) [] (cxH (u2 (u2 (u2 z 1 1 n) 1 2 a) 5 1 K) (uf f 6 g) rc tl) (fun rv h => ∃ g' K', shI g' ∧ 0 ≤ K' ∧ K' ≤ 4 ∧ h = cxH (u2 (u2 (u2 z 1 1 n) 1 2 ((vlP n (f 2) 4 (g 0) a).1)) 5 1 K') (uf f 6 g') rc tl ∧ ((∃ l : List Int, (vlP n (f 2) 4 (g 0) a).2 = some l ∧ rv = some (.int (iz 1)) ∧ K' = 0 + l.length ∧ 0 < l.length ∧ lst g' (0 + 1) l ∧ ∀ i, i ≤ 0 → g' i = g i) ∨ ((vlP n (f 2) 4 (g 0) a).2 = none ∧ rv = some (.int (iz 0))))) := by
  refine Rx.walk 0 (pc' := 0) (L' := [some (.ref 5), some (.ref 1), none, none]) (st' := []) (h' := cxH (u2 (u2 (u2 z 1 1 n) 1 2 a) 5 1 K) (uf f 6 g) rc tl) rfl ?_
  refine Rx.walk 2 (pc' := 2) (L' := [some (.ref 5), some (.ref 1), some (.int (iz 0)), none]) (st' := []) (h' := cxH (u2 (u2 (u2 z 1 1 n) 1 2 a) 5 1 K) (uf f 6 g) rc tl) rfl ?_
  exact x_readsValues_l d z f rc tl n hT 4 (by omega) (by omega) 0 g K a none (by omega) hg hK0 hK1 h0 h1
set_option maxRecDepth 100000 in
set_option maxHeartbeats 4000000 in
theorem x_readsParts (d : Nat) (z : Nat → Nat → Int) (f : Nat → Int → Int) (rc : Nat → Nat) (tl : AmH) (n a : Int) (s : Int × Int × Int) (hT : tOK n (f 2)) (h0 : 0 ≤ a) (h1 : a ≤ n) : Rx (d + 4) m_X7_readsParts 0 (am_ent [.ref 5, .ref 1] 5) [] (cxH (u2 (u2 (u2 (u2 (u2 z 1 1 n) 1 2 a) 5 2 s.1) 5 3 s.2.1) 5 4 s.2.2) f rc tl) (fun rv h => (∃ (s' : Int × Int × Int) (q : Int), (ptP n (f 2) 3 0 s a).2 = some s' ∧ rv = some (.int (iz 1)) ∧ 0 ≤ q ∧ q ≤ n ∧ sks n (f 2) q = (ptP n (f 2) 3 0 s a).1 ∧ h = cxH (u2 (u2 (u2 (u2 (u2 z 1 1 n) 1 2 q) 5 2 s'.1) 5 3 s'.2.1) 5 4 s'.2.2) f rc tl) ∨ (∃ (s' : Int × Int × Int), (ptP n (f 2) 3 0 s a).2 = none ∧ rv = some (.int (iz 0)) ∧ h = cxH (u2 (u2 (u2 (u2 (u2 z 1 1 n) 1 2 ((ptP n (f 2) 3 0 s a).1)) 5 2 s'.1) 5 3 s'.2.1) 5 4 s'.2.2) f rc tl)) := by
  refine Rx.walk 0 (pc' := 0) (L' := [some (.ref 5), some (.ref 1), none, none, none]) (st' := []) (h' := cxH (u2 (u2 (u2 (u2 (u2 z 1 1 n) 1 2 a) 5 2 s.1) 5 3 s.2.1) 5 4 s.2.2) f rc tl) rfl ?_
  refine Rx.walk 4 (pc' := 4) (L' := [some (.ref 5), some (.ref 1), some (.int (iz 0)), some (.int (iz 0)), none]) (st' := []) (h' := cxH (u2 (u2 (u2 (u2 (u2 z 1 1 n) 1 2 a) 5 2 s.1) 5 3 s.2.1) 5 4 s.2.2) f rc tl) rfl ?_
  exact x_readsParts_l d z f rc tl n hT 3 0 s a 0 none (by omega) (by omega) (by omega) (by omega) h0 h1
set_option maxRecDepth 100000 in
set_option maxHeartbeats 4000000 in
theorem x_reads (d : Nat) (z : Nat → Nat → Int) (f : Nat → Int → Int) (rc : Nat → Nat) (tl : AmH) (n K : Int) (g : Int → Int) (hT : tOK n (f 2)) (hg : shI g) (hK0 : 0 ≤ K) (hK1 : K ≤ 4) : Rx (d + 5) m_X7_reads 0 (am_ent [.ref 5, .ref 1] 2) [] (cxH (u2 (u2 (u2 z 1 1 n) 1 2 0) 5 1 K) (uf f 6 g) rc tl) (fun rv h => ∃ g' K' q s', shI g' ∧ 0 ≤ K' ∧ K' ≤ 4 ∧ 0 ≤ q ∧ q ≤ n ∧ h = cxH (u2 (u2 (u2 (u2 (u2 (u2 z 1 1 n) 1 2 q) 5 1 K') 5 2 ((s' : Int × Int × Int).1)) 5 3 ((s' : Int × Int × Int).2.1)) 5 4 ((s' : Int × Int × Int).2.2)) (uf f 6 g') rc tl ∧ ((∃ l : List Int, rv = some (.int (iz 1)) ∧ sg n (f 2) (sks n (f 2) 0) = 99 ∧ (vlP n (f 2) 4 0 (sks n (f 2) 0 + 1)).2 = some l ∧ (ptP n (f 2) 3 0 (1, 5, 1) (vlP n (f 2) 4 0 (sks n (f 2) 0 + 1)).1).2 = some s' ∧ sks n (f 2) q = (ptP n (f 2) 3 0 (1, 5, 1) (vlP n (f 2) 4 0 (sks n (f 2) 0 + 1)).1).1 ∧ K' = l.length ∧ 0 < l.length ∧ lst g' 1 l) ∨ (rv = some (.int (iz 0)) ∧ shP n (f 2) = (q, none)))) := by
  have hn := hT.2.1
  have hn0 := hT.1
  refine Rx.walk 0 (pc' := 0) (L' := [some (.ref 5), some (.ref 1)]) (st' := []) (h' := cxH (u2 (u2 (u2 z 1 1 n) 1 2 0) 5 1 K) (uf f 6 g) rc tl) rfl ?_
  refine Rx.walk 11 (pc' := 18) (L' := [some (.ref 5), some (.ref 1)]) (st' := [.int (iz 99), .ref 1]) (h' := cxH (u2 (u2 (u2 (u2 (u2 (u2 z 1 1 n) 1 2 0) 5 1 K) 5 2 1) 5 3 5) 5 4 1) (uf f 6 g) rc tl) rfl ?_
  have k2a := sks_le n (f 2) 0
  have k2b := sks_n (n := n) (f 2) (a := 0) (by omega)
  have k2c := sg_bI hT (a := sks n (f 2) 0) (by omega)
  refine Rx.callx (m' := m_X8_accepts) (as := [.ref 1, .int (iz 99)]) (rest := []) rfl (x_accepts _ (u2 (u2 (u2 (u2 (u2 (u2 z 1 1 n) 1 2 0) 5 1 K) 5 2 1) 5 3 5) 5 4 1) (uf f 6 g) rc tl n 0 99 ⟨by omega, by omega⟩ hT (by omega) (by omega)) (fun v3 h4 q5 => ?_)
  rcases q5 with ⟨uu1, rfl, rfl⟩ | ⟨uu1, rfl, rfl⟩
  · change sg n (f 2) (sks n (f 2) 0) = 99 at uu1
    have uu1l : (sks n (f 2) 0) < n := by rcases Int.lt_or_le (sks n (f 2) 0) n with x | x; exact x; rw [sg_ge x] at uu1; omega
    refine Rx.walk 0 (pc' := 21) (L' := [some (.ref 5), some (.ref 1)]) (st' := [.int (iz 1)]) (h' := cxH (u2 (u2 (u2 (u2 (u2 (u2 z 1 1 n) 1 2 ((sks n (f 2) 0) + 1)) 5 1 K) 5 2 1) 5 3 5) 5 4 1) (uf f 6 g) rc tl) rfl ?_
    refine Rx.eq1 rfl rfl ⟨by omega, by omega⟩ (fun b6 => by omega) (fun b6 => ?_)
    have hvp := vlP_props (n := n) (b := f 2) 4 0 (sks n (f 2) 0 + 1) (by omega) (by omega) (by omega)
    have hpp := ptP_props (n := n) (b := f 2) 3 0 (1, 5, 1) (vlP n (f 2) 4 0 (sks n (f 2) 0 + 1)).1 (by omega) hvp.1 hvp.2
    refine Rx.walk 2 (pc' := 26) (L' := [some (.ref 5), some (.ref 1)]) (st' := [.ref 1, .ref 5]) (h' := cxH (u2 (u2 (u2 (u2 (u2 (u2 z 1 1 n) 1 2 ((sks n (f 2) 0) + 1)) 5 1 K) 5 2 1) 5 3 5) 5 4 1) (uf f 6 g) rc tl) rfl ?_
    refine Rx.callx (m' := m_X7_readsValues) (as := [.ref 5, .ref 1]) (rest := []) rfl (x_readsValues _ (u2 (u2 (u2 (u2 (u2 (u2 z 1 1 n) 1 2 ((sks n (f 2) 0) + 1)) 5 1 K) 5 2 1) 5 3 5) 5 4 1) (uf f 6 g) rc tl n ((sks n (f 2) 0) + 1) K g hT hg (by omega) (by omega) (by omega) (by omega)) (fun v7 h8 q9 => ?_)
    rcases q9 with ⟨g', K', hg', hK0', hK1', rfl, ⟨l, hl, rfl, hK', hl0, hl2, -⟩ | ⟨hl, rfl⟩⟩
    · change (vlP n (f 2) 4 (g 0) ((sks n (f 2) 0) + 1)).2 = some l at hl
      rw [hg.1] at hl
      rw [show uf f 6 g 2 = f 2 from rfl, hg.1]
      have hvp := vlP_props (n := n) (b := f 2) 4 0 ((sks n (f 2) 0) + 1) (by omega) (by omega) (by omega)
      refine Rx.walk 0 (pc' := 29) (L' := [some (.ref 5), some (.ref 1)]) (st' := [.int (iz 1)]) (h' := cxH (u2 (u2 (u2 (u2 (u2 (u2 z 1 1 n) 1 2 ((vlP n (f 2) 4 0 ((sks n (f 2) 0) + 1)).1)) 5 1 K') 5 2 1) 5 3 5) 5 4 1) (uf f 6 g') rc tl) rfl ?_
      refine Rx.eq1 rfl rfl ⟨by omega, by omega⟩ (fun b10 => by omega) (fun b10 => ?_)
      refine Rx.walk 2 (pc' := 34) (L' := [some (.ref 5), some (.ref 1)]) (st' := [.ref 1, .ref 5]) (h' := cxH (u2 (u2 (u2 (u2 (u2 (u2 z 1 1 n) 1 2 ((vlP n (f 2) 4 0 ((sks n (f 2) 0) + 1)).1)) 5 1 K') 5 2 1) 5 3 5) 5 4 1) (uf f 6 g') rc tl) rfl ?_
      refine Rx.callx (m' := m_X7_readsParts) (as := [.ref 5, .ref 1]) (rest := []) rfl (x_readsParts _ (u2 (u2 (u2 (u2 (u2 (u2 z 1 1 n) 1 2 ((vlP n (f 2) 4 0 ((sks n (f 2) 0) + 1)).1)) 5 1 K') 5 2 1) 5 3 5) 5 4 1) (uf f 6 g') rc tl n ((vlP n (f 2) 4 0 ((sks n (f 2) 0) + 1)).1) (1, 5, 1) hT (by omega) (by omega)) (fun v11 h12 q13 => ?_)
      rcases q13 with ⟨s', q, hs, rfl, hq0, hq1, hq2, rfl⟩ | ⟨s', hs, rfl, rfl⟩
      · change (ptP n (f 2) 3 0 (1, 5, 1) (vlP n (f 2) 4 0 (sks n (f 2) 0 + 1)).1).2 = some s' at hs
        change sks n (f 2) q = (ptP n (f 2) 3 0 (1, 5, 1) (vlP n (f 2) 4 0 (sks n (f 2) 0 + 1)).1).1 at hq2
        refine Rx.walk 0 (pc' := 37) (L' := [some (.ref 5), some (.ref 1)]) (st' := [.int (iz 1)]) (h' := cxH (u2 (u2 (u2 (u2 (u2 (u2 z 1 1 n) 1 2 q) 5 1 K') 5 2 s'.1) 5 3 s'.2.1) 5 4 s'.2.2) (uf f 6 g') rc tl) rfl ?_
        refine Rx.eq1 rfl rfl ⟨by omega, by omega⟩ (fun b14 => by omega) (fun b14 => ?_)
        refine Rx.walk 2 (pc' := 45) (L' := [some (.ref 5), some (.ref 1)]) (st' := [.int (iz 1)]) (h' := cxH (u2 (u2 (u2 (u2 (u2 (u2 z 1 1 n) 1 2 q) 5 1 K') 5 2 s'.1) 5 3 s'.2.1) 5 4 s'.2.2) (uf f 6 g') rc tl) rfl ?_
        refine Rx.ret rfl ?_
        exact ⟨g', K', q, s', hg', by omega, by omega, by omega, by omega, rfl, Or.inl ⟨l, rfl, uu1, hl, hs, hq2, by omega, hl0, hl2⟩⟩
      · change (ptP n (f 2) 3 0 (1, 5, 1) (vlP n (f 2) 4 0 (sks n (f 2) 0 + 1)).1).2 = none at hs
        refine Rx.walk 0 (pc' := 37) (L' := [some (.ref 5), some (.ref 1)]) (st' := [.int (iz 0)]) (h' := cxH (u2 (u2 (u2 (u2 (u2 (u2 z 1 1 n) 1 2 ((ptP n (f 2) 3 0 (1, 5, 1) (vlP n (f 2) 4 0 (sks n (f 2) 0 + 1)).1).1)) 5 1 K') 5 2 s'.1) 5 3 s'.2.1) 5 4 s'.2.2) (uf f 6 g') rc tl) rfl ?_
        refine Rx.eq1 rfl rfl ⟨by omega, by omega⟩ (fun b15 => ?_) (fun b15 => by omega)
        refine Rx.walk 1 (pc' := 45) (L' := [some (.ref 5), some (.ref 1)]) (st' := [.int (iz 0)]) (h' := cxH (u2 (u2 (u2 (u2 (u2 (u2 z 1 1 n) 1 2 ((ptP n (f 2) 3 0 (1, 5, 1) (vlP n (f 2) 4 0 (sks n (f 2) 0 + 1)).1).1)) 5 1 K') 5 2 s'.1) 5 3 s'.2.1) 5 4 s'.2.2) (uf f 6 g') rc tl) rfl ?_
        refine Rx.ret rfl ?_
        exact ⟨g', K', _, s', hg', by omega, by omega, hpp.1, hpp.2, rfl, Or.inr ⟨rfl, shP_3 uu1 hl hs⟩⟩
    · change (vlP n (f 2) 4 (g 0) ((sks n (f 2) 0) + 1)).2 = none at hl
      rw [hg.1] at hl
      rw [show uf f 6 g 2 = f 2 from rfl, hg.1]
      refine Rx.walk 0 (pc' := 29) (L' := [some (.ref 5), some (.ref 1)]) (st' := [.int (iz 0)]) (h' := cxH (u2 (u2 (u2 (u2 (u2 (u2 z 1 1 n) 1 2 ((vlP n (f 2) 4 0 ((sks n (f 2) 0) + 1)).1)) 5 1 K') 5 2 1) 5 3 5) 5 4 1) (uf f 6 g') rc tl) rfl ?_
      refine Rx.eq1 rfl rfl ⟨by omega, by omega⟩ (fun b16 => ?_) (fun b16 => by omega)
      refine Rx.walk 1 (pc' := 45) (L' := [some (.ref 5), some (.ref 1)]) (st' := [.int (iz 0)]) (h' := cxH (u2 (u2 (u2 (u2 (u2 (u2 z 1 1 n) 1 2 ((vlP n (f 2) 4 0 ((sks n (f 2) 0) + 1)).1)) 5 1 K') 5 2 1) 5 3 5) 5 4 1) (uf f 6 g') rc tl) rfl ?_
      refine Rx.ret rfl ?_
      exact ⟨g', K', _, (1, 5, 1), hg', by omega, by omega, hvp.1, hvp.2, rfl, Or.inr ⟨rfl, shP_2 uu1 hl⟩⟩
  · change sg n (f 2) (sks n (f 2) 0) ≠ 99 at uu1
    refine Rx.walk 0 (pc' := 21) (L' := [some (.ref 5), some (.ref 1)]) (st' := [.int (iz 0)]) (h' := cxH (u2 (u2 (u2 (u2 (u2 (u2 z 1 1 n) 1 2 (sks n (f 2) 0)) 5 1 K) 5 2 1) 5 3 5) 5 4 1) (uf f 6 g) rc tl) rfl ?_
    refine Rx.eq1 rfl rfl ⟨by omega, by omega⟩ (fun b17 => ?_) (fun b17 => by omega)
    refine Rx.walk 1 (pc' := 45) (L' := [some (.ref 5), some (.ref 1)]) (st' := [.int (iz 0)]) (h' := cxH (u2 (u2 (u2 (u2 (u2 (u2 z 1 1 n) 1 2 (sks n (f 2) 0)) 5 1 K) 5 2 1) 5 3 5) 5 4 1) (uf f 6 g) rc tl) rfl ?_
    refine Rx.ret rfl ?_
    exact ⟨g, K, _, (1, 5, 1), hg, by omega, by omega, by omega, by omega, rfl, Or.inr ⟨rfl, shP_1 uu1⟩⟩

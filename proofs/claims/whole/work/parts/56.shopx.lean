/-! the class reads a shop's text (printed by wip/whole/genshop.py) -/
theorem x_bounded2 (d : Nat) (z : Nat → Nat → Int) (f : Nat → Int → Int) (rc : Nat → Nat) (tl : AmH) (n a lo hi : Int) (hlo : bI lo) (hhi : bI hi) (hT : tOK n (f 2)) (h0 : 0 ≤ a) (h1 : a ≤ n) : Rx (d + 2) m_X8_bounded 0 (am_ent [.ref 1, .int (iz lo), .int (iz hi)] 4) [] (cxH (u2 (u2 z 1 1 n) 1 2 a) f rc tl) (fun rv h => (∃ v, (nmP n (f 2) lo hi a).2 = some v ∧ rv = some (.int (iz v)) ∧ h = cxH (u2 (u2 z 1 1 n) 1 2 ((nmP n (f 2) lo hi a).1)) f rc tl) ∨ ((nmP n (f 2) lo hi a).2 = none ∧ rv = some (.int (iz (-1))) ∧ h = cxH (u2 (u2 z 1 1 n) 1 2 ((nmP n (f 2) lo hi a).1)) f rc tl)) := by
  refine (x_bounded d z f rc tl n a lo hi hlo hhi hT h0 h1).mono (fun rv h q => ?_)
  obtain ⟨q1, q2⟩ := q
  cases e : (nmP n (f 2) lo hi a).2 with
  | none => rw [e] at q1; exact Or.inr ⟨rfl, q1, q2⟩
  | some v => rw [e] at q1; exact Or.inl ⟨v, rfl, q1, q2⟩
theorem shI_iu {g : Int → Int} {j y : Int} (hg : shI g) (h1 : 1 ≤ j) (h2 : j ≤ 4) (h3 : 0 ≤ y) (h4 : y ≤ 99) : shI (iu g j y) := by
  refine ⟨by rw [iu_ne _ _ (by omega)]; exact hg.1, fun i q1 q2 => ?_⟩
  by_cases e : i = j
  · rw [e, iu_at]; omega
  · rw [iu_ne _ _ e]; exact hg.2 i q1 q2
set_option maxRecDepth 100000 in
set_option maxHeartbeats 4000000 in
theorem x_readsValues_l (d : Nat) (z : Nat → Nat → Int) (f : Nat → Int → Int) (rc : Nat → Nat) (tl : AmH) (n : Int) (hT : tOK n (f 2)) : ∀ (k : Nat), 1 ≤ k → k ≤ 4 → ∀ (ki : Int) (g : Int → Int) (K a : Int) (w3 : Option Value), ki + k = 4 → shI g → 0 ≤ K → K ≤ 4 → 0 ≤ a → a ≤ n → Rx (d + 3) m_X7_readsValues 2 [some (.ref 5), some (.ref 1), some (.int (iz ki)), w3] [] (cxH (u2 (u2 (u2 z 1 1 n) 1 2 a) 5 1 K) (uf f 6 g) rc tl) (fun rv h => ∃ g' K', shI g' ∧ 0 ≤ K' ∧ K' ≤ 4 ∧ h = cxH (u2 (u2 (u2 z 1 1 n) 1 2 ((vlP n (f 2) k (g ki) a).1)) 5 1 K') (uf f 6 g') rc tl ∧ ((∃ l : List Int, (vlP n (f 2) k (g ki) a).2 = some l ∧ rv = some (.int (iz 1)) ∧ K' = ki + l.length ∧ 0 < l.length ∧ lst g' (ki + 1) l ∧ ∀ i, i ≤ ki → g' i = g i) ∨ ((vlP n (f 2) k (g ki) a).2 = none ∧ rv = some (.int (iz 0))))) := by
  have hn := hT.2.1
  intro k
  induction k using Nat.strongRecOn with
  | ind k ih =>
    intro hk1 hk4 ki g K a w3 hk hg hK0 hK1 h0 h1
    refine Rx.walk 2 (pc' := 4) (L' := [some (.ref 5), some (.ref 1), some (.int (iz ki)), w3]) (st' := [.int (iz 4), .int (iz ki)]) (h' := cxH (u2 (u2 (u2 z 1 1 n) 1 2 a) 5 1 K) (uf f 6 g) rc tl) rfl ?_
    refine Rx.ge2 rfl rfl ⟨by omega, by omega⟩ ⟨by omega, by omega⟩ (fun b1 => by omega) (fun b1 => ?_)
    refine Rx.walk 4 (pc' := 13) (L' := [some (.ref 5), some (.ref 1), some (.int (iz ki)), w3]) (st' := [.int (iz ki), .ref 6, .ref 1]) (h' := cxH (u2 (u2 (u2 z 1 1 n) 1 2 a) 5 1 K) (uf f 6 g) rc tl) rfl ?_
    refine Rx.ial rfl rfl (by omega) (by omega) (by omega) ?_
    have y := hg.2 ki (by omega) (by omega)
    refine Rx.walk 1 (pc' := 15) (L' := [some (.ref 5), some (.ref 1), some (.int (iz ki)), w3]) (st' := [.int (iz 1), .int (iz (g ki)), .ref 1]) (h' := cxH (u2 (u2 (u2 z 1 1 n) 1 2 a) 5 1 K) (uf f 6 g) rc tl) rfl ?_
    refine Rx.iadd rfl ?_
    refine Rx.walk 1 (pc' := 18) (L' := [some (.ref 5), some (.ref 1), some (.int (iz ki)), w3]) (st' := [.int (iz 99), .int (iz ((g ki) + 1)), .ref 1]) (h' := cxH (u2 (u2 (u2 z 1 1 n) 1 2 a) 5 1 K) (uf f 6 g) rc tl) rfl ?_
    have uu2p := nmP_props (n := n) (b := (f 2)) (lo := ((g ki) + 1)) (hi := 99) (a := a) (by omega) (by omega)
    refine Rx.callx (m' := m_X8_bounded) (as := [.ref 1, .int (iz ((g ki) + 1)), .int (iz 99)]) (rest := []) rfl (x_bounded2 _ (u2 (u2 (u2 z 1 1 n) 1 2 a) 5 1 K) (uf f 6 g) rc tl n a ((g ki) + 1) 99 ⟨by omega, by omega⟩ ⟨by omega, by omega⟩ hT (by omega) (by omega)) (fun v4 h5 q6 => ?_)
    rcases q6 with ⟨x3, uu2, rfl, rfl⟩ | ⟨uu2, rfl, rfl⟩
    · change (nmP n (f 2) ((g ki) + 1) 99 a).2 = some x3 at uu2
      have uu2b := uu2p.2.2 x3 uu2
      refine Rx.walk 0 (pc' := 21) (L' := [some (.ref 5), some (.ref 1), some (.int (iz ki)), w3]) (st' := [.int (iz x3)]) (h' := cxH (u2 (u2 (u2 z 1 1 n) 1 2 ((nmP n (f 2) ((g ki) + 1) 99 a).1)) 5 1 K) (uf f 6 g) rc tl) rfl ?_
      refine Rx.walk 3 (pc' := 24) (L' := [some (.ref 5), some (.ref 1), some (.int (iz ki)), some (.int (iz x3))]) (st' := [.int (iz (-1)), .int (iz x3)]) (h' := cxH (u2 (u2 (u2 z 1 1 n) 1 2 ((nmP n (f 2) ((g ki) + 1) 99 a).1)) 5 1 K) (uf f 6 g) rc tl) rfl ?_
      refine Rx.ne2 rfl rfl ⟨by omega, by omega⟩ ⟨by omega, by omega⟩ (fun b7 => ?_) (fun b7 => by omega)
      refine Rx.walk 4 (pc' := 35) (L' := [some (.ref 5), some (.ref 1), some (.int (iz ki)), some (.int (iz x3))]) (st' := [.int (iz 1), .int (iz ki), .ref 6]) (h' := cxH (u2 (u2 (u2 z 1 1 n) 1 2 ((nmP n (f 2) ((g ki) + 1) 99 a).1)) 5 1 K) (uf f 6 g) rc tl) rfl ?_
      refine Rx.iadd rfl ?_
      refine Rx.walk 1 (pc' := 37) (L' := [some (.ref 5), some (.ref 1), some (.int (iz ki)), some (.int (iz x3))]) (st' := [.int (iz x3), .int (iz (ki + 1)), .ref 6]) (h' := cxH (u2 (u2 (u2 z 1 1 n) 1 2 ((nmP n (f 2) ((g ki) + 1) 99 a).1)) 5 1 K) (uf f 6 g) rc tl) rfl ?_
      refine Rx.ias (h' := cxH (u2 (u2 (u2 z 1 1 n) 1 2 ((nmP n (f 2) ((g ki) + 1) 99 a).1)) 5 1 K) (uf f 6 (iu g (ki + 1) x3)) rc tl) rfl rfl (by omega) (by omega) (by omega) rfl ?_
      refine Rx.walk 3 (pc' := 41) (L' := [some (.ref 5), some (.ref 1), some (.int (iz ki)), some (.int (iz x3))]) (st' := [.int (iz 1), .int (iz ki), .ref 5]) (h' := cxH (u2 (u2 (u2 z 1 1 n) 1 2 ((nmP n (f 2) ((g ki) + 1) 99 a).1)) 5 1 K) (uf f 6 (iu g (ki + 1) x3)) rc tl) rfl ?_
      refine Rx.iadd rfl ?_
      refine Rx.walk 4 (pc' := 50) (L' := [some (.ref 5), some (.ref 1), some (.int (iz ki)), some (.int (iz x3))]) (st' := [.int (iz 4), .int (iz (ki + 1))]) (h' := cxH (u2 (u2 (u2 z 1 1 n) 1 2 ((nmP n (f 2) ((g ki) + 1) 99 a).1)) 5 1 (ki + 1)) (uf f 6 (iu g (ki + 1) x3)) rc tl) rfl ?_
      refine Rx.eq2 rfl rfl ⟨by omega, by omega⟩ ⟨by omega, by omega⟩ (fun b8 => ?_) (fun b8 => ?_)
      · refine Rx.walk 1 (pc' := 63) (L' := [some (.ref 5), some (.ref 1), some (.int (iz ki)), some (.int (iz x3))]) (st' := [.int (iz 1)]) (h' := cxH (u2 (u2 (u2 z 1 1 n) 1 2 ((nmP n (f 2) ((g ki) + 1) 99 a).1)) 5 1 (ki + 1)) (uf f 6 (iu g (ki + 1) x3)) rc tl) rfl ?_
        refine Rx.ret rfl ?_
        obtain rfl : k = 1 := by omega
        rw [vlP_4 uu2]
        exact ⟨_, ki + 1, shI_iu hg (by omega) (by omega) (by omega) (by omega), by omega, by omega, rfl, Or.inl ⟨_, rfl, rfl, by simp, by simp, ⟨iu_at _ _ _, trivial⟩, fun i hi => iu_ne _ _ (by omega)⟩⟩
      · refine Rx.walk 2 (pc' := 56) (L' := [some (.ref 5), some (.ref 1), some (.int (iz ki)), some (.int (iz x3))]) (st' := [.int (iz 44), .ref 1]) (h' := cxH (u2 (u2 (u2 z 1 1 n) 1 2 ((nmP n (f 2) ((g ki) + 1) 99 a).1)) 5 1 (ki + 1)) (uf f 6 (iu g (ki + 1) x3)) rc tl) rfl ?_
        have k10a := sks_le n (f 2) ((nmP n (f 2) ((g ki) + 1) 99 a).1)
        have k10b := sks_n (n := n) (f 2) (a := (nmP n (f 2) ((g ki) + 1) 99 a).1) (by omega)
        have k10c := sg_bI hT (a := sks n (f 2) ((nmP n (f 2) ((g ki) + 1) 99 a).1)) (by omega)
        refine Rx.callx (m' := m_X8_accepts) (as := [.ref 1, .int (iz 44)]) (rest := []) rfl (x_accepts _ (u2 (u2 (u2 z 1 1 n) 1 2 ((nmP n (f 2) ((g ki) + 1) 99 a).1)) 5 1 (ki + 1)) (uf f 6 (iu g (ki + 1) x3)) rc tl n ((nmP n (f 2) ((g ki) + 1) 99 a).1) 44 ⟨by omega, by omega⟩ hT (by omega) (by omega)) (fun v11 h12 q13 => ?_)
        rcases q13 with ⟨uu9, rfl, rfl⟩ | ⟨uu9, rfl, rfl⟩
        · change sg n (f 2) (sks n (f 2) ((nmP n (f 2) ((g ki) + 1) 99 a).1)) = 44 at uu9
          have uu9l : (sks n (f 2) ((nmP n (f 2) ((g ki) + 1) 99 a).1)) < n := by rcases Int.lt_or_le (sks n (f 2) ((nmP n (f 2) ((g ki) + 1) 99 a).1)) n with x | x; exact x; rw [sg_ge x] at uu9; omega
          refine Rx.walk 0 (pc' := 59) (L' := [some (.ref 5), some (.ref 1), some (.int (iz ki)), some (.int (iz x3))]) (st' := [.int (iz 1)]) (h' := cxH (u2 (u2 (u2 z 1 1 n) 1 2 ((sks n (f 2) ((nmP n (f 2) ((g ki) + 1) 99 a).1)) + 1)) 5 1 (ki + 1)) (uf f 6 (iu g (ki + 1) x3)) rc tl) rfl ?_
          refine Rx.ne1 rfl rfl ⟨by omega, by omega⟩ (fun b14 => ?_) (fun b14 => by omega)
          refine Rx.iinc (b := 1) rfl rfl rfl ?_
          refine Rx.walk 0 (pc' := 67) (L' := [some (.ref 5), some (.ref 1), some (.int (iz (ki + 1))), some (.int (iz x3))]) (st' := []) (h' := cxH (u2 (u2 (u2 z 1 1 n) 1 2 ((sks n (f 2) ((nmP n (f 2) ((g ki) + 1) 99 a).1)) + 1)) 5 1 (ki + 1)) (uf f 6 (iu g (ki + 1) x3)) rc tl) rfl ?_
          refine Rx.walk 1 (pc' := 2) (L' := [some (.ref 5), some (.ref 1), some (.int (iz (ki + 1))), some (.int (iz x3))]) (st' := []) (h' := cxH (u2 (u2 (u2 z 1 1 n) 1 2 ((sks n (f 2) ((nmP n (f 2) ((g ki) + 1) 99 a).1)) + 1)) 5 1 (ki + 1)) (uf f 6 (iu g (ki + 1) x3)) rc tl) rfl ?_
          obtain ⟨j, rfl⟩ : ∃ j, k = j + 1 := ⟨k - 1, by omega⟩
          rw [vlP_c uu2 (by omega) uu9]
          have hg2 := shI_iu (j := ki + 1) (y := x3) hg (by omega) (by omega) (by omega) (by omega)
          have e1 : (iu g (ki + 1) x3) (ki + 1) = x3 := iu_at _ _ _
          refine (ih j (by omega) (by omega) (by omega) (ki + 1) (iu g (ki + 1) x3) (ki + 1) _ _ (by omega) hg2 (by omega) (by omega) (by omega) (by omega)).mono (fun rv h r => ?_)
          rw [e1] at r
          obtain ⟨g', K', r1, r2, r3, r4, r5⟩ := r
          refine ⟨g', K', r1, r2, r3, r4, ?_⟩
          rcases r5 with ⟨l, r6, r7, r8, r9, r10, r11⟩ | ⟨r6, r7⟩
          · exact Or.inl ⟨x3 :: l, by rw [r6]; rfl, r7, by rw [r8, List.length_cons]; omega, by simp, ⟨by rw [r11 _ (by omega)]; exact iu_at _ _ _, r10⟩, fun i hi => by rw [r11 i (by omega)]; exact iu_ne _ _ (by omega)⟩
          · exact Or.inr ⟨by rw [r6]; rfl, r7⟩
        · change sg n (f 2) (sks n (f 2) ((nmP n (f 2) ((g ki) + 1) 99 a).1)) ≠ 44 at uu9
          refine Rx.walk 0 (pc' := 59) (L' := [some (.ref 5), some (.ref 1), some (.int (iz ki)), some (.int (iz x3))]) (st' := [.int (iz 0)]) (h' := cxH (u2 (u2 (u2 z 1 1 n) 1 2 (sks n (f 2) ((nmP n (f 2) ((g ki) + 1) 99 a).1))) 5 1 (ki + 1)) (uf f 6 (iu g (ki + 1) x3)) rc tl) rfl ?_
          refine Rx.ne1 rfl rfl ⟨by omega, by omega⟩ (fun b15 => by omega) (fun b15 => ?_)
          refine Rx.walk 1 (pc' := 63) (L' := [some (.ref 5), some (.ref 1), some (.int (iz ki)), some (.int (iz x3))]) (st' := [.int (iz 1)]) (h' := cxH (u2 (u2 (u2 z 1 1 n) 1 2 (sks n (f 2) ((nmP n (f 2) ((g ki) + 1) 99 a).1))) 5 1 (ki + 1)) (uf f 6 (iu g (ki + 1) x3)) rc tl) rfl ?_
          refine Rx.ret rfl ?_
          obtain ⟨j, rfl⟩ : ∃ j, k = j + 1 := ⟨k - 1, by omega⟩
          rw [vlP_e uu2 (by omega) uu9]
          exact ⟨_, ki + 1, shI_iu hg (by omega) (by omega) (by omega) (by omega), by omega, by omega, rfl, Or.inl ⟨_, rfl, rfl, by simp, by simp, ⟨iu_at _ _ _, trivial⟩, fun i hi => iu_ne _ _ (by omega)⟩⟩
    · change (nmP n (f 2) ((g ki) + 1) 99 a).2 = none at uu2
      refine Rx.walk 0 (pc' := 21) (L' := [some (.ref 5), some (.ref 1), some (.int (iz ki)), w3]) (st' := [.int (iz (-1))]) (h' := cxH (u2 (u2 (u2 z 1 1 n) 1 2 ((nmP n (f 2) ((g ki) + 1) 99 a).1)) 5 1 K) (uf f 6 g) rc tl) rfl ?_
      refine Rx.walk 3 (pc' := 24) (L' := [some (.ref 5), some (.ref 1), some (.int (iz ki)), some (.int (iz (-1)))]) (st' := [.int (iz (-1)), .int (iz (-1))]) (h' := cxH (u2 (u2 (u2 z 1 1 n) 1 2 ((nmP n (f 2) ((g ki) + 1) 99 a).1)) 5 1 K) (uf f 6 g) rc tl) rfl ?_
      refine Rx.ne2 rfl rfl ⟨by omega, by omega⟩ ⟨by omega, by omega⟩ (fun b16 => by omega) (fun b16 => ?_)
      refine Rx.walk 1 (pc' := 28) (L' := [some (.ref 5), some (.ref 1), some (.int (iz ki)), some (.int (iz (-1)))]) (st' := [.int (iz 0)]) (h' := cxH (u2 (u2 (u2 z 1 1 n) 1 2 ((nmP n (f 2) ((g ki) + 1) 99 a).1)) 5 1 K) (uf f 6 g) rc tl) rfl ?_
      refine Rx.ret rfl ?_
      obtain ⟨j, rfl⟩ : ∃ j, k = j + 1 := ⟨k - 1, by omega⟩
      rw [vlP_n uu2]
      exact ⟨g, K, hg, by omega, by omega, rfl, Or.inr ⟨rfl, rfl⟩⟩
set_option maxRecDepth 100000 in
set_option maxHeartbeats 4000000 in
theorem x_partOf (d : Nat) (h : AmH) (e : Int) (he : bI e) : Rx (d) m_X7_partOf 0 (am_ent [.int (iz e)] 1) [] (h) (fun rv h1 => rv = some (.int (iz (wd e))) ∧ h1 = h) := by
  refine Rx.walk 0 (pc' := 0) (L' := [some (.int (iz e))]) (st' := []) (h' := h) rfl ?_
  refine Rx.walk 2 (pc' := 3) (L' := [some (.int (iz e))]) (st' := [.int (iz 112), .int (iz e)]) (h' := h) rfl ?_
  refine Rx.ne2 rfl rfl he ⟨by omega, by omega⟩ (fun b1 => ?_) (fun b1 => ?_)
  · refine Rx.walk 2 (pc' := 13) (L' := [some (.int (iz e))]) (st' := [.int (iz 108), .int (iz e)]) (h' := h) rfl ?_
    refine Rx.ne2 rfl rfl he ⟨by omega, by omega⟩ (fun b2 => ?_) (fun b2 => ?_)
    · refine Rx.walk 2 (pc' := 23) (L' := [some (.int (iz e))]) (st' := [.int (iz 116), .int (iz e)]) (h' := h) rfl ?_
      refine Rx.ne2 rfl rfl he ⟨by omega, by omega⟩ (fun b3 => ?_) (fun b3 => ?_)
      · refine Rx.walk 1 (pc' := 31) (L' := [some (.int (iz e))]) (st' := [.int (iz (-1))]) (h' := h) rfl ?_
        refine Rx.ret rfl ?_
        rw [show wd e = (-1) by rcases wd_cases e with x | x | x | x <;> omega]
        exact ⟨rfl, rfl⟩
      · refine Rx.walk 2 (pc' := 31) (L' := [some (.int (iz e))]) (st' := [.int (iz 2)]) (h' := h) rfl ?_
        refine Rx.ret rfl ?_
        rw [show wd e = 2 by rcases wd_cases e with x | x | x | x <;> omega]
        exact ⟨rfl, rfl⟩
    · refine Rx.walk 2 (pc' := 31) (L' := [some (.int (iz e))]) (st' := [.int (iz 1)]) (h' := h) rfl ?_
      refine Rx.ret rfl ?_
      rw [show wd e = 1 by rcases wd_cases e with x | x | x | x <;> omega]
      exact ⟨rfl, rfl⟩
  · refine Rx.walk 2 (pc' := 31) (L' := [some (.int (iz e))]) (st' := [.int (iz 0)]) (h' := h) rfl ?_
    refine Rx.ret rfl ?_
    rw [show wd e = 0 by rcases wd_cases e with x | x | x | x <;> omega]
    exact ⟨rfl, rfl⟩
set_option maxRecDepth 100000 in
set_option maxHeartbeats 4000000 in
theorem x_readsPart0 (d : Nat) (z : Nat → Nat → Int) (f : Nat → Int → Int) (rc : Nat → Nat) (tl : AmH) (n a : Int) (hT : tOK n (f 2)) (h0 : 0 ≤ a) (h1 : a ≤ n) : Rx (d + 3) m_X7_readsPart 0 (am_ent [.ref 5, .int (iz 0), .ref 1] 6) [] (cxH (u2 (u2 z 1 1 n) 1 2 a) f rc tl) (fun rv h => (∃ v, (nmP n (f 2) 1 2 a).2 = some v ∧ rv = some (.int (iz 1)) ∧ h = cxH (u2 (u2 (u2 z 1 1 n) 1 2 ((nmP n (f 2) 1 2 a).1)) 5 2 v) f rc tl) ∨ ((nmP n (f 2) 1 2 a).2 = none ∧ rv = some (.int (iz 0)) ∧ h = cxH (u2 (u2 z 1 1 n) 1 2 ((nmP n (f 2) 1 2 a).1)) f rc tl)) := by
  have hn := hT.2.1
  refine Rx.walk 0 (pc' := 0) (L' := [some (.ref 5), some (.int (iz 0)), some (.ref 1), none, none, none]) (st' := []) (h' := cxH (u2 (u2 z 1 1 n) 1 2 a) f rc tl) rfl ?_
  refine Rx.walk 2 (pc' := 2) (L' := [some (.ref 5), some (.int (iz 0)), some (.ref 1), none, none, none]) (st' := [.int (iz 2), .int (iz 0)]) (h' := cxH (u2 (u2 z 1 1 n) 1 2 a) f rc tl) rfl ?_
  refine Rx.ne2 rfl rfl ⟨by omega, by omega⟩ ⟨by omega, by omega⟩ (fun b1 => ?_) (fun b1 => by omega)
  refine Rx.walk 3 (pc' := 12) (L' := [some (.ref 5), some (.int (iz 0)), some (.ref 1), some (.int (iz 1)), none, none]) (st' := [.int (iz 0)]) (h' := cxH (u2 (u2 z 1 1 n) 1 2 a) f rc tl) rfl ?_
  refine Rx.ne1 rfl rfl ⟨by omega, by omega⟩ (fun b2 => by omega) (fun b2 => ?_)
  refine Rx.walk 6 (pc' := 35) (L' := [some (.ref 5), some (.int (iz 0)), some (.ref 1), some (.int (iz 1)), some (.int (iz 2)), none]) (st' := [.int (iz 2), .int (iz 1), .ref 1]) (h' := cxH (u2 (u2 z 1 1 n) 1 2 a) f rc tl) rfl ?_
  have uu3p := nmP_props (n := n) (b := (f 2)) (lo := 1) (hi := 2) (a := a) (by omega) (by omega)
  refine Rx.callx (m' := m_X8_bounded) (as := [.ref 1, .int (iz 1), .int (iz 2)]) (rest := []) rfl (x_bounded2 _ (u2 (u2 z 1 1 n) 1 2 a) f rc tl n a 1 2 ⟨by omega, by omega⟩ ⟨by omega, by omega⟩ hT (by omega) (by omega)) (fun v5 h6 q7 => ?_)
  rcases q7 with ⟨x4, uu3, rfl, rfl⟩ | ⟨uu3, rfl, rfl⟩
  · change (nmP n (f 2) 1 2 a).2 = some x4 at uu3
    have uu3b := uu3p.2.2 x4 uu3
    refine Rx.walk 0 (pc' := 38) (L' := [some (.ref 5), some (.int (iz 0)), some (.ref 1), some (.int (iz 1)), some (.int (iz 2)), none]) (st' := [.int (iz x4)]) (h' := cxH (u2 (u2 z 1 1 n) 1 2 ((nmP n (f 2) 1 2 a).1)) f rc tl) rfl ?_
    refine Rx.walk 3 (pc' := 43) (L' := [some (.ref 5), some (.int (iz 0)), some (.ref 1), some (.int (iz 1)), some (.int (iz 2)), some (.int (iz x4))]) (st' := [.int (iz (-1)), .int (iz x4)]) (h' := cxH (u2 (u2 z 1 1 n) 1 2 ((nmP n (f 2) 1 2 a).1)) f rc tl) rfl ?_
    refine Rx.ne2 rfl rfl ⟨by omega, by omega⟩ ⟨by omega, by omega⟩ (fun b8 => ?_) (fun b8 => by omega)
    refine Rx.walk 1 (pc' := 49) (L' := [some (.ref 5), some (.int (iz 0)), some (.ref 1), some (.int (iz 1)), some (.int (iz 2)), some (.int (iz x4))]) (st' := [.int (iz 0)]) (h' := cxH (u2 (u2 z 1 1 n) 1 2 ((nmP n (f 2) 1 2 a).1)) f rc tl) rfl ?_
    refine Rx.ne1 rfl rfl ⟨by omega, by omega⟩ (fun b9 => by omega) (fun b9 => ?_)
    refine Rx.walk 5 (pc' := 82) (L' := [some (.ref 5), some (.int (iz 0)), some (.ref 1), some (.int (iz 1)), some (.int (iz 2)), some (.int (iz x4))]) (st' := [.int (iz 1)]) (h' := cxH (u2 (u2 (u2 z 1 1 n) 1 2 ((nmP n (f 2) 1 2 a).1)) 5 2 x4) f rc tl) rfl ?_
    refine Rx.ret rfl ?_
    exact Or.inl ⟨_, uu3, rfl, rfl⟩
  · change (nmP n (f 2) 1 2 a).2 = none at uu3
    refine Rx.walk 0 (pc' := 38) (L' := [some (.ref 5), some (.int (iz 0)), some (.ref 1), some (.int (iz 1)), some (.int (iz 2)), none]) (st' := [.int (iz (-1))]) (h' := cxH (u2 (u2 z 1 1 n) 1 2 ((nmP n (f 2) 1 2 a).1)) f rc tl) rfl ?_
    refine Rx.walk 3 (pc' := 43) (L' := [some (.ref 5), some (.int (iz 0)), some (.ref 1), some (.int (iz 1)), some (.int (iz 2)), some (.int (iz (-1)))]) (st' := [.int (iz (-1)), .int (iz (-1))]) (h' := cxH (u2 (u2 z 1 1 n) 1 2 ((nmP n (f 2) 1 2 a).1)) f rc tl) rfl ?_
    refine Rx.ne2 rfl rfl ⟨by omega, by omega⟩ ⟨by omega, by omega⟩ (fun b10 => by omega) (fun b10 => ?_)
    refine Rx.walk 1 (pc' := 47) (L' := [some (.ref 5), some (.int (iz 0)), some (.ref 1), some (.int (iz 1)), some (.int (iz 2)), some (.int (iz (-1)))]) (st' := [.int (iz 0)]) (h' := cxH (u2 (u2 z 1 1 n) 1 2 ((nmP n (f 2) 1 2 a).1)) f rc tl) rfl ?_
    refine Rx.ret rfl ?_
    exact Or.inr ⟨uu3, rfl, rfl⟩
set_option maxRecDepth 100000 in
set_option maxHeartbeats 4000000 in
theorem x_readsPart1 (d : Nat) (z : Nat → Nat → Int) (f : Nat → Int → Int) (rc : Nat → Nat) (tl : AmH) (n a : Int) (hT : tOK n (f 2)) (h0 : 0 ≤ a) (h1 : a ≤ n) : Rx (d + 3) m_X7_readsPart 0 (am_ent [.ref 5, .int (iz 1), .ref 1] 6) [] (cxH (u2 (u2 z 1 1 n) 1 2 a) f rc tl) (fun rv h => (∃ v, (nmP n (f 2) 1 5 a).2 = some v ∧ rv = some (.int (iz 1)) ∧ h = cxH (u2 (u2 (u2 z 1 1 n) 1 2 ((nmP n (f 2) 1 5 a).1)) 5 3 v) f rc tl) ∨ ((nmP n (f 2) 1 5 a).2 = none ∧ rv = some (.int (iz 0)) ∧ h = cxH (u2 (u2 z 1 1 n) 1 2 ((nmP n (f 2) 1 5 a).1)) f rc tl)) := by
  have hn := hT.2.1
  refine Rx.walk 0 (pc' := 0) (L' := [some (.ref 5), some (.int (iz 1)), some (.ref 1), none, none, none]) (st' := []) (h' := cxH (u2 (u2 z 1 1 n) 1 2 a) f rc tl) rfl ?_
  refine Rx.walk 2 (pc' := 2) (L' := [some (.ref 5), some (.int (iz 1)), some (.ref 1), none, none, none]) (st' := [.int (iz 2), .int (iz 1)]) (h' := cxH (u2 (u2 z 1 1 n) 1 2 a) f rc tl) rfl ?_
  refine Rx.ne2 rfl rfl ⟨by omega, by omega⟩ ⟨by omega, by omega⟩ (fun b1 => ?_) (fun b1 => by omega)
  refine Rx.walk 3 (pc' := 12) (L' := [some (.ref 5), some (.int (iz 1)), some (.ref 1), some (.int (iz 1)), none, none]) (st' := [.int (iz 1)]) (h' := cxH (u2 (u2 z 1 1 n) 1 2 a) f rc tl) rfl ?_
  refine Rx.ne1 rfl rfl ⟨by omega, by omega⟩ (fun b2 => ?_) (fun b2 => by omega)
  refine Rx.walk 2 (pc' := 21) (L' := [some (.ref 5), some (.int (iz 1)), some (.ref 1), some (.int (iz 1)), none, none]) (st' := [.int (iz 1), .int (iz 1)]) (h' := cxH (u2 (u2 z 1 1 n) 1 2 a) f rc tl) rfl ?_
  refine Rx.ne2 rfl rfl ⟨by omega, by omega⟩ ⟨by omega, by omega⟩ (fun b3 => by omega) (fun b3 => ?_)
  refine Rx.walk 6 (pc' := 35) (L' := [some (.ref 5), some (.int (iz 1)), some (.ref 1), some (.int (iz 1)), some (.int (iz 5)), none]) (st' := [.int (iz 5), .int (iz 1), .ref 1]) (h' := cxH (u2 (u2 z 1 1 n) 1 2 a) f rc tl) rfl ?_
  have uu4p := nmP_props (n := n) (b := (f 2)) (lo := 1) (hi := 5) (a := a) (by omega) (by omega)
  refine Rx.callx (m' := m_X8_bounded) (as := [.ref 1, .int (iz 1), .int (iz 5)]) (rest := []) rfl (x_bounded2 _ (u2 (u2 z 1 1 n) 1 2 a) f rc tl n a 1 5 ⟨by omega, by omega⟩ ⟨by omega, by omega⟩ hT (by omega) (by omega)) (fun v6 h7 q8 => ?_)
  rcases q8 with ⟨x5, uu4, rfl, rfl⟩ | ⟨uu4, rfl, rfl⟩
  · change (nmP n (f 2) 1 5 a).2 = some x5 at uu4
    have uu4b := uu4p.2.2 x5 uu4
    refine Rx.walk 0 (pc' := 38) (L' := [some (.ref 5), some (.int (iz 1)), some (.ref 1), some (.int (iz 1)), some (.int (iz 5)), none]) (st' := [.int (iz x5)]) (h' := cxH (u2 (u2 z 1 1 n) 1 2 ((nmP n (f 2) 1 5 a).1)) f rc tl) rfl ?_
    refine Rx.walk 3 (pc' := 43) (L' := [some (.ref 5), some (.int (iz 1)), some (.ref 1), some (.int (iz 1)), some (.int (iz 5)), some (.int (iz x5))]) (st' := [.int (iz (-1)), .int (iz x5)]) (h' := cxH (u2 (u2 z 1 1 n) 1 2 ((nmP n (f 2) 1 5 a).1)) f rc tl) rfl ?_
    refine Rx.ne2 rfl rfl ⟨by omega, by omega⟩ ⟨by omega, by omega⟩ (fun b9 => ?_) (fun b9 => by omega)
    refine Rx.walk 1 (pc' := 49) (L' := [some (.ref 5), some (.int (iz 1)), some (.ref 1), some (.int (iz 1)), some (.int (iz 5)), some (.int (iz x5))]) (st' := [.int (iz 1)]) (h' := cxH (u2 (u2 z 1 1 n) 1 2 ((nmP n (f 2) 1 5 a).1)) f rc tl) rfl ?_
    refine Rx.ne1 rfl rfl ⟨by omega, by omega⟩ (fun b10 => ?_) (fun b10 => by omega)
    refine Rx.walk 2 (pc' := 63) (L' := [some (.ref 5), some (.int (iz 1)), some (.ref 1), some (.int (iz 1)), some (.int (iz 5)), some (.int (iz x5))]) (st' := [.int (iz 1), .int (iz 1)]) (h' := cxH (u2 (u2 z 1 1 n) 1 2 ((nmP n (f 2) 1 5 a).1)) f rc tl) rfl ?_
    refine Rx.ne2 rfl rfl ⟨by omega, by omega⟩ ⟨by omega, by omega⟩ (fun b11 => by omega) (fun b11 => ?_)
    refine Rx.walk 5 (pc' := 82) (L' := [some (.ref 5), some (.int (iz 1)), some (.ref 1), some (.int (iz 1)), some (.int (iz 5)), some (.int (iz x5))]) (st' := [.int (iz 1)]) (h' := cxH (u2 (u2 (u2 z 1 1 n) 1 2 ((nmP n (f 2) 1 5 a).1)) 5 3 x5) f rc tl) rfl ?_
    refine Rx.ret rfl ?_
    exact Or.inl ⟨_, uu4, rfl, rfl⟩
  · change (nmP n (f 2) 1 5 a).2 = none at uu4
    refine Rx.walk 0 (pc' := 38) (L' := [some (.ref 5), some (.int (iz 1)), some (.ref 1), some (.int (iz 1)), some (.int (iz 5)), none]) (st' := [.int (iz (-1))]) (h' := cxH (u2 (u2 z 1 1 n) 1 2 ((nmP n (f 2) 1 5 a).1)) f rc tl) rfl ?_
    refine Rx.walk 3 (pc' := 43) (L' := [some (.ref 5), some (.int (iz 1)), some (.ref 1), some (.int (iz 1)), some (.int (iz 5)), some (.int (iz (-1)))]) (st' := [.int (iz (-1)), .int (iz (-1))]) (h' := cxH (u2 (u2 z 1 1 n) 1 2 ((nmP n (f 2) 1 5 a).1)) f rc tl) rfl ?_
    refine Rx.ne2 rfl rfl ⟨by omega, by omega⟩ ⟨by omega, by omega⟩ (fun b12 => by omega) (fun b12 => ?_)
    refine Rx.walk 1 (pc' := 47) (L' := [some (.ref 5), some (.int (iz 1)), some (.ref 1), some (.int (iz 1)), some (.int (iz 5)), some (.int (iz (-1)))]) (st' := [.int (iz 0)]) (h' := cxH (u2 (u2 z 1 1 n) 1 2 ((nmP n (f 2) 1 5 a).1)) f rc tl) rfl ?_
    refine Rx.ret rfl ?_
    exact Or.inr ⟨uu4, rfl, rfl⟩
set_option maxRecDepth 100000 in
set_option maxHeartbeats 4000000 in
theorem x_readsPart2 (d : Nat) (z : Nat → Nat → Int) (f : Nat → Int → Int) (rc : Nat → Nat) (tl : AmH) (n a : Int) (hT : tOK n (f 2)) (h0 : 0 ≤ a) (h1 : a ≤ n) : Rx (d + 3) m_X7_readsPart 0 (am_ent [.ref 5, .int (iz 2), .ref 1] 6) [] (cxH (u2 (u2 z 1 1 n) 1 2 a) f rc tl) (fun rv h => (∃ v, (nmP n (f 2) 0 1 a).2 = some v ∧ rv = some (.int (iz 1)) ∧ h = cxH (u2 (u2 (u2 z 1 1 n) 1 2 ((nmP n (f 2) 0 1 a).1)) 5 4 v) f rc tl) ∨ ((nmP n (f 2) 0 1 a).2 = none ∧ rv = some (.int (iz 0)) ∧ h = cxH (u2 (u2 z 1 1 n) 1 2 ((nmP n (f 2) 0 1 a).1)) f rc tl)) := by
  have hn := hT.2.1
  refine Rx.walk 0 (pc' := 0) (L' := [some (.ref 5), some (.int (iz 2)), some (.ref 1), none, none, none]) (st' := []) (h' := cxH (u2 (u2 z 1 1 n) 1 2 a) f rc tl) rfl ?_
  refine Rx.walk 2 (pc' := 2) (L' := [some (.ref 5), some (.int (iz 2)), some (.ref 1), none, none, none]) (st' := [.int (iz 2), .int (iz 2)]) (h' := cxH (u2 (u2 z 1 1 n) 1 2 a) f rc tl) rfl ?_
  refine Rx.ne2 rfl rfl ⟨by omega, by omega⟩ ⟨by omega, by omega⟩ (fun b1 => by omega) (fun b1 => ?_)
  refine Rx.walk 4 (pc' := 12) (L' := [some (.ref 5), some (.int (iz 2)), some (.ref 1), some (.int (iz 0)), none, none]) (st' := [.int (iz 2)]) (h' := cxH (u2 (u2 z 1 1 n) 1 2 a) f rc tl) rfl ?_
  refine Rx.ne1 rfl rfl ⟨by omega, by omega⟩ (fun b2 => ?_) (fun b2 => by omega)
  refine Rx.walk 2 (pc' := 21) (L' := [some (.ref 5), some (.int (iz 2)), some (.ref 1), some (.int (iz 0)), none, none]) (st' := [.int (iz 1), .int (iz 2)]) (h' := cxH (u2 (u2 z 1 1 n) 1 2 a) f rc tl) rfl ?_
  refine Rx.ne2 rfl rfl ⟨by omega, by omega⟩ ⟨by omega, by omega⟩ (fun b3 => ?_) (fun b3 => by omega)
  refine Rx.walk 5 (pc' := 35) (L' := [some (.ref 5), some (.int (iz 2)), some (.ref 1), some (.int (iz 0)), some (.int (iz 1)), none]) (st' := [.int (iz 1), .int (iz 0), .ref 1]) (h' := cxH (u2 (u2 z 1 1 n) 1 2 a) f rc tl) rfl ?_
  have uu4p := nmP_props (n := n) (b := (f 2)) (lo := 0) (hi := 1) (a := a) (by omega) (by omega)
  refine Rx.callx (m' := m_X8_bounded) (as := [.ref 1, .int (iz 0), .int (iz 1)]) (rest := []) rfl (x_bounded2 _ (u2 (u2 z 1 1 n) 1 2 a) f rc tl n a 0 1 ⟨by omega, by omega⟩ ⟨by omega, by omega⟩ hT (by omega) (by omega)) (fun v6 h7 q8 => ?_)
  rcases q8 with ⟨x5, uu4, rfl, rfl⟩ | ⟨uu4, rfl, rfl⟩
  · change (nmP n (f 2) 0 1 a).2 = some x5 at uu4
    have uu4b := uu4p.2.2 x5 uu4
    refine Rx.walk 0 (pc' := 38) (L' := [some (.ref 5), some (.int (iz 2)), some (.ref 1), some (.int (iz 0)), some (.int (iz 1)), none]) (st' := [.int (iz x5)]) (h' := cxH (u2 (u2 z 1 1 n) 1 2 ((nmP n (f 2) 0 1 a).1)) f rc tl) rfl ?_
    refine Rx.walk 3 (pc' := 43) (L' := [some (.ref 5), some (.int (iz 2)), some (.ref 1), some (.int (iz 0)), some (.int (iz 1)), some (.int (iz x5))]) (st' := [.int (iz (-1)), .int (iz x5)]) (h' := cxH (u2 (u2 z 1 1 n) 1 2 ((nmP n (f 2) 0 1 a).1)) f rc tl) rfl ?_
    refine Rx.ne2 rfl rfl ⟨by omega, by omega⟩ ⟨by omega, by omega⟩ (fun b9 => ?_) (fun b9 => by omega)
    refine Rx.walk 1 (pc' := 49) (L' := [some (.ref 5), some (.int (iz 2)), some (.ref 1), some (.int (iz 0)), some (.int (iz 1)), some (.int (iz x5))]) (st' := [.int (iz 2)]) (h' := cxH (u2 (u2 z 1 1 n) 1 2 ((nmP n (f 2) 0 1 a).1)) f rc tl) rfl ?_
    refine Rx.ne1 rfl rfl ⟨by omega, by omega⟩ (fun b10 => ?_) (fun b10 => by omega)
    refine Rx.walk 2 (pc' := 63) (L' := [some (.ref 5), some (.int (iz 2)), some (.ref 1), some (.int (iz 0)), some (.int (iz 1)), some (.int (iz x5))]) (st' := [.int (iz 1), .int (iz 2)]) (h' := cxH (u2 (u2 z 1 1 n) 1 2 ((nmP n (f 2) 0 1 a).1)) f rc tl) rfl ?_
    refine Rx.ne2 rfl rfl ⟨by omega, by omega⟩ ⟨by omega, by omega⟩ (fun b11 => ?_) (fun b11 => by omega)
    refine Rx.walk 4 (pc' := 82) (L' := [some (.ref 5), some (.int (iz 2)), some (.ref 1), some (.int (iz 0)), some (.int (iz 1)), some (.int (iz x5))]) (st' := [.int (iz 1)]) (h' := cxH (u2 (u2 (u2 z 1 1 n) 1 2 ((nmP n (f 2) 0 1 a).1)) 5 4 x5) f rc tl) rfl ?_
    refine Rx.ret rfl ?_
    exact Or.inl ⟨_, uu4, rfl, rfl⟩
  · change (nmP n (f 2) 0 1 a).2 = none at uu4
    refine Rx.walk 0 (pc' := 38) (L' := [some (.ref 5), some (.int (iz 2)), some (.ref 1), some (.int (iz 0)), some (.int (iz 1)), none]) (st' := [.int (iz (-1))]) (h' := cxH (u2 (u2 z 1 1 n) 1 2 ((nmP n (f 2) 0 1 a).1)) f rc tl) rfl ?_
    refine Rx.walk 3 (pc' := 43) (L' := [some (.ref 5), some (.int (iz 2)), some (.ref 1), some (.int (iz 0)), some (.int (iz 1)), some (.int (iz (-1)))]) (st' := [.int (iz (-1)), .int (iz (-1))]) (h' := cxH (u2 (u2 z 1 1 n) 1 2 ((nmP n (f 2) 0 1 a).1)) f rc tl) rfl ?_
    refine Rx.ne2 rfl rfl ⟨by omega, by omega⟩ ⟨by omega, by omega⟩ (fun b12 => by omega) (fun b12 => ?_)
    refine Rx.walk 1 (pc' := 47) (L' := [some (.ref 5), some (.int (iz 2)), some (.ref 1), some (.int (iz 0)), some (.int (iz 1)), some (.int (iz (-1)))]) (st' := [.int (iz 0)]) (h' := cxH (u2 (u2 z 1 1 n) 1 2 ((nmP n (f 2) 0 1 a).1)) f rc tl) rfl ?_
    refine Rx.ret rfl ?_
    exact Or.inr ⟨uu4, rfl, rfl⟩
set_option maxRecDepth 100000 in
set_option maxHeartbeats 4000000 in
theorem x_readsParts_l (d : Nat) (z : Nat → Nat → Int) (f : Nat → Int → Int) (rc : Nat → Nat) (tl : AmH) (n : Int) (hT : tOK n (f 2)) : ∀ (k : Nat) (t : Int) (s : Int × Int × Int) (a i : Int) (w4 : Option Value), i + k = 3 → 0 ≤ i → 0 ≤ t → t ≤ 3 → 0 ≤ a → a ≤ n → Rx (d + 4) m_X7_readsParts 4 [some (.ref 5), some (.ref 1), some (.int (iz t)), some (.int (iz i)), w4] [] (cxH (u2 (u2 (u2 (u2 (u2 z 1 1 n) 1 2 a) 5 2 s.1) 5 3 s.2.1) 5 4 s.2.2) f rc tl) (fun rv h => (∃ (s' : Int × Int × Int) (q : Int), (ptP n (f 2) k t s a).2 = some s' ∧ rv = some (.int (iz 1)) ∧ 0 ≤ q ∧ q ≤ n ∧ sks n (f 2) q = (ptP n (f 2) k t s a).1 ∧ h = cxH (u2 (u2 (u2 (u2 (u2 z 1 1 n) 1 2 q) 5 2 s'.1) 5 3 s'.2.1) 5 4 s'.2.2) f rc tl) ∨ (∃ (s' : Int × Int × Int), (ptP n (f 2) k t s a).2 = none ∧ rv = some (.int (iz 0)) ∧ h = cxH (u2 (u2 (u2 (u2 (u2 z 1 1 n) 1 2 ((ptP n (f 2) k t s a).1)) 5 2 s'.1) 5 3 s'.2.1) 5 4 s'.2.2) f rc tl)) := by
  have hn := hT.2.1
  intro k
  induction k using Nat.strongRecOn with
  | ind k ih =>
    intro t s a i w4 hk hi ht0 ht1 h0 h1
    refine Rx.walk 2 (pc' := 6) (L' := [some (.ref 5), some (.ref 1), some (.int (iz t)), some (.int (iz i)), w4]) (st' := [.int (iz 3), .int (iz i)]) (h' := cxH (u2 (u2 (u2 (u2 (u2 z 1 1 n) 1 2 a) 5 2 s.1) 5 3 s.2.1) 5 4 s.2.2) f rc tl) rfl ?_
    refine Rx.ge2 rfl rfl ⟨by omega, by omega⟩ ⟨by omega, by omega⟩ (fun b1 => ?_) (fun b1 => ?_)
    · refine Rx.walk 1 (pc' := 74) (L' := [some (.ref 5), some (.ref 1), some (.int (iz t)), some (.int (iz i)), w4]) (st' := [.int (iz 1)]) (h' := cxH (u2 (u2 (u2 (u2 (u2 z 1 1 n) 1 2 a) 5 2 s.1) 5 3 s.2.1) 5 4 s.2.2) f rc tl) rfl ?_
      refine Rx.ret rfl ?_
      obtain rfl : k = 0 := by omega
      exact Or.inl ⟨s, a, rfl, rfl, by omega, by omega, rfl, rfl⟩
    · refine Rx.walk 2 (pc' := 11) (L' := [some (.ref 5), some (.ref 1), some (.int (iz t)), some (.int (iz i)), w4]) (st' := [.int (iz 3), .int (iz t)]) (h' := cxH (u2 (u2 (u2 (u2 (u2 z 1 1 n) 1 2 a) 5 2 s.1) 5 3 s.2.1) 5 4 s.2.2) f rc tl) rfl ?_
      refine Rx.ge2 rfl rfl ⟨by omega, by omega⟩ ⟨by omega, by omega⟩ (fun b2 => ?_) (fun b2 => ?_)
      · refine Rx.walk 1 (pc' := 74) (L' := [some (.ref 5), some (.ref 1), some (.int (iz t)), some (.int (iz i)), w4]) (st' := [.int (iz 1)]) (h' := cxH (u2 (u2 (u2 (u2 (u2 z 1 1 n) 1 2 a) 5 2 s.1) 5 3 s.2.1) 5 4 s.2.2) f rc tl) rfl ?_
        refine Rx.ret rfl ?_
        rw [ptP_e (by omega)]
        exact Or.inl ⟨s, a, rfl, rfl, by omega, by omega, rfl, rfl⟩
      · refine Rx.walk 2 (pc' := 17) (L' := [some (.ref 5), some (.ref 1), some (.int (iz t)), some (.int (iz i)), w4]) (st' := [.int (iz 59), .ref 1]) (h' := cxH (u2 (u2 (u2 (u2 (u2 z 1 1 n) 1 2 a) 5 2 s.1) 5 3 s.2.1) 5 4 s.2.2) f rc tl) rfl ?_
        have k4a := sks_le n (f 2) a
        have k4b := sks_n (n := n) (f 2) (a := a) (by omega)
        have k4c := sg_bI hT (a := sks n (f 2) a) (by omega)
        refine Rx.callx (m' := m_X8_accepts) (as := [.ref 1, .int (iz 59)]) (rest := []) rfl (x_accepts _ (u2 (u2 (u2 (u2 (u2 z 1 1 n) 1 2 a) 5 2 s.1) 5 3 s.2.1) 5 4 s.2.2) f rc tl n a 59 ⟨by omega, by omega⟩ hT (by omega) (by omega)) (fun v5 h6 q7 => ?_)
        rcases q7 with ⟨uu3, rfl, rfl⟩ | ⟨uu3, rfl, rfl⟩
        · change sg n (f 2) (sks n (f 2) a) = 59 at uu3
          have uu3l : (sks n (f 2) a) < n := by rcases Int.lt_or_le (sks n (f 2) a) n with x | x; exact x; rw [sg_ge x] at uu3; omega
          refine Rx.walk 0 (pc' := 20) (L' := [some (.ref 5), some (.ref 1), some (.int (iz t)), some (.int (iz i)), w4]) (st' := [.int (iz 1)]) (h' := cxH (u2 (u2 (u2 (u2 (u2 z 1 1 n) 1 2 ((sks n (f 2) a) + 1)) 5 2 s.1) 5 3 s.2.1) 5 4 s.2.2) f rc tl) rfl ?_
          refine Rx.eq1 rfl rfl ⟨by omega, by omega⟩ (fun b8 => by omega) (fun b8 => ?_)
          refine Rx.walk 1 (pc' := 24) (L' := [some (.ref 5), some (.ref 1), some (.int (iz t)), some (.int (iz i)), w4]) (st' := [.ref 1]) (h' := cxH (u2 (u2 (u2 (u2 (u2 z 1 1 n) 1 2 ((sks n (f 2) a) + 1)) 5 2 s.1) 5 3 s.2.1) 5 4 s.2.2) f rc tl) rfl ?_
          have k9a := sks_le n (f 2) ((sks n (f 2) a) + 1)
          have k9b := sks_n (n := n) (f 2) (a := ((sks n (f 2) a) + 1)) (by omega)
          have k9c := sg_bI hT (a := sks n (f 2) ((sks n (f 2) a) + 1)) (by omega)
          refine Rx.callx (m' := m_X8_sign) (as := [.ref 1]) (rest := []) rfl (x_sign _ (u2 (u2 (u2 (u2 (u2 z 1 1 n) 1 2 ((sks n (f 2) a) + 1)) 5 2 s.1) 5 3 s.2.1) 5 4 s.2.2) f rc tl n ((sks n (f 2) a) + 1) hT (by omega) (by omega)) (fun v10 h11 q12 => ?_)
          obtain ⟨rfl, rfl⟩ := q12
          refine Rx.walk 0 (pc' := 27) (L' := [some (.ref 5), some (.ref 1), some (.int (iz t)), some (.int (iz i)), w4]) (st' := [.int (iz (sg n (f 2) (sks n (f 2) ((sks n (f 2) a) + 1))))]) (h' := cxH (u2 (u2 (u2 (u2 (u2 z 1 1 n) 1 2 (sks n (f 2) ((sks n (f 2) a) + 1))) 5 2 s.1) 5 3 s.2.1) 5 4 s.2.2) f rc tl) rfl ?_
          rcases wd_cases (sg n (f 2) (sks n (f 2) ((sks n (f 2) a) + 1))) with uu13 | uu13 | uu13 | uu13
          · refine Rx.callx (m' := m_X7_partOf) (as := [.int (iz (sg n (f 2) (sks n (f 2) ((sks n (f 2) a) + 1))))]) (rest := []) rfl (x_partOf _ _ (sg n (f 2) (sks n (f 2) ((sks n (f 2) a) + 1))) ⟨by omega, by omega⟩) (fun v14 h15 q16 => ?_)
            obtain ⟨rfl, rfl⟩ := q16
            rw [uu13.2]
            refine Rx.walk 0 (pc' := 30) (L' := [some (.ref 5), some (.ref 1), some (.int (iz t)), some (.int (iz i)), w4]) (st' := [.int (iz 0)]) (h' := cxH (u2 (u2 (u2 (u2 (u2 z 1 1 n) 1 2 (sks n (f 2) ((sks n (f 2) a) + 1))) 5 2 s.1) 5 3 s.2.1) 5 4 s.2.2) f rc tl) rfl ?_
            refine Rx.walk 3 (pc' := 35) (L' := [some (.ref 5), some (.ref 1), some (.int (iz t)), some (.int (iz i)), some (.int (iz 0))]) (st' := [.int (iz t), .int (iz 0)]) (h' := cxH (u2 (u2 (u2 (u2 (u2 z 1 1 n) 1 2 (sks n (f 2) ((sks n (f 2) a) + 1))) 5 2 s.1) 5 3 s.2.1) 5 4 s.2.2) f rc tl) rfl ?_
            refine Rx.ge2 rfl rfl ⟨by omega, by omega⟩ ⟨by omega, by omega⟩ (fun b17 => ?_) (fun b17 => ?_)
            · have hlt : (sks n (f 2) ((sks n (f 2) a) + 1)) < n := by rcases Int.lt_or_le (sks n (f 2) ((sks n (f 2) a) + 1)) n with x | x; exact x; have := sg_ge (b := f 2) x; omega
              refine Rx.walk 4 (pc' := 46) (L' := [some (.ref 5), some (.ref 1), some (.int (iz t)), some (.int (iz i)), some (.int (iz 0))]) (st' := [.int (iz 1), .int (iz (sks n (f 2) ((sks n (f 2) a) + 1))), .ref 1]) (h' := cxH (u2 (u2 (u2 (u2 (u2 z 1 1 n) 1 2 (sks n (f 2) ((sks n (f 2) a) + 1))) 5 2 s.1) 5 3 s.2.1) 5 4 s.2.2) f rc tl) rfl ?_
              refine Rx.iadd rfl ?_
              refine Rx.walk 4 (pc' := 54) (L' := [some (.ref 5), some (.ref 1), some (.int (iz t)), some (.int (iz i)), some (.int (iz 0))]) (st' := [.ref 1, .int (iz 0), .ref 5]) (h' := cxH (u2 (u2 (u2 (u2 (u2 z 1 1 n) 1 2 ((sks n (f 2) ((sks n (f 2) a) + 1)) + 1)) 5 2 s.1) 5 3 s.2.1) 5 4 s.2.2) f rc tl) rfl ?_
              have uu18p := nmP_props (n := n) (b := (f 2)) (lo := 1) (hi := 2) (a := ((sks n (f 2) ((sks n (f 2) a) + 1)) + 1)) (by omega) (by omega)
              refine Rx.callx (m' := m_X7_readsPart) (as := [.ref 5, .int (iz 0), .ref 1]) (rest := []) rfl (x_readsPart0 _ (u2 (u2 (u2 (u2 (u2 z 1 1 n) 1 2 ((sks n (f 2) ((sks n (f 2) a) + 1)) + 1)) 5 2 s.1) 5 3 s.2.1) 5 4 s.2.2) f rc tl n ((sks n (f 2) ((sks n (f 2) a) + 1)) + 1) hT (by omega) (by omega)) (fun v20 h21 q22 => ?_)
              rcases q22 with ⟨x19, uu18, rfl, rfl⟩ | ⟨uu18, rfl, rfl⟩
              · change (nmP n (f 2) 1 2 ((sks n (f 2) ((sks n (f 2) a) + 1)) + 1)).2 = some x19 at uu18
                have uu18b := uu18p.2.2 x19 uu18
                refine Rx.walk 0 (pc' := 57) (L' := [some (.ref 5), some (.ref 1), some (.int (iz t)), some (.int (iz i)), some (.int (iz 0))]) (st' := [.int (iz 1)]) (h' := cxH (u2 (u2 (u2 (u2 (u2 z 1 1 n) 1 2 ((nmP n (f 2) 1 2 ((sks n (f 2) ((sks n (f 2) a) + 1)) + 1)).1)) 5 2 x19) 5 3 s.2.1) 5 4 s.2.2) f rc tl) rfl ?_
                refine Rx.ne1 rfl rfl ⟨by omega, by omega⟩ (fun b23 => ?_) (fun b23 => by omega)
                refine Rx.walk 2 (pc' := 65) (L' := [some (.ref 5), some (.ref 1), some (.int (iz t)), some (.int (iz i)), some (.int (iz 0))]) (st' := [.int (iz 1), .int (iz 0)]) (h' := cxH (u2 (u2 (u2 (u2 (u2 z 1 1 n) 1 2 ((nmP n (f 2) 1 2 ((sks n (f 2) ((sks n (f 2) a) + 1)) + 1)).1)) 5 2 x19) 5 3 s.2.1) 5 4 s.2.2) f rc tl) rfl ?_
                refine Rx.iadd rfl ?_
                refine Rx.walk 0 (pc' := 66) (L' := [some (.ref 5), some (.ref 1), some (.int (iz t)), some (.int (iz i)), some (.int (iz 0))]) (st' := [.int (iz 1)]) (h' := cxH (u2 (u2 (u2 (u2 (u2 z 1 1 n) 1 2 ((nmP n (f 2) 1 2 ((sks n (f 2) ((sks n (f 2) a) + 1)) + 1)).1)) 5 2 x19) 5 3 s.2.1) 5 4 s.2.2) f rc tl) rfl ?_
                refine Rx.walk 1 (pc' := 67) (L' := [some (.ref 5), some (.ref 1), some (.int (iz 1)), some (.int (iz i)), some (.int (iz 0))]) (st' := []) (h' := cxH (u2 (u2 (u2 (u2 (u2 z 1 1 n) 1 2 ((nmP n (f 2) 1 2 ((sks n (f 2) ((sks n (f 2) a) + 1)) + 1)).1)) 5 2 x19) 5 3 s.2.1) 5 4 s.2.2) f rc tl) rfl ?_
                refine Rx.iinc (b := 1) rfl rfl rfl ?_
                refine Rx.walk 0 (pc' := 70) (L' := [some (.ref 5), some (.ref 1), some (.int (iz 1)), some (.int (iz (i + 1))), some (.int (iz 0))]) (st' := []) (h' := cxH (u2 (u2 (u2 (u2 (u2 z 1 1 n) 1 2 ((nmP n (f 2) 1 2 ((sks n (f 2) ((sks n (f 2) a) + 1)) + 1)).1)) 5 2 x19) 5 3 s.2.1) 5 4 s.2.2) f rc tl) rfl ?_
                refine Rx.walk 1 (pc' := 4) (L' := [some (.ref 5), some (.ref 1), some (.int (iz 1)), some (.int (iz (i + 1))), some (.int (iz 0))]) (st' := []) (h' := cxH (u2 (u2 (u2 (u2 (u2 z 1 1 n) 1 2 ((nmP n (f 2) 1 2 ((sks n (f 2) ((sks n (f 2) a) + 1)) + 1)).1)) 5 2 x19) 5 3 s.2.1) 5 4 s.2.2) f rc tl) rfl ?_
                obtain ⟨j, rfl⟩ : ∃ j, k = j + 1 := ⟨k - 1, by omega⟩
                rw [ptP_s ⟨by omega, uu3⟩ uu13.2 (by omega) uu18]
                exact ih j (by omega) 1 (ptS s 0 x19) (nmP n (f 2) 1 2 ((sks n (f 2) ((sks n (f 2) a) + 1)) + 1)).1 (i + 1) _ (by omega) (by omega) (by omega) (by omega) (by omega) (by omega)
              · change (nmP n (f 2) 1 2 ((sks n (f 2) ((sks n (f 2) a) + 1)) + 1)).2 = none at uu18
                refine Rx.walk 0 (pc' := 57) (L' := [some (.ref 5), some (.ref 1), some (.int (iz t)), some (.int (iz i)), some (.int (iz 0))]) (st' := [.int (iz 0)]) (h' := cxH (u2 (u2 (u2 (u2 (u2 z 1 1 n) 1 2 ((nmP n (f 2) 1 2 ((sks n (f 2) ((sks n (f 2) a) + 1)) + 1)).1)) 5 2 s.1) 5 3 s.2.1) 5 4 s.2.2) f rc tl) rfl ?_
                refine Rx.ne1 rfl rfl ⟨by omega, by omega⟩ (fun b24 => by omega) (fun b24 => ?_)
                refine Rx.walk 1 (pc' := 61) (L' := [some (.ref 5), some (.ref 1), some (.int (iz t)), some (.int (iz i)), some (.int (iz 0))]) (st' := [.int (iz 0)]) (h' := cxH (u2 (u2 (u2 (u2 (u2 z 1 1 n) 1 2 ((nmP n (f 2) 1 2 ((sks n (f 2) ((sks n (f 2) a) + 1)) + 1)).1)) 5 2 s.1) 5 3 s.2.1) 5 4 s.2.2) f rc tl) rfl ?_
                refine Rx.ret rfl ?_
                obtain ⟨j, rfl⟩ : ∃ j, k = j + 1 := ⟨k - 1, by omega⟩
                rw [ptP_n ⟨by omega, uu3⟩ uu13.2 (by omega) uu18]
                exact Or.inr ⟨s, rfl, rfl, rfl⟩
            · refine Rx.walk 1 (pc' := 39) (L' := [some (.ref 5), some (.ref 1), some (.int (iz t)), some (.int (iz i)), some (.int (iz 0))]) (st' := [.int (iz 0)]) (h' := cxH (u2 (u2 (u2 (u2 (u2 z 1 1 n) 1 2 (sks n (f 2) ((sks n (f 2) a) + 1))) 5 2 s.1) 5 3 s.2.1) 5 4 s.2.2) f rc tl) rfl ?_
              refine Rx.ret rfl ?_
              obtain ⟨j, rfl⟩ : ∃ j, k = j + 1 := ⟨k - 1, by omega⟩
              rw [ptP_w ⟨by omega, uu3⟩ (by rw [uu13.2]; omega)]
              exact Or.inr ⟨s, rfl, rfl, rfl⟩
          · refine Rx.callx (m' := m_X7_partOf) (as := [.int (iz (sg n (f 2) (sks n (f 2) ((sks n (f 2) a) + 1))))]) (rest := []) rfl (x_partOf _ _ (sg n (f 2) (sks n (f 2) ((sks n (f 2) a) + 1))) ⟨by omega, by omega⟩) (fun v14 h15 q16 => ?_)
            obtain ⟨rfl, rfl⟩ := q16
            rw [uu13.2]
            refine Rx.walk 0 (pc' := 30) (L' := [some (.ref 5), some (.ref 1), some (.int (iz t)), some (.int (iz i)), w4]) (st' := [.int (iz 1)]) (h' := cxH (u2 (u2 (u2 (u2 (u2 z 1 1 n) 1 2 (sks n (f 2) ((sks n (f 2) a) + 1))) 5 2 s.1) 5 3 s.2.1) 5 4 s.2.2) f rc tl) rfl ?_
            refine Rx.walk 3 (pc' := 35) (L' := [some (.ref 5), some (.ref 1), some (.int (iz t)), some (.int (iz i)), some (.int (iz 1))]) (st' := [.int (iz t), .int (iz 1)]) (h' := cxH (u2 (u2 (u2 (u2 (u2 z 1 1 n) 1 2 (sks n (f 2) ((sks n (f 2) a) + 1))) 5 2 s.1) 5 3 s.2.1) 5 4 s.2.2) f rc tl) rfl ?_
            refine Rx.ge2 rfl rfl ⟨by omega, by omega⟩ ⟨by omega, by omega⟩ (fun b25 => ?_) (fun b25 => ?_)
            · have hlt : (sks n (f 2) ((sks n (f 2) a) + 1)) < n := by rcases Int.lt_or_le (sks n (f 2) ((sks n (f 2) a) + 1)) n with x | x; exact x; have := sg_ge (b := f 2) x; omega
              refine Rx.walk 4 (pc' := 46) (L' := [some (.ref 5), some (.ref 1), some (.int (iz t)), some (.int (iz i)), some (.int (iz 1))]) (st' := [.int (iz 1), .int (iz (sks n (f 2) ((sks n (f 2) a) + 1))), .ref 1]) (h' := cxH (u2 (u2 (u2 (u2 (u2 z 1 1 n) 1 2 (sks n (f 2) ((sks n (f 2) a) + 1))) 5 2 s.1) 5 3 s.2.1) 5 4 s.2.2) f rc tl) rfl ?_
              refine Rx.iadd rfl ?_
              refine Rx.walk 4 (pc' := 54) (L' := [some (.ref 5), some (.ref 1), some (.int (iz t)), some (.int (iz i)), some (.int (iz 1))]) (st' := [.ref 1, .int (iz 1), .ref 5]) (h' := cxH (u2 (u2 (u2 (u2 (u2 z 1 1 n) 1 2 ((sks n (f 2) ((sks n (f 2) a) + 1)) + 1)) 5 2 s.1) 5 3 s.2.1) 5 4 s.2.2) f rc tl) rfl ?_
              have uu26p := nmP_props (n := n) (b := (f 2)) (lo := 1) (hi := 5) (a := ((sks n (f 2) ((sks n (f 2) a) + 1)) + 1)) (by omega) (by omega)
              refine Rx.callx (m' := m_X7_readsPart) (as := [.ref 5, .int (iz 1), .ref 1]) (rest := []) rfl (x_readsPart1 _ (u2 (u2 (u2 (u2 (u2 z 1 1 n) 1 2 ((sks n (f 2) ((sks n (f 2) a) + 1)) + 1)) 5 2 s.1) 5 3 s.2.1) 5 4 s.2.2) f rc tl n ((sks n (f 2) ((sks n (f 2) a) + 1)) + 1) hT (by omega) (by omega)) (fun v28 h29 q30 => ?_)
              rcases q30 with ⟨x27, uu26, rfl, rfl⟩ | ⟨uu26, rfl, rfl⟩
              · change (nmP n (f 2) 1 5 ((sks n (f 2) ((sks n (f 2) a) + 1)) + 1)).2 = some x27 at uu26
                have uu26b := uu26p.2.2 x27 uu26
                refine Rx.walk 0 (pc' := 57) (L' := [some (.ref 5), some (.ref 1), some (.int (iz t)), some (.int (iz i)), some (.int (iz 1))]) (st' := [.int (iz 1)]) (h' := cxH (u2 (u2 (u2 (u2 (u2 z 1 1 n) 1 2 ((nmP n (f 2) 1 5 ((sks n (f 2) ((sks n (f 2) a) + 1)) + 1)).1)) 5 2 s.1) 5 3 x27) 5 4 s.2.2) f rc tl) rfl ?_
                refine Rx.ne1 rfl rfl ⟨by omega, by omega⟩ (fun b31 => ?_) (fun b31 => by omega)
                refine Rx.walk 2 (pc' := 65) (L' := [some (.ref 5), some (.ref 1), some (.int (iz t)), some (.int (iz i)), some (.int (iz 1))]) (st' := [.int (iz 1), .int (iz 1)]) (h' := cxH (u2 (u2 (u2 (u2 (u2 z 1 1 n) 1 2 ((nmP n (f 2) 1 5 ((sks n (f 2) ((sks n (f 2) a) + 1)) + 1)).1)) 5 2 s.1) 5 3 x27) 5 4 s.2.2) f rc tl) rfl ?_
                refine Rx.iadd rfl ?_
                refine Rx.walk 0 (pc' := 66) (L' := [some (.ref 5), some (.ref 1), some (.int (iz t)), some (.int (iz i)), some (.int (iz 1))]) (st' := [.int (iz 2)]) (h' := cxH (u2 (u2 (u2 (u2 (u2 z 1 1 n) 1 2 ((nmP n (f 2) 1 5 ((sks n (f 2) ((sks n (f 2) a) + 1)) + 1)).1)) 5 2 s.1) 5 3 x27) 5 4 s.2.2) f rc tl) rfl ?_
                refine Rx.walk 1 (pc' := 67) (L' := [some (.ref 5), some (.ref 1), some (.int (iz 2)), some (.int (iz i)), some (.int (iz 1))]) (st' := []) (h' := cxH (u2 (u2 (u2 (u2 (u2 z 1 1 n) 1 2 ((nmP n (f 2) 1 5 ((sks n (f 2) ((sks n (f 2) a) + 1)) + 1)).1)) 5 2 s.1) 5 3 x27) 5 4 s.2.2) f rc tl) rfl ?_
                refine Rx.iinc (b := 1) rfl rfl rfl ?_
                refine Rx.walk 0 (pc' := 70) (L' := [some (.ref 5), some (.ref 1), some (.int (iz 2)), some (.int (iz (i + 1))), some (.int (iz 1))]) (st' := []) (h' := cxH (u2 (u2 (u2 (u2 (u2 z 1 1 n) 1 2 ((nmP n (f 2) 1 5 ((sks n (f 2) ((sks n (f 2) a) + 1)) + 1)).1)) 5 2 s.1) 5 3 x27) 5 4 s.2.2) f rc tl) rfl ?_
                refine Rx.walk 1 (pc' := 4) (L' := [some (.ref 5), some (.ref 1), some (.int (iz 2)), some (.int (iz (i + 1))), some (.int (iz 1))]) (st' := []) (h' := cxH (u2 (u2 (u2 (u2 (u2 z 1 1 n) 1 2 ((nmP n (f 2) 1 5 ((sks n (f 2) ((sks n (f 2) a) + 1)) + 1)).1)) 5 2 s.1) 5 3 x27) 5 4 s.2.2) f rc tl) rfl ?_
                obtain ⟨j, rfl⟩ : ∃ j, k = j + 1 := ⟨k - 1, by omega⟩
                rw [ptP_s ⟨by omega, uu3⟩ uu13.2 (by omega) uu26]
                exact ih j (by omega) 2 (ptS s 1 x27) (nmP n (f 2) 1 5 ((sks n (f 2) ((sks n (f 2) a) + 1)) + 1)).1 (i + 1) _ (by omega) (by omega) (by omega) (by omega) (by omega) (by omega)
              · change (nmP n (f 2) 1 5 ((sks n (f 2) ((sks n (f 2) a) + 1)) + 1)).2 = none at uu26
                refine Rx.walk 0 (pc' := 57) (L' := [some (.ref 5), some (.ref 1), some (.int (iz t)), some (.int (iz i)), some (.int (iz 1))]) (st' := [.int (iz 0)]) (h' := cxH (u2 (u2 (u2 (u2 (u2 z 1 1 n) 1 2 ((nmP n (f 2) 1 5 ((sks n (f 2) ((sks n (f 2) a) + 1)) + 1)).1)) 5 2 s.1) 5 3 s.2.1) 5 4 s.2.2) f rc tl) rfl ?_
                refine Rx.ne1 rfl rfl ⟨by omega, by omega⟩ (fun b32 => by omega) (fun b32 => ?_)
                refine Rx.walk 1 (pc' := 61) (L' := [some (.ref 5), some (.ref 1), some (.int (iz t)), some (.int (iz i)), some (.int (iz 1))]) (st' := [.int (iz 0)]) (h' := cxH (u2 (u2 (u2 (u2 (u2 z 1 1 n) 1 2 ((nmP n (f 2) 1 5 ((sks n (f 2) ((sks n (f 2) a) + 1)) + 1)).1)) 5 2 s.1) 5 3 s.2.1) 5 4 s.2.2) f rc tl) rfl ?_
                refine Rx.ret rfl ?_
                obtain ⟨j, rfl⟩ : ∃ j, k = j + 1 := ⟨k - 1, by omega⟩
                rw [ptP_n ⟨by omega, uu3⟩ uu13.2 (by omega) uu26]
                exact Or.inr ⟨s, rfl, rfl, rfl⟩
            · refine Rx.walk 1 (pc' := 39) (L' := [some (.ref 5), some (.ref 1), some (.int (iz t)), some (.int (iz i)), some (.int (iz 1))]) (st' := [.int (iz 0)]) (h' := cxH (u2 (u2 (u2 (u2 (u2 z 1 1 n) 1 2 (sks n (f 2) ((sks n (f 2) a) + 1))) 5 2 s.1) 5 3 s.2.1) 5 4 s.2.2) f rc tl) rfl ?_
              refine Rx.ret rfl ?_
              obtain ⟨j, rfl⟩ : ∃ j, k = j + 1 := ⟨k - 1, by omega⟩
              rw [ptP_w ⟨by omega, uu3⟩ (by rw [uu13.2]; omega)]
              exact Or.inr ⟨s, rfl, rfl, rfl⟩
          · refine Rx.callx (m' := m_X7_partOf) (as := [.int (iz (sg n (f 2) (sks n (f 2) ((sks n (f 2) a) + 1))))]) (rest := []) rfl (x_partOf _ _ (sg n (f 2) (sks n (f 2) ((sks n (f 2) a) + 1))) ⟨by omega, by omega⟩) (fun v14 h15 q16 => ?_)
            obtain ⟨rfl, rfl⟩ := q16
            rw [uu13.2]
            refine Rx.walk 0 (pc' := 30) (L' := [some (.ref 5), some (.ref 1), some (.int (iz t)), some (.int (iz i)), w4]) (st' := [.int (iz 2)]) (h' := cxH (u2 (u2 (u2 (u2 (u2 z 1 1 n) 1 2 (sks n (f 2) ((sks n (f 2) a) + 1))) 5 2 s.1) 5 3 s.2.1) 5 4 s.2.2) f rc tl) rfl ?_
            refine Rx.walk 3 (pc' := 35) (L' := [some (.ref 5), some (.ref 1), some (.int (iz t)), some (.int (iz i)), some (.int (iz 2))]) (st' := [.int (iz t), .int (iz 2)]) (h' := cxH (u2 (u2 (u2 (u2 (u2 z 1 1 n) 1 2 (sks n (f 2) ((sks n (f 2) a) + 1))) 5 2 s.1) 5 3 s.2.1) 5 4 s.2.2) f rc tl) rfl ?_
            refine Rx.ge2 rfl rfl ⟨by omega, by omega⟩ ⟨by omega, by omega⟩ (fun b33 => ?_) (fun b33 => ?_)
            · have hlt : (sks n (f 2) ((sks n (f 2) a) + 1)) < n := by rcases Int.lt_or_le (sks n (f 2) ((sks n (f 2) a) + 1)) n with x | x; exact x; have := sg_ge (b := f 2) x; omega
              refine Rx.walk 4 (pc' := 46) (L' := [some (.ref 5), some (.ref 1), some (.int (iz t)), some (.int (iz i)), some (.int (iz 2))]) (st' := [.int (iz 1), .int (iz (sks n (f 2) ((sks n (f 2) a) + 1))), .ref 1]) (h' := cxH (u2 (u2 (u2 (u2 (u2 z 1 1 n) 1 2 (sks n (f 2) ((sks n (f 2) a) + 1))) 5 2 s.1) 5 3 s.2.1) 5 4 s.2.2) f rc tl) rfl ?_
              refine Rx.iadd rfl ?_
              refine Rx.walk 4 (pc' := 54) (L' := [some (.ref 5), some (.ref 1), some (.int (iz t)), some (.int (iz i)), some (.int (iz 2))]) (st' := [.ref 1, .int (iz 2), .ref 5]) (h' := cxH (u2 (u2 (u2 (u2 (u2 z 1 1 n) 1 2 ((sks n (f 2) ((sks n (f 2) a) + 1)) + 1)) 5 2 s.1) 5 3 s.2.1) 5 4 s.2.2) f rc tl) rfl ?_
              have uu34p := nmP_props (n := n) (b := (f 2)) (lo := 0) (hi := 1) (a := ((sks n (f 2) ((sks n (f 2) a) + 1)) + 1)) (by omega) (by omega)
              refine Rx.callx (m' := m_X7_readsPart) (as := [.ref 5, .int (iz 2), .ref 1]) (rest := []) rfl (x_readsPart2 _ (u2 (u2 (u2 (u2 (u2 z 1 1 n) 1 2 ((sks n (f 2) ((sks n (f 2) a) + 1)) + 1)) 5 2 s.1) 5 3 s.2.1) 5 4 s.2.2) f rc tl n ((sks n (f 2) ((sks n (f 2) a) + 1)) + 1) hT (by omega) (by omega)) (fun v36 h37 q38 => ?_)
              rcases q38 with ⟨x35, uu34, rfl, rfl⟩ | ⟨uu34, rfl, rfl⟩
              · change (nmP n (f 2) 0 1 ((sks n (f 2) ((sks n (f 2) a) + 1)) + 1)).2 = some x35 at uu34
                have uu34b := uu34p.2.2 x35 uu34
                refine Rx.walk 0 (pc' := 57) (L' := [some (.ref 5), some (.ref 1), some (.int (iz t)), some (.int (iz i)), some (.int (iz 2))]) (st' := [.int (iz 1)]) (h' := cxH (u2 (u2 (u2 (u2 (u2 z 1 1 n) 1 2 ((nmP n (f 2) 0 1 ((sks n (f 2) ((sks n (f 2) a) + 1)) + 1)).1)) 5 2 s.1) 5 3 s.2.1) 5 4 x35) f rc tl) rfl ?_
                refine Rx.ne1 rfl rfl ⟨by omega, by omega⟩ (fun b39 => ?_) (fun b39 => by omega)
                refine Rx.walk 2 (pc' := 65) (L' := [some (.ref 5), some (.ref 1), some (.int (iz t)), some (.int (iz i)), some (.int (iz 2))]) (st' := [.int (iz 1), .int (iz 2)]) (h' := cxH (u2 (u2 (u2 (u2 (u2 z 1 1 n) 1 2 ((nmP n (f 2) 0 1 ((sks n (f 2) ((sks n (f 2) a) + 1)) + 1)).1)) 5 2 s.1) 5 3 s.2.1) 5 4 x35) f rc tl) rfl ?_
                refine Rx.iadd rfl ?_
                refine Rx.walk 0 (pc' := 66) (L' := [some (.ref 5), some (.ref 1), some (.int (iz t)), some (.int (iz i)), some (.int (iz 2))]) (st' := [.int (iz 3)]) (h' := cxH (u2 (u2 (u2 (u2 (u2 z 1 1 n) 1 2 ((nmP n (f 2) 0 1 ((sks n (f 2) ((sks n (f 2) a) + 1)) + 1)).1)) 5 2 s.1) 5 3 s.2.1) 5 4 x35) f rc tl) rfl ?_
                refine Rx.walk 1 (pc' := 67) (L' := [some (.ref 5), some (.ref 1), some (.int (iz 3)), some (.int (iz i)), some (.int (iz 2))]) (st' := []) (h' := cxH (u2 (u2 (u2 (u2 (u2 z 1 1 n) 1 2 ((nmP n (f 2) 0 1 ((sks n (f 2) ((sks n (f 2) a) + 1)) + 1)).1)) 5 2 s.1) 5 3 s.2.1) 5 4 x35) f rc tl) rfl ?_
                refine Rx.iinc (b := 1) rfl rfl rfl ?_
                refine Rx.walk 0 (pc' := 70) (L' := [some (.ref 5), some (.ref 1), some (.int (iz 3)), some (.int (iz (i + 1))), some (.int (iz 2))]) (st' := []) (h' := cxH (u2 (u2 (u2 (u2 (u2 z 1 1 n) 1 2 ((nmP n (f 2) 0 1 ((sks n (f 2) ((sks n (f 2) a) + 1)) + 1)).1)) 5 2 s.1) 5 3 s.2.1) 5 4 x35) f rc tl) rfl ?_
                refine Rx.walk 1 (pc' := 4) (L' := [some (.ref 5), some (.ref 1), some (.int (iz 3)), some (.int (iz (i + 1))), some (.int (iz 2))]) (st' := []) (h' := cxH (u2 (u2 (u2 (u2 (u2 z 1 1 n) 1 2 ((nmP n (f 2) 0 1 ((sks n (f 2) ((sks n (f 2) a) + 1)) + 1)).1)) 5 2 s.1) 5 3 s.2.1) 5 4 x35) f rc tl) rfl ?_
                obtain ⟨j, rfl⟩ : ∃ j, k = j + 1 := ⟨k - 1, by omega⟩
                rw [ptP_s ⟨by omega, uu3⟩ uu13.2 (by omega) uu34]
                exact ih j (by omega) 3 (ptS s 2 x35) (nmP n (f 2) 0 1 ((sks n (f 2) ((sks n (f 2) a) + 1)) + 1)).1 (i + 1) _ (by omega) (by omega) (by omega) (by omega) (by omega) (by omega)
              · change (nmP n (f 2) 0 1 ((sks n (f 2) ((sks n (f 2) a) + 1)) + 1)).2 = none at uu34
                refine Rx.walk 0 (pc' := 57) (L' := [some (.ref 5), some (.ref 1), some (.int (iz t)), some (.int (iz i)), some (.int (iz 2))]) (st' := [.int (iz 0)]) (h' := cxH (u2 (u2 (u2 (u2 (u2 z 1 1 n) 1 2 ((nmP n (f 2) 0 1 ((sks n (f 2) ((sks n (f 2) a) + 1)) + 1)).1)) 5 2 s.1) 5 3 s.2.1) 5 4 s.2.2) f rc tl) rfl ?_
                refine Rx.ne1 rfl rfl ⟨by omega, by omega⟩ (fun b40 => by omega) (fun b40 => ?_)
                refine Rx.walk 1 (pc' := 61) (L' := [some (.ref 5), some (.ref 1), some (.int (iz t)), some (.int (iz i)), some (.int (iz 2))]) (st' := [.int (iz 0)]) (h' := cxH (u2 (u2 (u2 (u2 (u2 z 1 1 n) 1 2 ((nmP n (f 2) 0 1 ((sks n (f 2) ((sks n (f 2) a) + 1)) + 1)).1)) 5 2 s.1) 5 3 s.2.1) 5 4 s.2.2) f rc tl) rfl ?_
                refine Rx.ret rfl ?_
                obtain ⟨j, rfl⟩ : ∃ j, k = j + 1 := ⟨k - 1, by omega⟩
                rw [ptP_n ⟨by omega, uu3⟩ uu13.2 (by omega) uu34]
                exact Or.inr ⟨s, rfl, rfl, rfl⟩
            · refine Rx.walk 1 (pc' := 39) (L' := [some (.ref 5), some (.ref 1), some (.int (iz t)), some (.int (iz i)), some (.int (iz 2))]) (st' := [.int (iz 0)]) (h' := cxH (u2 (u2 (u2 (u2 (u2 z 1 1 n) 1 2 (sks n (f 2) ((sks n (f 2) a) + 1))) 5 2 s.1) 5 3 s.2.1) 5 4 s.2.2) f rc tl) rfl ?_
              refine Rx.ret rfl ?_
              obtain ⟨j, rfl⟩ : ∃ j, k = j + 1 := ⟨k - 1, by omega⟩
              rw [ptP_w ⟨by omega, uu3⟩ (by rw [uu13.2]; omega)]
              exact Or.inr ⟨s, rfl, rfl, rfl⟩
          · refine Rx.callx (m' := m_X7_partOf) (as := [.int (iz (sg n (f 2) (sks n (f 2) ((sks n (f 2) a) + 1))))]) (rest := []) rfl (x_partOf _ _ (sg n (f 2) (sks n (f 2) ((sks n (f 2) a) + 1))) ⟨by omega, by omega⟩) (fun v14 h15 q16 => ?_)
            obtain ⟨rfl, rfl⟩ := q16
            rw [uu13.2.2.2]
            refine Rx.walk 0 (pc' := 30) (L' := [some (.ref 5), some (.ref 1), some (.int (iz t)), some (.int (iz i)), w4]) (st' := [.int (iz (-1))]) (h' := cxH (u2 (u2 (u2 (u2 (u2 z 1 1 n) 1 2 (sks n (f 2) ((sks n (f 2) a) + 1))) 5 2 s.1) 5 3 s.2.1) 5 4 s.2.2) f rc tl) rfl ?_
            refine Rx.walk 3 (pc' := 35) (L' := [some (.ref 5), some (.ref 1), some (.int (iz t)), some (.int (iz i)), some (.int (iz (-1)))]) (st' := [.int (iz t), .int (iz (-1))]) (h' := cxH (u2 (u2 (u2 (u2 (u2 z 1 1 n) 1 2 (sks n (f 2) ((sks n (f 2) a) + 1))) 5 2 s.1) 5 3 s.2.1) 5 4 s.2.2) f rc tl) rfl ?_
            refine Rx.ge2 rfl rfl ⟨by omega, by omega⟩ ⟨by omega, by omega⟩ (fun b41 => by omega) (fun b41 => ?_)
            refine Rx.walk 1 (pc' := 39) (L' := [some (.ref 5), some (.ref 1), some (.int (iz t)), some (.int (iz i)), some (.int (iz (-1)))]) (st' := [.int (iz 0)]) (h' := cxH (u2 (u2 (u2 (u2 (u2 z 1 1 n) 1 2 (sks n (f 2) ((sks n (f 2) a) + 1))) 5 2 s.1) 5 3 s.2.1) 5 4 s.2.2) f rc tl) rfl ?_
            refine Rx.ret rfl ?_
            obtain ⟨j, rfl⟩ : ∃ j, k = j + 1 := ⟨k - 1, by omega⟩
            rw [ptP_w ⟨by omega, uu3⟩ (by rw [uu13.2.2.2]; omega)]
            exact Or.inr ⟨s, rfl, rfl, rfl⟩
        · change sg n (f 2) (sks n (f 2) a) ≠ 59 at uu3
          refine Rx.walk 0 (pc' := 20) (L' := [some (.ref 5), some (.ref 1), some (.int (iz t)), some (.int (iz i)), w4]) (st' := [.int (iz 0)]) (h' := cxH (u2 (u2 (u2 (u2 (u2 z 1 1 n) 1 2 (sks n (f 2) a)) 5 2 s.1) 5 3 s.2.1) 5 4 s.2.2) f rc tl) rfl ?_
          refine Rx.eq1 rfl rfl ⟨by omega, by omega⟩ (fun b42 => ?_) (fun b42 => by omega)
          refine Rx.walk 1 (pc' := 74) (L' := [some (.ref 5), some (.ref 1), some (.int (iz t)), some (.int (iz i)), w4]) (st' := [.int (iz 1)]) (h' := cxH (u2 (u2 (u2 (u2 (u2 z 1 1 n) 1 2 (sks n (f 2) a)) 5 2 s.1) 5 3 s.2.1) 5 4 s.2.2) f rc tl) rfl ?_
          refine Rx.ret rfl ?_
          rw [ptP_e (by omega)]
          exact Or.inl ⟨s, _, rfl, rfl, by omega, by omega, sks_sks _ _ _, rfl⟩

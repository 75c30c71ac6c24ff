/-! the model reads a shop's text: values and all (printed by wip/whole/genshopm2.py) -/
set_option maxRecDepth 100000 in
set_option maxHeartbeats 4000000 in
theorem r_vals_l (d : Nat) (z : Nat → Int) (zl : Nat → Int) (f : Nat → Int → Int) (fl : Nat → Int → Int) (n : Int) (b : Int → Int) (hT : tOK n b) (hM : mOK n 0 160 (f 1) b) (gw : Int → Int) (hgw : (gw 0, gw 1, gw 2) = ((1, 5, 1) : Int × Int × Int)) (P : Option Value → AmH → Prop) : ∀ (k : Nat), 1 ≤ k → k ≤ 4 → ∀ (K : Int) (gm : Int → Int) (la a : Int) (w2 : Option Value), K + k = 4 → (K = 0 → la = 0) → (K ≠ 0 → la = gm (K - 1)) → 0 ≤ la → la ≤ 99 → 0 ≤ a → a ≤ n → (hP : ∀ (K' : Int) (gm' gw' : Int → Int) (a' fa' : Int), 0 ≤ K' → K' ≤ 4 → 0 ≤ a' → a' ≤ n → ((∃ l : List Int, (vlP n b k la a).2 = some l ∧ K' = K + l.length ∧ lst gm' K l ∧ (∀ i, i < K → gm' i = gm i) ∧ (((ptP n b 3 0 (1, 5, 1) (vlP n b k la a).1).2 = some (gw' 0, gw' 1, gw' 2) ∧ (sg n b (ptP n b 3 0 (1, 5, 1) (vlP n b k la a).1).1 = -1 → fa' = -1) ∧ (sg n b (ptP n b 3 0 (1, 5, 1) (vlP n b k la a).1).1 ≠ -1 → fa' = (ptP n b 3 0 (1, 5, 1) (vlP n b k la a).1).1)) ∨ ((ptP n b 3 0 (1, 5, 1) (vlP n b k la a).1).2 = none ∧ fa' = (ptP n b 3 0 (1, 5, 1) (vlP n b k la a).1).1))) ∨ ((vlP n b k la a).2 = none ∧ fa' = (vlP n b k la a).1)) → P none (cmH (u1 (u1 (u1 (u1 (u1 z 8 0) 9 n) 10 a') 11 fa') 25 K') zl (uf (uf f 6 gm') 7 gw') fl 1)) → Rx (d + 2) m_X12_readShop 46 [some (.ref 0), some (.int (iz 1)), w2, none, none] [] (cmH (u1 (u1 (u1 (u1 (u1 z 8 0) 9 n) 10 a) 11 (-1)) 25 K) zl (uf (uf f 6 gm) 7 gw) fl 1) P := by
  have hn := hT.2.1
  intro k
  induction k using Nat.strongRecOn with
  | ind k ih =>
    intro hk1 hk4 K gm la a w2 hk hla1 hla2 hlo0 hlo1 h0 h1 hP
    refine Rx.walk 1 (pc' := 47) (L' := [some (.ref 0), some (.int (iz 1)), w2, none, none]) (st' := [.int (iz 1)]) (h' := cmH (u1 (u1 (u1 (u1 (u1 z 8 0) 9 n) 10 a) 11 (-1)) 25 K) zl (uf (uf f 6 gm) 7 gw) fl 1) rfl ?_
    refine Rx.eq1 rfl rfl ⟨by omega, by omega⟩ (fun b1 => by omega) (fun b1 => ?_)
    refine Rx.walk 3 (pc' := 55) (L' := [some (.ref 0), some (.int (iz 1)), w2, none, none]) (st' := [.int (iz K), .ref 0]) (h' := cmH (u1 (u1 (u1 (u1 (u1 z 8 0) 9 n) 10 a) 11 (-1)) 25 K) zl (uf (uf f 6 gm) 7 gw) fl 1) rfl ?_
    have hla := hla1
    have hlb := hla2
    refine Rx.ne1 rfl rfl ⟨by omega, by omega⟩ (fun b2 => ?_) (fun b2 => ?_)
    · refine Rx.walk 5 (pc' := 71) (L' := [some (.ref 0), some (.int (iz 1)), w2, none, none]) (st' := [.int (iz 1), .int (iz K), .ref 6, .ref 0]) (h' := cmH (u1 (u1 (u1 (u1 (u1 z 8 0) 9 n) 10 a) 11 (-1)) 25 K) zl (uf (uf f 6 gm) 7 gw) fl 1) rfl ?_
      refine Rx.isub rfl ?_
      refine Rx.ial rfl rfl (by omega) (by omega) (by omega) ?_
      have hlc := hla2 (by omega)
      refine Rx.walk 1 (pc' := 74) (L' := [some (.ref 0), some (.int (iz 1)), w2, none, none]) (st' := [.int (iz 1), .int (iz (gm (K - 1))), .ref 0]) (h' := cmH (u1 (u1 (u1 (u1 (u1 z 8 0) 9 n) 10 a) 11 (-1)) 25 K) zl (uf (uf f 6 gm) 7 gw) fl 1) rfl ?_
      refine Rx.iadd rfl ?_
      rw [show ((gm (K - 1)) + 1) = la + 1 by omega]
      refine Rx.walk 1 (pc' := 77) (L' := [some (.ref 0), some (.int (iz 1)), w2, none, none]) (st' := [.int (iz 99), .int (iz (la + 1)), .ref 0]) (h' := cmH (u1 (u1 (u1 (u1 (u1 z 8 0) 9 n) 10 a) 11 (-1)) 25 K) zl (uf (uf f 6 gm) 7 gw) fl 1) rfl ?_
      have uu3p := nmP_props (n := n) (b := b) (lo := (la + 1)) (hi := 99) (a := a) (by omega) (by omega)
      refine Rx.callx (m' := m_X12_number) (as := [.ref 0, .int (iz (la + 1)), .int (iz 99)]) (rest := []) rfl (r_number _ (u1 (u1 (u1 (u1 (u1 z 8 0) 9 n) 10 a) 11 (-1)) 25 K) zl (uf (uf f 6 gm) 7 gw) fl n a 0 (la + 1) 99 b hT hM (by omega) (by omega) ⟨by omega, by omega⟩ ⟨by omega, by omega⟩) (fun v5 h6 q7 => ?_)
      rcases q7 with ⟨x4, uu3, rfl, rfl⟩ | ⟨uu3, rfl, rfl⟩
      · have uu3b := uu3p.2.2 x4 uu3
        refine Rx.walk 0 (pc' := 80) (L' := [some (.ref 0), some (.int (iz 1)), w2, none, none]) (st' := [.int (iz x4)]) (h' := cmH (u1 (u1 (u1 (u1 (u1 z 8 0) 9 n) 10 ((nmP n b (la + 1) 99 a).1)) 11 (-1)) 25 K) zl (uf (uf f 6 gm) 7 gw) fl 1) rfl ?_
        refine Rx.walk 4 (pc' := 86) (L' := [some (.ref 0), some (.int (iz 1)), some (.int (iz x4)), none, none]) (st' := [.int (iz (-1)), .int (iz (-1))]) (h' := cmH (u1 (u1 (u1 (u1 (u1 z 8 0) 9 n) 10 ((nmP n b (la + 1) 99 a).1)) 11 (-1)) 25 K) zl (uf (uf f 6 gm) 7 gw) fl 1) rfl ?_
        refine Rx.eq2 rfl rfl ⟨by omega, by omega⟩ ⟨by omega, by omega⟩ (fun b8 => ?_) (fun b8 => by omega)
        refine Rx.walk 5 (pc' := 99) (L' := [some (.ref 0), some (.int (iz 1)), some (.int (iz x4)), none, none]) (st' := [.int (iz x4), .int (iz K), .ref 6]) (h' := cmH (u1 (u1 (u1 (u1 (u1 z 8 0) 9 n) 10 ((nmP n b (la + 1) 99 a).1)) 11 (-1)) 25 K) zl (uf (uf f 6 gm) 7 gw) fl 1) rfl ?_
        refine Rx.ias (h' := cmH (u1 (u1 (u1 (u1 (u1 z 8 0) 9 n) 10 ((nmP n b (la + 1) 99 a).1)) 11 (-1)) 25 K) zl (uf (uf f 6 (iu gm K x4)) 7 gw) fl 1) rfl rfl (by omega) (by omega) (by omega) rfl ?_
        refine Rx.walk 4 (pc' := 106) (L' := [some (.ref 0), some (.int (iz 1)), some (.int (iz x4)), none, none]) (st' := [.int (iz 1), .int (iz K), .ref 0]) (h' := cmH (u1 (u1 (u1 (u1 (u1 z 8 0) 9 n) 10 ((nmP n b (la + 1) 99 a).1)) 11 (-1)) 25 K) zl (uf (uf f 6 (iu gm K x4)) 7 gw) fl 1) rfl ?_
        refine Rx.iadd rfl ?_
        refine Rx.walk 2 (pc' := 111) (L' := [some (.ref 0), some (.int (iz 1)), some (.int (iz x4)), none, none]) (st' := [.ref 0]) (h' := cmH (u1 (u1 (u1 (u1 (u1 z 8 0) 9 n) 10 ((nmP n b (la + 1) 99 a).1)) 11 (-1)) 25 (K + 1)) zl (uf (uf f 6 (iu gm K x4)) 7 gw) fl 1) rfl ?_
        refine Rx.callx (m' := m_X12_look) (as := [.ref 0]) (rest := []) rfl (r_look1 _ (u1 (u1 (u1 (u1 (u1 z 8 0) 9 n) 10 ((nmP n b (la + 1) 99 a).1)) 11 (-1)) 25 (K + 1)) zl (uf (uf f 6 (iu gm K x4)) 7 gw) fl n ((nmP n b (la + 1) 99 a).1) 0 (-1) b hT hM (by omega) (by omega)) (fun v10 h11 q12 => ?_)
        obtain ⟨rfl, rfl⟩ := q12
        have k9a := sks_le n b ((nmP n b (la + 1) 99 a).1)
        have k9b := sks_n (n := n) b (a := (nmP n b (la + 1) 99 a).1) (by omega)
        have k9c := sg_bI hT (a := (sks n b ((nmP n b (la + 1) 99 a).1))) (by omega)
        refine Rx.walk 0 (pc' := 114) (L' := [some (.ref 0), some (.int (iz 1)), some (.int (iz x4)), none, none]) (st' := [.int (iz (sg n b (sks n b ((nmP n b (la + 1) 99 a).1))))]) (h' := cmH (u1 (u1 (u1 (u1 (u1 z 8 0) 9 n) 10 (sks n b ((nmP n b (la + 1) 99 a).1))) 11 (-1)) 25 (K + 1)) zl (uf (uf f 6 (iu gm K x4)) 7 gw) fl 1) rfl ?_
        refine Rx.walk 1 (pc' := 116) (L' := [some (.ref 0), some (.int (iz 1)), some (.int (iz x4)), none, none]) (st' := [.int (iz 44), .int (iz (sg n b (sks n b ((nmP n b (la + 1) 99 a).1))))]) (h' := cmH (u1 (u1 (u1 (u1 (u1 z 8 0) 9 n) 10 (sks n b ((nmP n b (la + 1) 99 a).1))) 11 (-1)) 25 (K + 1)) zl (uf (uf f 6 (iu gm K x4)) 7 gw) fl 1) rfl ?_
        refine Rx.ne2 rfl rfl ⟨by omega, by omega⟩ ⟨by omega, by omega⟩ (fun b13 => ?_) (fun b13 => ?_)
        · refine Rx.walk 3 (pc' := 126) (L' := [some (.ref 0), some (.int (iz 0)), some (.int (iz x4)), none, none]) (st' := [.int (iz 0)]) (h' := cmH (u1 (u1 (u1 (u1 (u1 z 8 0) 9 n) 10 (sks n b ((nmP n b (la + 1) 99 a).1))) 11 (-1)) 25 (K + 1)) zl (uf (uf f 6 (iu gm K x4)) 7 gw) fl 1) rfl ?_
          refine Rx.eq1 rfl rfl ⟨by omega, by omega⟩ (fun b14 => ?_) (fun b14 => by omega)
          refine Rx.walk 3 (pc' := 147) (L' := [some (.ref 0), some (.int (iz 0)), some (.int (iz x4)), none, none]) (st' := [.int (iz (-1)), .int (iz (-1))]) (h' := cmH (u1 (u1 (u1 (u1 (u1 z 8 0) 9 n) 10 (sks n b ((nmP n b (la + 1) 99 a).1))) 11 (-1)) 25 (K + 1)) zl (uf (uf f 6 (iu gm K x4)) 7 gw) fl 1) rfl ?_
          refine Rx.eq2 rfl rfl ⟨by omega, by omega⟩ ⟨by omega, by omega⟩ (fun b15 => ?_) (fun b15 => by omega)
          refine Rx.walk 1 (pc' := 152) (L' := [some (.ref 0), some (.int (iz 0)), some (.int (iz x4)), none, none]) (st' := [.int (iz 0)]) (h' := cmH (u1 (u1 (u1 (u1 (u1 z 8 0) 9 n) 10 (sks n b ((nmP n b (la + 1) 99 a).1))) 11 (-1)) 25 (K + 1)) zl (uf (uf f 6 (iu gm K x4)) 7 gw) fl 1) rfl ?_
          refine Rx.eq1 rfl rfl ⟨by omega, by omega⟩ (fun b16 => ?_) (fun b16 => by omega)
          refine Rx.walk 2 (pc' := 47) (L' := [some (.ref 0), some (.int (iz 0)), some (.int (iz x4)), none, none]) (st' := [.int (iz 0)]) (h' := cmH (u1 (u1 (u1 (u1 (u1 z 8 0) 9 n) 10 (sks n b ((nmP n b (la + 1) 99 a).1))) 11 (-1)) 25 (K + 1)) zl (uf (uf f 6 (iu gm K x4)) 7 gw) fl 1) rfl ?_
          refine Rx.eq1 rfl rfl ⟨by omega, by omega⟩ (fun b17 => ?_) (fun b17 => by omega)
          refine Rx.walk 2 (pc' := 170) (L' := [some (.ref 0), some (.int (iz 0)), some (.int (iz 0)), none, none]) (st' := []) (h' := cmH (u1 (u1 (u1 (u1 (u1 z 8 0) 9 n) 10 (sks n b ((nmP n b (la + 1) 99 a).1))) 11 (-1)) 25 (K + 1)) zl (uf (uf f 6 (iu gm K x4)) 7 gw) fl 1) rfl ?_
          by_cases hk1 : k = 1
          · subst hk1
            have e := vlP_4 uu3
            refine r_parts_l d z zl f fl n b hT hM _ _ P 3 0 gw _ _ none none (by omega) (by omega) (by omega) (by omega) (by omega) (fun gw' a' fa' q1 q2 q3 => ?_)
            refine hP (K + 1) (iu gm K x4) gw' a' fa' (by omega) (by omega) q1 q2 (Or.inl ?_)
            rw [hgw, ptP_sk] at q3
            rw [e]
            exact ⟨_, rfl, by simp, ⟨iu_at _ _ _, trivial⟩, fun i hi => iu_ne _ _ (by omega), q3⟩
          · obtain ⟨j, rfl⟩ : ∃ j, k = j + 1 := ⟨k - 1, by omega⟩
            have e := vlP_e (k := j) uu3 (by omega) (by omega)
            refine r_parts_l d z zl f fl n b hT hM _ _ P 3 0 gw _ _ none none (by omega) (by omega) (by omega) (by omega) (by omega) (fun gw' a' fa' q1 q2 q3 => ?_)
            refine hP (K + 1) (iu gm K x4) gw' a' fa' (by omega) (by omega) q1 q2 (Or.inl ?_)
            rw [hgw] at q3
            rw [e]
            exact ⟨_, rfl, by simp, ⟨iu_at _ _ _, trivial⟩, fun i hi => iu_ne _ _ (by omega), q3⟩
        · refine Rx.walk 4 (pc' := 126) (L' := [some (.ref 0), some (.int (iz 1)), some (.int (iz x4)), none, none]) (st' := [.int (iz 1)]) (h' := cmH (u1 (u1 (u1 (u1 (u1 z 8 0) 9 n) 10 (sks n b ((nmP n b (la + 1) 99 a).1))) 11 (-1)) 25 (K + 1)) zl (uf (uf f 6 (iu gm K x4)) 7 gw) fl 1) rfl ?_
          refine Rx.eq1 rfl rfl ⟨by omega, by omega⟩ (fun b18 => by omega) (fun b18 => ?_)
          refine Rx.walk 3 (pc' := 134) (L' := [some (.ref 0), some (.int (iz 1)), some (.int (iz x4)), none, none]) (st' := [.int (iz 4), .int (iz (K + 1))]) (h' := cmH (u1 (u1 (u1 (u1 (u1 z 8 0) 9 n) 10 (sks n b ((nmP n b (la + 1) 99 a).1))) 11 (-1)) 25 (K + 1)) zl (uf (uf f 6 (iu gm K x4)) 7 gw) fl 1) rfl ?_
          refine Rx.ne2 rfl rfl ⟨by omega, by omega⟩ ⟨by omega, by omega⟩ (fun b19 => ?_) (fun b19 => ?_)
          · refine Rx.walk 3 (pc' := 147) (L' := [some (.ref 0), some (.int (iz 1)), some (.int (iz x4)), none, none]) (st' := [.int (iz (-1)), .int (iz (-1))]) (h' := cmH (u1 (u1 (u1 (u1 (u1 z 8 0) 9 n) 10 (sks n b ((nmP n b (la + 1) 99 a).1))) 11 (-1)) 25 (K + 1)) zl (uf (uf f 6 (iu gm K x4)) 7 gw) fl 1) rfl ?_
            refine Rx.eq2 rfl rfl ⟨by omega, by omega⟩ ⟨by omega, by omega⟩ (fun b20 => ?_) (fun b20 => by omega)
            refine Rx.walk 1 (pc' := 152) (L' := [some (.ref 0), some (.int (iz 1)), some (.int (iz x4)), none, none]) (st' := [.int (iz 1)]) (h' := cmH (u1 (u1 (u1 (u1 (u1 z 8 0) 9 n) 10 (sks n b ((nmP n b (la + 1) 99 a).1))) 11 (-1)) 25 (K + 1)) zl (uf (uf f 6 (iu gm K x4)) 7 gw) fl 1) rfl ?_
            refine Rx.eq1 rfl rfl ⟨by omega, by omega⟩ (fun b21 => by omega) (fun b21 => ?_)
            have hlt21 : (sks n b ((nmP n b (la + 1) 99 a).1)) < n := by rcases Int.lt_or_le (sks n b ((nmP n b (la + 1) 99 a).1)) n with x | x; exact x; have := sg_ge (b := b) x; omega
            refine Rx.walk 4 (pc' := 161) (L' := [some (.ref 0), some (.int (iz 1)), some (.int (iz x4)), none, none]) (st' := [.int (iz 1), .int (iz (sks n b ((nmP n b (la + 1) 99 a).1))), .ref 0]) (h' := cmH (u1 (u1 (u1 (u1 (u1 z 8 0) 9 n) 10 (sks n b ((nmP n b (la + 1) 99 a).1))) 11 (-1)) 25 (K + 1)) zl (uf (uf f 6 (iu gm K x4)) 7 gw) fl 1) rfl ?_
            refine Rx.iadd rfl ?_
            refine Rx.walk 2 (pc' := 46) (L' := [some (.ref 0), some (.int (iz 1)), some (.int (iz x4)), none, none]) (st' := []) (h' := cmH (u1 (u1 (u1 (u1 (u1 z 8 0) 9 n) 10 ((sks n b ((nmP n b (la + 1) 99 a).1)) + 1)) 11 (-1)) 25 (K + 1)) zl (uf (uf f 6 (iu gm K x4)) 7 gw) fl 1) rfl ?_
            obtain ⟨j, rfl⟩ : ∃ j, k = j + 1 := ⟨k - 1, by omega⟩
            have e := vlP_c (k := j) uu3 (by omega) (by omega)
            refine ih j (by omega) (by omega) (by omega) (K + 1) (iu gm K x4) x4 ((sks n b ((nmP n b (la + 1) 99 a).1)) + 1) _ (by omega) (fun x => by omega) (fun x => by rw [show K + 1 - 1 = K by omega]; exact (iu_at _ _ _).symm) (by omega) (by omega) (by omega) (by omega) (fun K' gm' gw' a' fa' p1 p2 q1 q2 q3 => hP K' gm' gw' a' fa' p1 p2 q1 q2 ?_)
            rw [e]
            rcases q3 with ⟨l, r1, r2, r3, r4, r5⟩ | ⟨r1, r2⟩
            · exact Or.inl ⟨x4 :: l, by show Option.map _ _ = _; rw [r1]; rfl, by rw [r2, List.length_cons]; omega, ⟨by rw [r4 _ (by omega)]; exact iu_at _ _ _, r3⟩, fun i hi => by rw [r4 i (by omega)]; exact iu_ne _ _ (by omega), r5⟩
            · exact Or.inr ⟨by show Option.map _ _ = _; rw [r1]; rfl, r2⟩
          · refine Rx.walk 1 (pc' := 138) (L' := [some (.ref 0), some (.int (iz 1)), some (.int (iz x4)), none, none]) (st' := [.ref 0]) (h' := cmH (u1 (u1 (u1 (u1 (u1 z 8 0) 9 n) 10 (sks n b ((nmP n b (la + 1) 99 a).1))) 11 (-1)) 25 (K + 1)) zl (uf (uf f 6 (iu gm K x4)) 7 gw) fl 1) rfl ?_
            refine Rx.callx (m' := m_X12_fails) (as := [.ref 0]) (rest := []) rfl (r_failsN _ (u1 (u1 (u1 (u1 (u1 z 8 0) 9 n) 10 (sks n b ((nmP n b (la + 1) 99 a).1))) 11 (-1)) 25 (K + 1)) zl (uf (uf f 6 (iu gm K x4)) 7 gw) fl 1) (fun v22 h23 q24 => ?_)
            obtain ⟨rfl, rfl⟩ := q24
            refine Rx.walk 0 (pc' := 141) (L' := [some (.ref 0), some (.int (iz 1)), some (.int (iz x4)), none, none]) (st' := [.int (iz 0)]) (h' := cmH (u1 (u1 (u1 (u1 (u1 z 8 0) 9 n) 10 (sks n b ((nmP n b (la + 1) 99 a).1))) 11 (sks n b ((nmP n b (la + 1) 99 a).1))) 25 (K + 1)) zl (uf (uf f 6 (iu gm K x4)) 7 gw) fl 1) rfl ?_
            refine Rx.walk 4 (pc' := 147) (L' := [some (.ref 0), some (.int (iz 1)), some (.int (iz x4)), none, none]) (st' := [.int (iz (-1)), .int (iz (sks n b ((nmP n b (la + 1) 99 a).1)))]) (h' := cmH (u1 (u1 (u1 (u1 (u1 z 8 0) 9 n) 10 (sks n b ((nmP n b (la + 1) 99 a).1))) 11 (sks n b ((nmP n b (la + 1) 99 a).1))) 25 (K + 1)) zl (uf (uf f 6 (iu gm K x4)) 7 gw) fl 1) rfl ?_
            refine Rx.eq2 rfl rfl ⟨by omega, by omega⟩ ⟨by omega, by omega⟩ (fun b25 => by omega) (fun b25 => ?_)
            refine Rx.ret rfl ?_
            obtain rfl : k = 1 := by omega
            have e := vlP_4 uu3
            have e3 := ptP_e (k := 3) (t := 0) (a := (nmP n b (la + 1) 99 a).1) (s := (1, 5, 1)) (n := n) (b := b) (by omega)
            refine hP (K + 1) (iu gm K x4) gw _ _ (by omega) (by omega) (by omega) (by omega) (Or.inl ?_)
            rw [e]
            refine ⟨_, rfl, by simp, ⟨iu_at _ _ _, trivial⟩, fun i hi => iu_ne _ _ (by omega), ?_⟩
            show (((ptP n b 3 0 (1, 5, 1) (nmP n b (la + 1) 99 a).1).2 = _ ∧ _) ∨ _)
            rw [e3]
            exact Or.inl ⟨by rw [hgw], fun x => by (change sg n b (sks n b (nmP n b (la + 1) 99 a).1) = -1 at x; omega), fun x => rfl⟩
      · refine Rx.walk 0 (pc' := 80) (L' := [some (.ref 0), some (.int (iz 1)), w2, none, none]) (st' := [.int (iz (-1))]) (h' := cmH (u1 (u1 (u1 (u1 (u1 z 8 0) 9 n) 10 ((nmP n b (la + 1) 99 a).1)) 11 ((nmP n b (la + 1) 99 a).1)) 25 K) zl (uf (uf f 6 gm) 7 gw) fl 1) rfl ?_
        refine Rx.walk 4 (pc' := 86) (L' := [some (.ref 0), some (.int (iz 1)), some (.int (iz (-1))), none, none]) (st' := [.int (iz (-1)), .int (iz ((nmP n b (la + 1) 99 a).1))]) (h' := cmH (u1 (u1 (u1 (u1 (u1 z 8 0) 9 n) 10 ((nmP n b (la + 1) 99 a).1)) 11 ((nmP n b (la + 1) 99 a).1)) 25 K) zl (uf (uf f 6 gm) 7 gw) fl 1) rfl ?_
        refine Rx.eq2 rfl rfl ⟨by omega, by omega⟩ ⟨by omega, by omega⟩ (fun b26 => by omega) (fun b26 => ?_)
        refine Rx.ret rfl ?_
        obtain ⟨j, rfl⟩ : ∃ j, k = j + 1 := ⟨k - 1, by omega⟩
        have e := vlP_n (k := j) uu3
        refine hP K gm gw _ _ (by omega) (by omega) (by omega) (by omega) (Or.inr ?_)
        rw [e]
        exact ⟨rfl, rfl⟩
    · refine Rx.walk 2 (pc' := 75) (L' := [some (.ref 0), some (.int (iz 1)), w2, none, none]) (st' := [.int (iz 1), .ref 0]) (h' := cmH (u1 (u1 (u1 (u1 (u1 z 8 0) 9 n) 10 a) 11 (-1)) 25 K) zl (uf (uf f 6 gm) 7 gw) fl 1) rfl ?_
      obtain rfl : la = 0 := hla1 (by omega)
      refine Rx.walk 0 (pc' := 75) (L' := [some (.ref 0), some (.int (iz 1)), w2, none, none]) (st' := [.int (iz (0 + 1)), .ref 0]) (h' := cmH (u1 (u1 (u1 (u1 (u1 z 8 0) 9 n) 10 a) 11 (-1)) 25 K) zl (uf (uf f 6 gm) 7 gw) fl 1) rfl ?_
      refine Rx.walk 1 (pc' := 77) (L' := [some (.ref 0), some (.int (iz 1)), w2, none, none]) (st' := [.int (iz 99), .int (iz (0 + 1)), .ref 0]) (h' := cmH (u1 (u1 (u1 (u1 (u1 z 8 0) 9 n) 10 a) 11 (-1)) 25 K) zl (uf (uf f 6 gm) 7 gw) fl 1) rfl ?_
      have uu27p := nmP_props (n := n) (b := b) (lo := (0 + 1)) (hi := 99) (a := a) (by omega) (by omega)
      refine Rx.callx (m' := m_X12_number) (as := [.ref 0, .int (iz (0 + 1)), .int (iz 99)]) (rest := []) rfl (r_number _ (u1 (u1 (u1 (u1 (u1 z 8 0) 9 n) 10 a) 11 (-1)) 25 K) zl (uf (uf f 6 gm) 7 gw) fl n a 0 (0 + 1) 99 b hT hM (by omega) (by omega) ⟨by omega, by omega⟩ ⟨by omega, by omega⟩) (fun v29 h30 q31 => ?_)
      rcases q31 with ⟨x28, uu27, rfl, rfl⟩ | ⟨uu27, rfl, rfl⟩
      · have uu27b := uu27p.2.2 x28 uu27
        refine Rx.walk 0 (pc' := 80) (L' := [some (.ref 0), some (.int (iz 1)), w2, none, none]) (st' := [.int (iz x28)]) (h' := cmH (u1 (u1 (u1 (u1 (u1 z 8 0) 9 n) 10 ((nmP n b (0 + 1) 99 a).1)) 11 (-1)) 25 K) zl (uf (uf f 6 gm) 7 gw) fl 1) rfl ?_
        refine Rx.walk 4 (pc' := 86) (L' := [some (.ref 0), some (.int (iz 1)), some (.int (iz x28)), none, none]) (st' := [.int (iz (-1)), .int (iz (-1))]) (h' := cmH (u1 (u1 (u1 (u1 (u1 z 8 0) 9 n) 10 ((nmP n b (0 + 1) 99 a).1)) 11 (-1)) 25 K) zl (uf (uf f 6 gm) 7 gw) fl 1) rfl ?_
        refine Rx.eq2 rfl rfl ⟨by omega, by omega⟩ ⟨by omega, by omega⟩ (fun b32 => ?_) (fun b32 => by omega)
        refine Rx.walk 5 (pc' := 99) (L' := [some (.ref 0), some (.int (iz 1)), some (.int (iz x28)), none, none]) (st' := [.int (iz x28), .int (iz K), .ref 6]) (h' := cmH (u1 (u1 (u1 (u1 (u1 z 8 0) 9 n) 10 ((nmP n b (0 + 1) 99 a).1)) 11 (-1)) 25 K) zl (uf (uf f 6 gm) 7 gw) fl 1) rfl ?_
        refine Rx.ias (h' := cmH (u1 (u1 (u1 (u1 (u1 z 8 0) 9 n) 10 ((nmP n b (0 + 1) 99 a).1)) 11 (-1)) 25 K) zl (uf (uf f 6 (iu gm K x28)) 7 gw) fl 1) rfl rfl (by omega) (by omega) (by omega) rfl ?_
        refine Rx.walk 4 (pc' := 106) (L' := [some (.ref 0), some (.int (iz 1)), some (.int (iz x28)), none, none]) (st' := [.int (iz 1), .int (iz K), .ref 0]) (h' := cmH (u1 (u1 (u1 (u1 (u1 z 8 0) 9 n) 10 ((nmP n b (0 + 1) 99 a).1)) 11 (-1)) 25 K) zl (uf (uf f 6 (iu gm K x28)) 7 gw) fl 1) rfl ?_
        refine Rx.iadd rfl ?_
        refine Rx.walk 2 (pc' := 111) (L' := [some (.ref 0), some (.int (iz 1)), some (.int (iz x28)), none, none]) (st' := [.ref 0]) (h' := cmH (u1 (u1 (u1 (u1 (u1 z 8 0) 9 n) 10 ((nmP n b (0 + 1) 99 a).1)) 11 (-1)) 25 (K + 1)) zl (uf (uf f 6 (iu gm K x28)) 7 gw) fl 1) rfl ?_
        refine Rx.callx (m' := m_X12_look) (as := [.ref 0]) (rest := []) rfl (r_look1 _ (u1 (u1 (u1 (u1 (u1 z 8 0) 9 n) 10 ((nmP n b (0 + 1) 99 a).1)) 11 (-1)) 25 (K + 1)) zl (uf (uf f 6 (iu gm K x28)) 7 gw) fl n ((nmP n b (0 + 1) 99 a).1) 0 (-1) b hT hM (by omega) (by omega)) (fun v34 h35 q36 => ?_)
        obtain ⟨rfl, rfl⟩ := q36
        have k33a := sks_le n b ((nmP n b (0 + 1) 99 a).1)
        have k33b := sks_n (n := n) b (a := (nmP n b (0 + 1) 99 a).1) (by omega)
        have k33c := sg_bI hT (a := (sks n b ((nmP n b (0 + 1) 99 a).1))) (by omega)
        refine Rx.walk 0 (pc' := 114) (L' := [some (.ref 0), some (.int (iz 1)), some (.int (iz x28)), none, none]) (st' := [.int (iz (sg n b (sks n b ((nmP n b (0 + 1) 99 a).1))))]) (h' := cmH (u1 (u1 (u1 (u1 (u1 z 8 0) 9 n) 10 (sks n b ((nmP n b (0 + 1) 99 a).1))) 11 (-1)) 25 (K + 1)) zl (uf (uf f 6 (iu gm K x28)) 7 gw) fl 1) rfl ?_
        refine Rx.walk 1 (pc' := 116) (L' := [some (.ref 0), some (.int (iz 1)), some (.int (iz x28)), none, none]) (st' := [.int (iz 44), .int (iz (sg n b (sks n b ((nmP n b (0 + 1) 99 a).1))))]) (h' := cmH (u1 (u1 (u1 (u1 (u1 z 8 0) 9 n) 10 (sks n b ((nmP n b (0 + 1) 99 a).1))) 11 (-1)) 25 (K + 1)) zl (uf (uf f 6 (iu gm K x28)) 7 gw) fl 1) rfl ?_
        refine Rx.ne2 rfl rfl ⟨by omega, by omega⟩ ⟨by omega, by omega⟩ (fun b37 => ?_) (fun b37 => ?_)
        · refine Rx.walk 3 (pc' := 126) (L' := [some (.ref 0), some (.int (iz 0)), some (.int (iz x28)), none, none]) (st' := [.int (iz 0)]) (h' := cmH (u1 (u1 (u1 (u1 (u1 z 8 0) 9 n) 10 (sks n b ((nmP n b (0 + 1) 99 a).1))) 11 (-1)) 25 (K + 1)) zl (uf (uf f 6 (iu gm K x28)) 7 gw) fl 1) rfl ?_
          refine Rx.eq1 rfl rfl ⟨by omega, by omega⟩ (fun b38 => ?_) (fun b38 => by omega)
          refine Rx.walk 3 (pc' := 147) (L' := [some (.ref 0), some (.int (iz 0)), some (.int (iz x28)), none, none]) (st' := [.int (iz (-1)), .int (iz (-1))]) (h' := cmH (u1 (u1 (u1 (u1 (u1 z 8 0) 9 n) 10 (sks n b ((nmP n b (0 + 1) 99 a).1))) 11 (-1)) 25 (K + 1)) zl (uf (uf f 6 (iu gm K x28)) 7 gw) fl 1) rfl ?_
          refine Rx.eq2 rfl rfl ⟨by omega, by omega⟩ ⟨by omega, by omega⟩ (fun b39 => ?_) (fun b39 => by omega)
          refine Rx.walk 1 (pc' := 152) (L' := [some (.ref 0), some (.int (iz 0)), some (.int (iz x28)), none, none]) (st' := [.int (iz 0)]) (h' := cmH (u1 (u1 (u1 (u1 (u1 z 8 0) 9 n) 10 (sks n b ((nmP n b (0 + 1) 99 a).1))) 11 (-1)) 25 (K + 1)) zl (uf (uf f 6 (iu gm K x28)) 7 gw) fl 1) rfl ?_
          refine Rx.eq1 rfl rfl ⟨by omega, by omega⟩ (fun b40 => ?_) (fun b40 => by omega)
          refine Rx.walk 2 (pc' := 47) (L' := [some (.ref 0), some (.int (iz 0)), some (.int (iz x28)), none, none]) (st' := [.int (iz 0)]) (h' := cmH (u1 (u1 (u1 (u1 (u1 z 8 0) 9 n) 10 (sks n b ((nmP n b (0 + 1) 99 a).1))) 11 (-1)) 25 (K + 1)) zl (uf (uf f 6 (iu gm K x28)) 7 gw) fl 1) rfl ?_
          refine Rx.eq1 rfl rfl ⟨by omega, by omega⟩ (fun b41 => ?_) (fun b41 => by omega)
          refine Rx.walk 2 (pc' := 170) (L' := [some (.ref 0), some (.int (iz 0)), some (.int (iz 0)), none, none]) (st' := []) (h' := cmH (u1 (u1 (u1 (u1 (u1 z 8 0) 9 n) 10 (sks n b ((nmP n b (0 + 1) 99 a).1))) 11 (-1)) 25 (K + 1)) zl (uf (uf f 6 (iu gm K x28)) 7 gw) fl 1) rfl ?_
          by_cases hk1 : k = 1
          · subst hk1
            have e := vlP_4 uu27
            refine r_parts_l d z zl f fl n b hT hM _ _ P 3 0 gw _ _ none none (by omega) (by omega) (by omega) (by omega) (by omega) (fun gw' a' fa' q1 q2 q3 => ?_)
            refine hP (K + 1) (iu gm K x28) gw' a' fa' (by omega) (by omega) q1 q2 (Or.inl ?_)
            rw [hgw, ptP_sk] at q3
            rw [e]
            exact ⟨_, rfl, by simp, ⟨iu_at _ _ _, trivial⟩, fun i hi => iu_ne _ _ (by omega), q3⟩
          · obtain ⟨j, rfl⟩ : ∃ j, k = j + 1 := ⟨k - 1, by omega⟩
            have e := vlP_e (k := j) uu27 (by omega) (by omega)
            refine r_parts_l d z zl f fl n b hT hM _ _ P 3 0 gw _ _ none none (by omega) (by omega) (by omega) (by omega) (by omega) (fun gw' a' fa' q1 q2 q3 => ?_)
            refine hP (K + 1) (iu gm K x28) gw' a' fa' (by omega) (by omega) q1 q2 (Or.inl ?_)
            rw [hgw] at q3
            rw [e]
            exact ⟨_, rfl, by simp, ⟨iu_at _ _ _, trivial⟩, fun i hi => iu_ne _ _ (by omega), q3⟩
        · refine Rx.walk 4 (pc' := 126) (L' := [some (.ref 0), some (.int (iz 1)), some (.int (iz x28)), none, none]) (st' := [.int (iz 1)]) (h' := cmH (u1 (u1 (u1 (u1 (u1 z 8 0) 9 n) 10 (sks n b ((nmP n b (0 + 1) 99 a).1))) 11 (-1)) 25 (K + 1)) zl (uf (uf f 6 (iu gm K x28)) 7 gw) fl 1) rfl ?_
          refine Rx.eq1 rfl rfl ⟨by omega, by omega⟩ (fun b42 => by omega) (fun b42 => ?_)
          refine Rx.walk 3 (pc' := 134) (L' := [some (.ref 0), some (.int (iz 1)), some (.int (iz x28)), none, none]) (st' := [.int (iz 4), .int (iz (K + 1))]) (h' := cmH (u1 (u1 (u1 (u1 (u1 z 8 0) 9 n) 10 (sks n b ((nmP n b (0 + 1) 99 a).1))) 11 (-1)) 25 (K + 1)) zl (uf (uf f 6 (iu gm K x28)) 7 gw) fl 1) rfl ?_
          refine Rx.ne2 rfl rfl ⟨by omega, by omega⟩ ⟨by omega, by omega⟩ (fun b43 => ?_) (fun b43 => ?_)
          · refine Rx.walk 3 (pc' := 147) (L' := [some (.ref 0), some (.int (iz 1)), some (.int (iz x28)), none, none]) (st' := [.int (iz (-1)), .int (iz (-1))]) (h' := cmH (u1 (u1 (u1 (u1 (u1 z 8 0) 9 n) 10 (sks n b ((nmP n b (0 + 1) 99 a).1))) 11 (-1)) 25 (K + 1)) zl (uf (uf f 6 (iu gm K x28)) 7 gw) fl 1) rfl ?_
            refine Rx.eq2 rfl rfl ⟨by omega, by omega⟩ ⟨by omega, by omega⟩ (fun b44 => ?_) (fun b44 => by omega)
            refine Rx.walk 1 (pc' := 152) (L' := [some (.ref 0), some (.int (iz 1)), some (.int (iz x28)), none, none]) (st' := [.int (iz 1)]) (h' := cmH (u1 (u1 (u1 (u1 (u1 z 8 0) 9 n) 10 (sks n b ((nmP n b (0 + 1) 99 a).1))) 11 (-1)) 25 (K + 1)) zl (uf (uf f 6 (iu gm K x28)) 7 gw) fl 1) rfl ?_
            refine Rx.eq1 rfl rfl ⟨by omega, by omega⟩ (fun b45 => by omega) (fun b45 => ?_)
            have hlt45 : (sks n b ((nmP n b (0 + 1) 99 a).1)) < n := by rcases Int.lt_or_le (sks n b ((nmP n b (0 + 1) 99 a).1)) n with x | x; exact x; have := sg_ge (b := b) x; omega
            refine Rx.walk 4 (pc' := 161) (L' := [some (.ref 0), some (.int (iz 1)), some (.int (iz x28)), none, none]) (st' := [.int (iz 1), .int (iz (sks n b ((nmP n b (0 + 1) 99 a).1))), .ref 0]) (h' := cmH (u1 (u1 (u1 (u1 (u1 z 8 0) 9 n) 10 (sks n b ((nmP n b (0 + 1) 99 a).1))) 11 (-1)) 25 (K + 1)) zl (uf (uf f 6 (iu gm K x28)) 7 gw) fl 1) rfl ?_
            refine Rx.iadd rfl ?_
            refine Rx.walk 2 (pc' := 46) (L' := [some (.ref 0), some (.int (iz 1)), some (.int (iz x28)), none, none]) (st' := []) (h' := cmH (u1 (u1 (u1 (u1 (u1 z 8 0) 9 n) 10 ((sks n b ((nmP n b (0 + 1) 99 a).1)) + 1)) 11 (-1)) 25 (K + 1)) zl (uf (uf f 6 (iu gm K x28)) 7 gw) fl 1) rfl ?_
            obtain ⟨j, rfl⟩ : ∃ j, k = j + 1 := ⟨k - 1, by omega⟩
            have e := vlP_c (k := j) uu27 (by omega) (by omega)
            refine ih j (by omega) (by omega) (by omega) (K + 1) (iu gm K x28) x28 ((sks n b ((nmP n b (0 + 1) 99 a).1)) + 1) _ (by omega) (fun x => by omega) (fun x => by rw [show K + 1 - 1 = K by omega]; exact (iu_at _ _ _).symm) (by omega) (by omega) (by omega) (by omega) (fun K' gm' gw' a' fa' p1 p2 q1 q2 q3 => hP K' gm' gw' a' fa' p1 p2 q1 q2 ?_)
            rw [e]
            rcases q3 with ⟨l, r1, r2, r3, r4, r5⟩ | ⟨r1, r2⟩
            · exact Or.inl ⟨x28 :: l, by show Option.map _ _ = _; rw [r1]; rfl, by rw [r2, List.length_cons]; omega, ⟨by rw [r4 _ (by omega)]; exact iu_at _ _ _, r3⟩, fun i hi => by rw [r4 i (by omega)]; exact iu_ne _ _ (by omega), r5⟩
            · exact Or.inr ⟨by show Option.map _ _ = _; rw [r1]; rfl, r2⟩
          · refine Rx.walk 1 (pc' := 138) (L' := [some (.ref 0), some (.int (iz 1)), some (.int (iz x28)), none, none]) (st' := [.ref 0]) (h' := cmH (u1 (u1 (u1 (u1 (u1 z 8 0) 9 n) 10 (sks n b ((nmP n b (0 + 1) 99 a).1))) 11 (-1)) 25 (K + 1)) zl (uf (uf f 6 (iu gm K x28)) 7 gw) fl 1) rfl ?_
            refine Rx.callx (m' := m_X12_fails) (as := [.ref 0]) (rest := []) rfl (r_failsN _ (u1 (u1 (u1 (u1 (u1 z 8 0) 9 n) 10 (sks n b ((nmP n b (0 + 1) 99 a).1))) 11 (-1)) 25 (K + 1)) zl (uf (uf f 6 (iu gm K x28)) 7 gw) fl 1) (fun v46 h47 q48 => ?_)
            obtain ⟨rfl, rfl⟩ := q48
            refine Rx.walk 0 (pc' := 141) (L' := [some (.ref 0), some (.int (iz 1)), some (.int (iz x28)), none, none]) (st' := [.int (iz 0)]) (h' := cmH (u1 (u1 (u1 (u1 (u1 z 8 0) 9 n) 10 (sks n b ((nmP n b (0 + 1) 99 a).1))) 11 (sks n b ((nmP n b (0 + 1) 99 a).1))) 25 (K + 1)) zl (uf (uf f 6 (iu gm K x28)) 7 gw) fl 1) rfl ?_
            refine Rx.walk 4 (pc' := 147) (L' := [some (.ref 0), some (.int (iz 1)), some (.int (iz x28)), none, none]) (st' := [.int (iz (-1)), .int (iz (sks n b ((nmP n b (0 + 1) 99 a).1)))]) (h' := cmH (u1 (u1 (u1 (u1 (u1 z 8 0) 9 n) 10 (sks n b ((nmP n b (0 + 1) 99 a).1))) 11 (sks n b ((nmP n b (0 + 1) 99 a).1))) 25 (K + 1)) zl (uf (uf f 6 (iu gm K x28)) 7 gw) fl 1) rfl ?_
            refine Rx.eq2 rfl rfl ⟨by omega, by omega⟩ ⟨by omega, by omega⟩ (fun b49 => by omega) (fun b49 => ?_)
            refine Rx.ret rfl ?_
            obtain rfl : k = 1 := by omega
            have e := vlP_4 uu27
            have e3 := ptP_e (k := 3) (t := 0) (a := (nmP n b (0 + 1) 99 a).1) (s := (1, 5, 1)) (n := n) (b := b) (by omega)
            refine hP (K + 1) (iu gm K x28) gw _ _ (by omega) (by omega) (by omega) (by omega) (Or.inl ?_)
            rw [e]
            refine ⟨_, rfl, by simp, ⟨iu_at _ _ _, trivial⟩, fun i hi => iu_ne _ _ (by omega), ?_⟩
            show (((ptP n b 3 0 (1, 5, 1) (nmP n b (0 + 1) 99 a).1).2 = _ ∧ _) ∨ _)
            rw [e3]
            exact Or.inl ⟨by rw [hgw], fun x => by (change sg n b (sks n b (nmP n b (0 + 1) 99 a).1) = -1 at x; omega), fun x => rfl⟩
      · refine Rx.walk 0 (pc' := 80) (L' := [some (.ref 0), some (.int (iz 1)), w2, none, none]) (st' := [.int (iz (-1))]) (h' := cmH (u1 (u1 (u1 (u1 (u1 z 8 0) 9 n) 10 ((nmP n b (0 + 1) 99 a).1)) 11 ((nmP n b (0 + 1) 99 a).1)) 25 K) zl (uf (uf f 6 gm) 7 gw) fl 1) rfl ?_
        refine Rx.walk 4 (pc' := 86) (L' := [some (.ref 0), some (.int (iz 1)), some (.int (iz (-1))), none, none]) (st' := [.int (iz (-1)), .int (iz ((nmP n b (0 + 1) 99 a).1))]) (h' := cmH (u1 (u1 (u1 (u1 (u1 z 8 0) 9 n) 10 ((nmP n b (0 + 1) 99 a).1)) 11 ((nmP n b (0 + 1) 99 a).1)) 25 K) zl (uf (uf f 6 gm) 7 gw) fl 1) rfl ?_
        refine Rx.eq2 rfl rfl ⟨by omega, by omega⟩ ⟨by omega, by omega⟩ (fun b50 => by omega) (fun b50 => ?_)
        refine Rx.ret rfl ?_
        obtain ⟨j, rfl⟩ : ∃ j, k = j + 1 := ⟨k - 1, by omega⟩
        have e := vlP_n (k := j) uu27
        refine hP K gm gw _ _ (by omega) (by omega) (by omega) (by omega) (Or.inr ?_)
        rw [e]
        exact ⟨rfl, rfl⟩
set_option maxRecDepth 100000 in
set_option maxHeartbeats 4000000 in
theorem r_opens1 (d : Nat) (z : Nat → Int) (zl : Nat → Int) (f : Nat → Int → Int) (fl : Nat → Int → Int) (tx : Nat) (x y : Int) : Rx (d) m_X12_opens 0 (am_ent [.ref 0, .ref 1, .int (iz x), .int (iz y)] 4) [] (cmH z zl f fl tx) (fun rv h => rv = none ∧ h = cmH (u1 (u1 (u1 (u1 z 8 x) 9 y) 10 0) 11 (-1)) zl f fl 1) := by
  refine Rx.walk 0 (pc' := 0) (L' := [some (.ref 0), some (.ref 1), some (.int (iz x)), some (.int (iz y))]) (st' := []) (h' := cmH z zl f fl tx) rfl ?_
  refine Rx.walk 15 (pc' := 25) (L' := [some (.ref 0), some (.ref 1), some (.int (iz x)), some (.int (iz y))]) (st' := []) (h' := cmH (u1 (u1 (u1 (u1 z 8 x) 9 y) 10 0) 11 (-1)) zl f fl 1) rfl ?_
  refine Rx.ret rfl ?_
  exact ⟨rfl, rfl⟩
set_option maxRecDepth 100000 in
set_option maxHeartbeats 4000000 in
theorem r_readShop (d : Nat) (z : Nat → Int) (zl : Nat → Int) (f : Nat → Int → Int) (fl : Nat → Int → Int) (tx : Nat) (n : Int) (b : Int → Int) (hT : tOK n b) (hM : mOK n 0 160 (f 1) b) : Rx (d + 2) m_X12_readShop 0 (am_ent [.ref 0] 5) [] (cmH (u1 z 6 n) zl f fl tx) (fun rv h => rv = none ∧ ∃ (K' : Int) (gm' gw' : Int → Int) (a' : Int), 0 ≤ K' ∧ K' ≤ 4 ∧ 0 ≤ a' ∧ a' ≤ n ∧ h = cmH (u1 (u1 (u1 (u1 (u1 (u1 z 6 n) 8 0) 9 n) 10 a') 11 ((shP n b).1)) 25 K') zl (uf (uf f 6 gm') 7 gw') fl 1 ∧ ∀ (l : List Int) (s : Int × Int × Int), (shP n b).2 = some (l, s) → K' = l.length ∧ lst gm' 0 l ∧ s = (gw' 0, gw' 1, gw' 2)) := by
  have hn := hT.2.1
  have hn0 := hT.1
  refine Rx.walk 0 (pc' := 0) (L' := [some (.ref 0), none, none, none, none]) (st' := []) (h' := cmH (u1 z 6 n) zl f fl tx) rfl ?_
  refine Rx.walk 6 (pc' := 10) (L' := [some (.ref 0), none, none, none, none]) (st' := [.int (iz n), .int (iz 0), .ref 1, .ref 0]) (h' := cmH (u1 z 6 n) zl f fl tx) rfl ?_
  refine Rx.callx (m' := m_X12_opens) (as := [.ref 0, .ref 1, .int (iz 0), .int (iz n)]) (rest := []) rfl (r_opens1 _ (u1 z 6 n) zl f fl tx 0 n) (fun v1 h2 q3 => ?_)
  obtain ⟨rfl, rfl⟩ := q3
  refine Rx.walk 0 (pc' := 13) (L' := [some (.ref 0), none, none, none, none]) (st' := []) (h' := cmH (u1 (u1 (u1 (u1 (u1 z 6 n) 8 0) 9 n) 10 0) 11 (-1)) zl f fl 1) rfl ?_
  refine Rx.walk 7 (pc' := 24) (L' := [some (.ref 0), none, none, none, none]) (st' := [.int (iz 1), .int (iz 0), .ref 7]) (h' := cmH (u1 (u1 (u1 (u1 (u1 (u1 z 6 n) 8 0) 9 n) 10 0) 11 (-1)) 25 0) zl f fl 1) rfl ?_
  refine Rx.ias (h' := cmH (u1 (u1 (u1 (u1 (u1 (u1 z 6 n) 8 0) 9 n) 10 0) 11 (-1)) 25 0) zl (uf f 7 (iu (f 7) 0 1)) fl 1) rfl rfl (by omega) (by omega) (by omega) rfl ?_
  refine Rx.walk 4 (pc' := 31) (L' := [some (.ref 0), none, none, none, none]) (st' := [.int (iz 5), .int (iz 1), .ref 7]) (h' := cmH (u1 (u1 (u1 (u1 (u1 (u1 z 6 n) 8 0) 9 n) 10 0) 11 (-1)) 25 0) zl (uf f 7 (iu (f 7) 0 1)) fl 1) rfl ?_
  refine Rx.ias (h' := cmH (u1 (u1 (u1 (u1 (u1 (u1 z 6 n) 8 0) 9 n) 10 0) 11 (-1)) 25 0) zl (uf f 7 (iu (iu (f 7) 0 1) 1 5)) fl 1) rfl rfl (by omega) (by omega) (by omega) rfl ?_
  refine Rx.walk 4 (pc' := 38) (L' := [some (.ref 0), none, none, none, none]) (st' := [.int (iz 1), .int (iz 2), .ref 7]) (h' := cmH (u1 (u1 (u1 (u1 (u1 (u1 z 6 n) 8 0) 9 n) 10 0) 11 (-1)) 25 0) zl (uf f 7 (iu (iu (f 7) 0 1) 1 5)) fl 1) rfl ?_
  refine Rx.ias (h' := cmH (u1 (u1 (u1 (u1 (u1 (u1 z 6 n) 8 0) 9 n) 10 0) 11 (-1)) 25 0) zl (uf f 7 (iu (iu (iu (f 7) 0 1) 1 5) 2 1)) fl 1) rfl rfl (by omega) (by omega) (by omega) rfl ?_
  refine Rx.walk 2 (pc' := 42) (L' := [some (.ref 0), none, none, none, none]) (st' := [.int (iz 99), .ref 0]) (h' := cmH (u1 (u1 (u1 (u1 (u1 (u1 z 6 n) 8 0) 9 n) 10 0) 11 (-1)) 25 0) zl (uf f 7 (iu (iu (iu (f 7) 0 1) 1 5) 2 1)) fl 1) rfl ?_
  have k5a := sks_le n b 0
  have k5b := sks_n (n := n) b (a := 0) (by omega)
  refine Rx.callx (m' := m_X12_takes) (as := [.ref 0, .int (iz 99)]) (rest := []) rfl (r_takes1 _ (u1 (u1 (u1 (u1 (u1 (u1 z 6 n) 8 0) 9 n) 10 0) 11 (-1)) 25 0) zl (uf f 7 (iu (iu (iu (f 7) 0 1) 1 5) 2 1)) fl n 0 0 b hT hM (by omega) (by omega) 99 ⟨by omega, by omega⟩) (fun v6 h7 q8 => ?_)
  rcases q8 with ⟨uu4, rfl, rfl⟩ | ⟨uu4, rfl, rfl⟩
  · have uu4l : (sks n b 0) < n := by rcases Int.lt_or_le (sks n b 0) n with x | x; exact x; rw [sg_ge x] at uu4; omega
    refine Rx.walk 0 (pc' := 45) (L' := [some (.ref 0), none, none, none, none]) (st' := [.int (iz 1)]) (h' := cmH (u1 (u1 (u1 (u1 (u1 (u1 z 6 n) 8 0) 9 n) 10 ((sks n b 0) + 1)) 11 (-1)) 25 0) zl (uf f 7 (iu (iu (iu (f 7) 0 1) 1 5) 2 1)) fl 1) rfl ?_
    refine Rx.walk 1 (pc' := 46) (L' := [some (.ref 0), some (.int (iz 1)), none, none, none]) (st' := []) (h' := cmH (u1 (u1 (u1 (u1 (u1 (u1 z 6 n) 8 0) 9 n) 10 ((sks n b 0) + 1)) 11 (-1)) 25 0) zl (uf f 7 (iu (iu (iu (f 7) 0 1) 1 5) 2 1)) fl 1) rfl ?_
    refine r_vals_l d (u1 z 6 n) zl f fl n b hT hM (iu (iu (iu (f 7) 0 1) 1 5) 2 1) rfl _ 4 (by omega) (by omega) 0 (f 6) 0 _ none (by omega) (fun x => rfl) (fun x => by omega) (by omega) (by omega) (by omega) (by omega) (fun K' gm' gw' a' fa' p1 p2 q1 q2 q3 => ?_)
    obtain rfl : fa' = (shP n b).1 := by
      rcases q3 with ⟨l, r1, r2, r3, r4, ⟨r5, r6, r7⟩ | ⟨r5, r6⟩⟩ | ⟨r1, r2⟩
      · by_cases he : sg n b (ptP n b 3 0 (1, 5, 1) (vlP n b 4 0 (sks n b 0 + 1)).1).1 = -1
        · rw [shP_4 uu4 r1 r5 he]; exact r6 he
        · rw [shP_5 uu4 r1 r5 he]; exact r7 he
      · rw [shP_3 uu4 r1 r5]; exact r6
      · rw [shP_2 uu4 r1]; exact r2
    refine ⟨rfl, K', gm', gw', a', p1, p2, q1, q2, rfl, fun l s hs => ?_⟩
    rcases q3 with ⟨l2, r1, r2, r3, r4, ⟨r5, r6, r7⟩ | ⟨r5, r6⟩⟩ | ⟨r1, r2⟩
    · by_cases he : sg n b (ptP n b 3 0 (1, 5, 1) (vlP n b 4 0 (sks n b 0 + 1)).1).1 = -1
      · rw [shP_4 uu4 r1 r5 he] at hs
        cases hs
        exact ⟨by omega, r3, rfl⟩
      · rw [shP_5 uu4 r1 r5 he] at hs; cases hs
    · rw [shP_3 uu4 r1 r5] at hs; cases hs
    · rw [shP_2 uu4 r1] at hs; cases hs
  · refine Rx.walk 0 (pc' := 45) (L' := [some (.ref 0), none, none, none, none]) (st' := [.int (iz 0)]) (h' := cmH (u1 (u1 (u1 (u1 (u1 (u1 z 6 n) 8 0) 9 n) 10 (sks n b 0)) 11 (sks n b 0)) 25 0) zl (uf f 7 (iu (iu (iu (f 7) 0 1) 1 5) 2 1)) fl 1) rfl ?_
    refine Rx.walk 2 (pc' := 47) (L' := [some (.ref 0), some (.int (iz 0)), none, none, none]) (st' := [.int (iz 0)]) (h' := cmH (u1 (u1 (u1 (u1 (u1 (u1 z 6 n) 8 0) 9 n) 10 (sks n b 0)) 11 (sks n b 0)) 25 0) zl (uf f 7 (iu (iu (iu (f 7) 0 1) 1 5) 2 1)) fl 1) rfl ?_
    refine Rx.eq1 rfl rfl ⟨by omega, by omega⟩ (fun b9 => ?_) (fun b9 => by omega)
    refine Rx.walk 5 (pc' := 175) (L' := [some (.ref 0), some (.int (iz 0)), some (.int (iz 0)), none, none]) (st' := [.int (iz (-1)), .int (iz (sks n b 0))]) (h' := cmH (u1 (u1 (u1 (u1 (u1 (u1 z 6 n) 8 0) 9 n) 10 (sks n b 0)) 11 (sks n b 0)) 25 0) zl (uf f 7 (iu (iu (iu (f 7) 0 1) 1 5) 2 1)) fl 1) rfl ?_
    refine Rx.ne2 rfl rfl ⟨by omega, by omega⟩ ⟨by omega, by omega⟩ (fun b10 => ?_) (fun b10 => by omega)
    refine Rx.walk 3 (pc' := 326) (L' := [some (.ref 0), some (.int (iz 0)), some (.int (iz 0)), none, none]) (st' := [.int (iz (-1)), .int (iz (sks n b 0))]) (h' := cmH (u1 (u1 (u1 (u1 (u1 (u1 z 6 n) 8 0) 9 n) 10 (sks n b 0)) 11 (sks n b 0)) 25 0) zl (uf f 7 (iu (iu (iu (f 7) 0 1) 1 5) 2 1)) fl 1) rfl ?_
    refine Rx.ne2 rfl rfl ⟨by omega, by omega⟩ ⟨by omega, by omega⟩ (fun b11 => ?_) (fun b11 => by omega)
    refine Rx.ret rfl ?_
    have e := shP_1 uu4
    refine ⟨rfl, 0, f 6, (iu (iu (iu (f 7) 0 1) 1 5) 2 1), sks n b 0, by omega, by omega, ?_, ?_, by rw [e]; exact rfl, fun l s hs => by rw [e] at hs; cases hs⟩
    · omega
    · omega

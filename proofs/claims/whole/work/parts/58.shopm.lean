/-! the model reads a shop's text (printed by wip/whole/genshopm.py) -/
set_option maxRecDepth 100000 in
set_option maxHeartbeats 4000000 in
theorem r_parts_l (d : Nat) (z : Nat → Int) (zl : Nat → Int) (f : Nat → Int → Int) (fl : Nat → Int → Int) (n : Int) (b : Int → Int) (hT : tOK n b) (hM : mOK n 0 160 (f 1) b) (K : Int) (gm : Int → Int) (P : Option Value → AmH → Prop) : ∀ (k : Nat) (t : Int) (gw : Int → Int) (a c1 : Int) (w3 w4 : Option Value), 3 ≤ t + k → 0 ≤ t → t ≤ 3 → 0 ≤ a → a ≤ n → (hP : ∀ (gw' : Int → Int) (a' fa' : Int), 0 ≤ a' → a' ≤ n → (((ptP n b k t (gw 0, gw 1, gw 2) a).2 = some (gw' 0, gw' 1, gw' 2) ∧ (sg n b (ptP n b k t (gw 0, gw 1, gw 2) a).1 = -1 → fa' = -1) ∧ (sg n b (ptP n b k t (gw 0, gw 1, gw 2) a).1 ≠ -1 → fa' = (ptP n b k t (gw 0, gw 1, gw 2) a).1)) ∨ ((ptP n b k t (gw 0, gw 1, gw 2) a).2 = none ∧ fa' = (ptP n b k t (gw 0, gw 1, gw 2) a).1)) → P none (cmH (u1 (u1 (u1 (u1 (u1 z 8 0) 9 n) 10 a') 11 fa') 25 K) zl (uf (uf f 6 gm) 7 gw') fl 1)) → Rx (d + 2) m_X12_readShop 170 [some (.ref 0), some (.int (iz c1)), some (.int (iz t)), w3, w4] [] (cmH (u1 (u1 (u1 (u1 (u1 z 8 0) 9 n) 10 a) 11 (-1)) 25 K) zl (uf (uf f 6 gm) 7 gw) fl 1) P := by
  have hn := hT.2.1
  intro k
  induction k using Nat.strongRecOn with
  | ind k ih =>
    intro t gw a c1 w3 w4 hk ht0 ht1 h0 h1 hP
    refine Rx.walk 3 (pc' := 175) (L' := [some (.ref 0), some (.int (iz c1)), some (.int (iz t)), w3, w4]) (st' := [.int (iz (-1)), .int (iz (-1))]) (h' := cmH (u1 (u1 (u1 (u1 (u1 z 8 0) 9 n) 10 a) 11 (-1)) 25 K) zl (uf (uf f 6 gm) 7 gw) fl 1) rfl ?_
    refine Rx.ne2 rfl rfl ⟨by omega, by omega⟩ ⟨by omega, by omega⟩ (fun b1 => by omega) (fun b1 => ?_)
    refine Rx.walk 2 (pc' := 180) (L' := [some (.ref 0), some (.int (iz c1)), some (.int (iz t)), w3, w4]) (st' := [.int (iz 3), .int (iz t)]) (h' := cmH (u1 (u1 (u1 (u1 (u1 z 8 0) 9 n) 10 a) 11 (-1)) 25 K) zl (uf (uf f 6 gm) 7 gw) fl 1) rfl ?_
    refine Rx.ge2 rfl rfl ⟨by omega, by omega⟩ ⟨by omega, by omega⟩ (fun b2 => ?_) (fun b2 => ?_)
    · refine Rx.walk 3 (pc' := 326) (L' := [some (.ref 0), some (.int (iz c1)), some (.int (iz t)), w3, w4]) (st' := [.int (iz (-1)), .int (iz (-1))]) (h' := cmH (u1 (u1 (u1 (u1 (u1 z 8 0) 9 n) 10 a) 11 (-1)) 25 K) zl (uf (uf f 6 gm) 7 gw) fl 1) rfl ?_
      refine Rx.ne2 rfl rfl ⟨by omega, by omega⟩ ⟨by omega, by omega⟩ (fun b3 => by omega) (fun b3 => ?_)
      refine Rx.walk 1 (pc' := 330) (L' := [some (.ref 0), some (.int (iz c1)), some (.int (iz t)), w3, w4]) (st' := [.ref 0]) (h' := cmH (u1 (u1 (u1 (u1 (u1 z 8 0) 9 n) 10 a) 11 (-1)) 25 K) zl (uf (uf f 6 gm) 7 gw) fl 1) rfl ?_
      refine Rx.callx (m' := m_X12_look) (as := [.ref 0]) (rest := []) rfl (r_look1 _ (u1 (u1 (u1 (u1 (u1 z 8 0) 9 n) 10 a) 11 (-1)) 25 K) zl (uf (uf f 6 gm) 7 gw) fl n a 0 (-1) b hT hM (by omega) (by omega)) (fun v5 h6 q7 => ?_)
      obtain ⟨rfl, rfl⟩ := q7
      have k4a := sks_le n b a
      have k4b := sks_n (n := n) b (a := a) (by omega)
      have k4c := sg_bI hT (a := (sks n b a)) (by omega)
      refine Rx.walk 0 (pc' := 333) (L' := [some (.ref 0), some (.int (iz c1)), some (.int (iz t)), w3, w4]) (st' := [.int (iz (sg n b (sks n b a)))]) (h' := cmH (u1 (u1 (u1 (u1 (u1 z 8 0) 9 n) 10 (sks n b a)) 11 (-1)) 25 K) zl (uf (uf f 6 gm) 7 gw) fl 1) rfl ?_
      refine Rx.walk 1 (pc' := 334) (L' := [some (.ref 0), some (.int (iz c1)), some (.int (iz t)), w3, w4]) (st' := [.int (iz (-1)), .int (iz (sg n b (sks n b a)))]) (h' := cmH (u1 (u1 (u1 (u1 (u1 z 8 0) 9 n) 10 (sks n b a)) 11 (-1)) 25 K) zl (uf (uf f 6 gm) 7 gw) fl 1) rfl ?_
      refine Rx.eq2 rfl rfl ⟨by omega, by omega⟩ ⟨by omega, by omega⟩ (fun b8 => ?_) (fun b8 => ?_)
      · refine Rx.ret rfl ?_
        have e := ptP_e (k := k) (t := t) (a := a) (s := (gw 0, gw 1, gw 2)) (n := n) (b := b) (by omega)
        refine hP gw _ _ (by omega) (by omega) (Or.inl ?_)
        rw [e]
        exact ⟨rfl, fun x => by first | rfl | (change sg n b (sks n b a) = -1 at x; omega), fun x => by first | rfl | (change sg n b (sks n b a) ≠ -1 at x; omega)⟩
      · refine Rx.walk 1 (pc' := 338) (L' := [some (.ref 0), some (.int (iz c1)), some (.int (iz t)), w3, w4]) (st' := [.ref 0]) (h' := cmH (u1 (u1 (u1 (u1 (u1 z 8 0) 9 n) 10 (sks n b a)) 11 (-1)) 25 K) zl (uf (uf f 6 gm) 7 gw) fl 1) rfl ?_
        refine Rx.callx (m' := m_X12_fails) (as := [.ref 0]) (rest := []) rfl (r_failsN _ (u1 (u1 (u1 (u1 (u1 z 8 0) 9 n) 10 (sks n b a)) 11 (-1)) 25 K) zl (uf (uf f 6 gm) 7 gw) fl 1) (fun v9 h10 q11 => ?_)
        obtain ⟨rfl, rfl⟩ := q11
        refine Rx.walk 0 (pc' := 341) (L' := [some (.ref 0), some (.int (iz c1)), some (.int (iz t)), w3, w4]) (st' := [.int (iz 0)]) (h' := cmH (u1 (u1 (u1 (u1 (u1 z 8 0) 9 n) 10 (sks n b a)) 11 (sks n b a)) 25 K) zl (uf (uf f 6 gm) 7 gw) fl 1) rfl ?_
        refine Rx.walk 1 (pc' := 342) (L' := [some (.ref 0), some (.int (iz c1)), some (.int (iz t)), w3, w4]) (st' := []) (h' := cmH (u1 (u1 (u1 (u1 (u1 z 8 0) 9 n) 10 (sks n b a)) 11 (sks n b a)) 25 K) zl (uf (uf f 6 gm) 7 gw) fl 1) rfl ?_
        refine Rx.ret rfl ?_
        have e := ptP_e (k := k) (t := t) (a := a) (s := (gw 0, gw 1, gw 2)) (n := n) (b := b) (by omega)
        refine hP gw _ _ (by omega) (by omega) (Or.inl ?_)
        rw [e]
        exact ⟨rfl, fun x => by first | rfl | (change sg n b (sks n b a) = -1 at x; omega), fun x => by first | rfl | (change sg n b (sks n b a) ≠ -1 at x; omega)⟩
    · refine Rx.walk 1 (pc' := 184) (L' := [some (.ref 0), some (.int (iz c1)), some (.int (iz t)), w3, w4]) (st' := [.ref 0]) (h' := cmH (u1 (u1 (u1 (u1 (u1 z 8 0) 9 n) 10 a) 11 (-1)) 25 K) zl (uf (uf f 6 gm) 7 gw) fl 1) rfl ?_
      refine Rx.callx (m' := m_X12_look) (as := [.ref 0]) (rest := []) rfl (r_look1 _ (u1 (u1 (u1 (u1 (u1 z 8 0) 9 n) 10 a) 11 (-1)) 25 K) zl (uf (uf f 6 gm) 7 gw) fl n a 0 (-1) b hT hM (by omega) (by omega)) (fun v13 h14 q15 => ?_)
      obtain ⟨rfl, rfl⟩ := q15
      have k12a := sks_le n b a
      have k12b := sks_n (n := n) b (a := a) (by omega)
      have k12c := sg_bI hT (a := (sks n b a)) (by omega)
      refine Rx.walk 0 (pc' := 187) (L' := [some (.ref 0), some (.int (iz c1)), some (.int (iz t)), w3, w4]) (st' := [.int (iz (sg n b (sks n b a)))]) (h' := cmH (u1 (u1 (u1 (u1 (u1 z 8 0) 9 n) 10 (sks n b a)) 11 (-1)) 25 K) zl (uf (uf f 6 gm) 7 gw) fl 1) rfl ?_
      refine Rx.walk 1 (pc' := 189) (L' := [some (.ref 0), some (.int (iz c1)), some (.int (iz t)), w3, w4]) (st' := [.int (iz 59), .int (iz (sg n b (sks n b a)))]) (h' := cmH (u1 (u1 (u1 (u1 (u1 z 8 0) 9 n) 10 (sks n b a)) 11 (-1)) 25 K) zl (uf (uf f 6 gm) 7 gw) fl 1) rfl ?_
      refine Rx.ne2 rfl rfl ⟨by omega, by omega⟩ ⟨by omega, by omega⟩ (fun b16 => ?_) (fun b16 => ?_)
      · refine Rx.walk 3 (pc' := 326) (L' := [some (.ref 0), some (.int (iz c1)), some (.int (iz t)), w3, w4]) (st' := [.int (iz (-1)), .int (iz (-1))]) (h' := cmH (u1 (u1 (u1 (u1 (u1 z 8 0) 9 n) 10 (sks n b a)) 11 (-1)) 25 K) zl (uf (uf f 6 gm) 7 gw) fl 1) rfl ?_
        refine Rx.ne2 rfl rfl ⟨by omega, by omega⟩ ⟨by omega, by omega⟩ (fun b17 => by omega) (fun b17 => ?_)
        refine Rx.walk 1 (pc' := 330) (L' := [some (.ref 0), some (.int (iz c1)), some (.int (iz t)), w3, w4]) (st' := [.ref 0]) (h' := cmH (u1 (u1 (u1 (u1 (u1 z 8 0) 9 n) 10 (sks n b a)) 11 (-1)) 25 K) zl (uf (uf f 6 gm) 7 gw) fl 1) rfl ?_
        refine Rx.callx (m' := m_X12_look) (as := [.ref 0]) (rest := []) rfl (r_look1 _ (u1 (u1 (u1 (u1 (u1 z 8 0) 9 n) 10 (sks n b a)) 11 (-1)) 25 K) zl (uf (uf f 6 gm) 7 gw) fl n (sks n b a) 0 (-1) b hT hM (by omega) (by omega)) (fun v19 h20 q21 => ?_)
        obtain ⟨rfl, rfl⟩ := q21
        rw [sks_sks]
        have k18c := sg_bI hT (a := (sks n b a)) (by omega)
        refine Rx.walk 0 (pc' := 333) (L' := [some (.ref 0), some (.int (iz c1)), some (.int (iz t)), w3, w4]) (st' := [.int (iz (sg n b (sks n b a)))]) (h' := cmH (u1 (u1 (u1 (u1 (u1 z 8 0) 9 n) 10 (sks n b a)) 11 (-1)) 25 K) zl (uf (uf f 6 gm) 7 gw) fl 1) rfl ?_
        refine Rx.walk 1 (pc' := 334) (L' := [some (.ref 0), some (.int (iz c1)), some (.int (iz t)), w3, w4]) (st' := [.int (iz (-1)), .int (iz (sg n b (sks n b a)))]) (h' := cmH (u1 (u1 (u1 (u1 (u1 z 8 0) 9 n) 10 (sks n b a)) 11 (-1)) 25 K) zl (uf (uf f 6 gm) 7 gw) fl 1) rfl ?_
        refine Rx.eq2 rfl rfl ⟨by omega, by omega⟩ ⟨by omega, by omega⟩ (fun b22 => ?_) (fun b22 => ?_)
        · refine Rx.ret rfl ?_
          have e := ptP_e (k := k) (t := t) (a := a) (s := (gw 0, gw 1, gw 2)) (n := n) (b := b) (by omega)
          refine hP gw _ _ (by omega) (by omega) (Or.inl ?_)
          rw [e]
          exact ⟨rfl, fun x => by first | rfl | (change sg n b (sks n b a) = -1 at x; omega), fun x => by first | rfl | (change sg n b (sks n b a) ≠ -1 at x; omega)⟩
        · refine Rx.walk 1 (pc' := 338) (L' := [some (.ref 0), some (.int (iz c1)), some (.int (iz t)), w3, w4]) (st' := [.ref 0]) (h' := cmH (u1 (u1 (u1 (u1 (u1 z 8 0) 9 n) 10 (sks n b a)) 11 (-1)) 25 K) zl (uf (uf f 6 gm) 7 gw) fl 1) rfl ?_
          refine Rx.callx (m' := m_X12_fails) (as := [.ref 0]) (rest := []) rfl (r_failsN _ (u1 (u1 (u1 (u1 (u1 z 8 0) 9 n) 10 (sks n b a)) 11 (-1)) 25 K) zl (uf (uf f 6 gm) 7 gw) fl 1) (fun v23 h24 q25 => ?_)
          obtain ⟨rfl, rfl⟩ := q25
          refine Rx.walk 0 (pc' := 341) (L' := [some (.ref 0), some (.int (iz c1)), some (.int (iz t)), w3, w4]) (st' := [.int (iz 0)]) (h' := cmH (u1 (u1 (u1 (u1 (u1 z 8 0) 9 n) 10 (sks n b a)) 11 (sks n b a)) 25 K) zl (uf (uf f 6 gm) 7 gw) fl 1) rfl ?_
          refine Rx.walk 1 (pc' := 342) (L' := [some (.ref 0), some (.int (iz c1)), some (.int (iz t)), w3, w4]) (st' := []) (h' := cmH (u1 (u1 (u1 (u1 (u1 z 8 0) 9 n) 10 (sks n b a)) 11 (sks n b a)) 25 K) zl (uf (uf f 6 gm) 7 gw) fl 1) rfl ?_
          refine Rx.ret rfl ?_
          have e := ptP_e (k := k) (t := t) (a := a) (s := (gw 0, gw 1, gw 2)) (n := n) (b := b) (by omega)
          refine hP gw _ _ (by omega) (by omega) (Or.inl ?_)
          rw [e]
          exact ⟨rfl, fun x => by first | rfl | (change sg n b (sks n b a) = -1 at x; omega), fun x => by first | rfl | (change sg n b (sks n b a) ≠ -1 at x; omega)⟩
      · have hlt25 : (sks n b a) < n := by rcases Int.lt_or_le (sks n b a) n with x | x; exact x; have := sg_ge (b := b) x; omega
        refine Rx.walk 4 (pc' := 198) (L' := [some (.ref 0), some (.int (iz c1)), some (.int (iz t)), w3, w4]) (st' := [.int (iz 1), .int (iz (sks n b a)), .ref 0]) (h' := cmH (u1 (u1 (u1 (u1 (u1 z 8 0) 9 n) 10 (sks n b a)) 11 (-1)) 25 K) zl (uf (uf f 6 gm) 7 gw) fl 1) rfl ?_
        refine Rx.iadd rfl ?_
        refine Rx.walk 2 (pc' := 203) (L' := [some (.ref 0), some (.int (iz c1)), some (.int (iz t)), w3, w4]) (st' := [.ref 0]) (h' := cmH (u1 (u1 (u1 (u1 (u1 z 8 0) 9 n) 10 ((sks n b a) + 1)) 11 (-1)) 25 K) zl (uf (uf f 6 gm) 7 gw) fl 1) rfl ?_
        refine Rx.callx (m' := m_X12_look) (as := [.ref 0]) (rest := []) rfl (r_look1 _ (u1 (u1 (u1 (u1 (u1 z 8 0) 9 n) 10 ((sks n b a) + 1)) 11 (-1)) 25 K) zl (uf (uf f 6 gm) 7 gw) fl n ((sks n b a) + 1) 0 (-1) b hT hM (by omega) (by omega)) (fun v27 h28 q29 => ?_)
        obtain ⟨rfl, rfl⟩ := q29
        have k26a := sks_le n b ((sks n b a) + 1)
        have k26b := sks_n (n := n) b (a := ((sks n b a) + 1)) (by omega)
        have k26c := sg_bI hT (a := (sks n b ((sks n b a) + 1))) (by omega)
        refine Rx.walk 0 (pc' := 206) (L' := [some (.ref 0), some (.int (iz c1)), some (.int (iz t)), w3, w4]) (st' := [.int (iz (sg n b (sks n b ((sks n b a) + 1))))]) (h' := cmH (u1 (u1 (u1 (u1 (u1 z 8 0) 9 n) 10 (sks n b ((sks n b a) + 1))) 11 (-1)) 25 K) zl (uf (uf f 6 gm) 7 gw) fl 1) rfl ?_
        refine Rx.walk 1 (pc' := 208) (L' := [some (.ref 0), some (.int (iz c1)), some (.int (iz t)), w3, w4]) (st' := [.int (iz 112), .int (iz (sg n b (sks n b ((sks n b a) + 1))))]) (h' := cmH (u1 (u1 (u1 (u1 (u1 z 8 0) 9 n) 10 (sks n b ((sks n b a) + 1))) 11 (-1)) 25 K) zl (uf (uf f 6 gm) 7 gw) fl 1) rfl ?_
        refine Rx.ne2 rfl rfl ⟨by omega, by omega⟩ ⟨by omega, by omega⟩ (fun b30 => ?_) (fun b30 => ?_)
        · refine Rx.walk 1 (pc' := 216) (L' := [some (.ref 0), some (.int (iz c1)), some (.int (iz t)), w3, w4]) (st' := [.ref 0]) (h' := cmH (u1 (u1 (u1 (u1 (u1 z 8 0) 9 n) 10 (sks n b ((sks n b a) + 1))) 11 (-1)) 25 K) zl (uf (uf f 6 gm) 7 gw) fl 1) rfl ?_
          refine Rx.callx (m' := m_X12_look) (as := [.ref 0]) (rest := []) rfl (r_look1 _ (u1 (u1 (u1 (u1 (u1 z 8 0) 9 n) 10 (sks n b ((sks n b a) + 1))) 11 (-1)) 25 K) zl (uf (uf f 6 gm) 7 gw) fl n (sks n b ((sks n b a) + 1)) 0 (-1) b hT hM (by omega) (by omega)) (fun v32 h33 q34 => ?_)
          obtain ⟨rfl, rfl⟩ := q34
          rw [sks_sks]
          have k31c := sg_bI hT (a := (sks n b ((sks n b a) + 1))) (by omega)
          refine Rx.walk 0 (pc' := 219) (L' := [some (.ref 0), some (.int (iz c1)), some (.int (iz t)), w3, w4]) (st' := [.int (iz (sg n b (sks n b ((sks n b a) + 1))))]) (h' := cmH (u1 (u1 (u1 (u1 (u1 z 8 0) 9 n) 10 (sks n b ((sks n b a) + 1))) 11 (-1)) 25 K) zl (uf (uf f 6 gm) 7 gw) fl 1) rfl ?_
          refine Rx.walk 1 (pc' := 221) (L' := [some (.ref 0), some (.int (iz c1)), some (.int (iz t)), w3, w4]) (st' := [.int (iz 108), .int (iz (sg n b (sks n b ((sks n b a) + 1))))]) (h' := cmH (u1 (u1 (u1 (u1 (u1 z 8 0) 9 n) 10 (sks n b ((sks n b a) + 1))) 11 (-1)) 25 K) zl (uf (uf f 6 gm) 7 gw) fl 1) rfl ?_
          refine Rx.ne2 rfl rfl ⟨by omega, by omega⟩ ⟨by omega, by omega⟩ (fun b35 => ?_) (fun b35 => ?_)
          · refine Rx.walk 1 (pc' := 229) (L' := [some (.ref 0), some (.int (iz c1)), some (.int (iz t)), w3, w4]) (st' := [.ref 0]) (h' := cmH (u1 (u1 (u1 (u1 (u1 z 8 0) 9 n) 10 (sks n b ((sks n b a) + 1))) 11 (-1)) 25 K) zl (uf (uf f 6 gm) 7 gw) fl 1) rfl ?_
            refine Rx.callx (m' := m_X12_look) (as := [.ref 0]) (rest := []) rfl (r_look1 _ (u1 (u1 (u1 (u1 (u1 z 8 0) 9 n) 10 (sks n b ((sks n b a) + 1))) 11 (-1)) 25 K) zl (uf (uf f 6 gm) 7 gw) fl n (sks n b ((sks n b a) + 1)) 0 (-1) b hT hM (by omega) (by omega)) (fun v37 h38 q39 => ?_)
            obtain ⟨rfl, rfl⟩ := q39
            rw [sks_sks]
            have k36c := sg_bI hT (a := (sks n b ((sks n b a) + 1))) (by omega)
            refine Rx.walk 0 (pc' := 232) (L' := [some (.ref 0), some (.int (iz c1)), some (.int (iz t)), w3, w4]) (st' := [.int (iz (sg n b (sks n b ((sks n b a) + 1))))]) (h' := cmH (u1 (u1 (u1 (u1 (u1 z 8 0) 9 n) 10 (sks n b ((sks n b a) + 1))) 11 (-1)) 25 K) zl (uf (uf f 6 gm) 7 gw) fl 1) rfl ?_
            refine Rx.walk 1 (pc' := 234) (L' := [some (.ref 0), some (.int (iz c1)), some (.int (iz t)), w3, w4]) (st' := [.int (iz 116), .int (iz (sg n b (sks n b ((sks n b a) + 1))))]) (h' := cmH (u1 (u1 (u1 (u1 (u1 z 8 0) 9 n) 10 (sks n b ((sks n b a) + 1))) 11 (-1)) 25 K) zl (uf (uf f 6 gm) 7 gw) fl 1) rfl ?_
            refine Rx.ne2 rfl rfl ⟨by omega, by omega⟩ ⟨by omega, by omega⟩ (fun b40 => ?_) (fun b40 => ?_)
            · refine Rx.walk 4 (pc' := 245) (L' := [some (.ref 0), some (.int (iz c1)), some (.int (iz t)), some (.int (iz (-1))), w4]) (st' := [.int (iz t), .int (iz (-1))]) (h' := cmH (u1 (u1 (u1 (u1 (u1 z 8 0) 9 n) 10 (sks n b ((sks n b a) + 1))) 11 (-1)) 25 K) zl (uf (uf f 6 gm) 7 gw) fl 1) rfl ?_
              refine Rx.ge2 rfl rfl ⟨by omega, by omega⟩ ⟨by omega, by omega⟩ (fun b41 => by omega) (fun b41 => ?_)
              refine Rx.walk 1 (pc' := 249) (L' := [some (.ref 0), some (.int (iz c1)), some (.int (iz t)), some (.int (iz (-1))), w4]) (st' := [.ref 0]) (h' := cmH (u1 (u1 (u1 (u1 (u1 z 8 0) 9 n) 10 (sks n b ((sks n b a) + 1))) 11 (-1)) 25 K) zl (uf (uf f 6 gm) 7 gw) fl 1) rfl ?_
              refine Rx.callx (m' := m_X12_fails) (as := [.ref 0]) (rest := []) rfl (r_failsN _ (u1 (u1 (u1 (u1 (u1 z 8 0) 9 n) 10 (sks n b ((sks n b a) + 1))) 11 (-1)) 25 K) zl (uf (uf f 6 gm) 7 gw) fl 1) (fun v42 h43 q44 => ?_)
              obtain ⟨rfl, rfl⟩ := q44
              refine Rx.walk 0 (pc' := 252) (L' := [some (.ref 0), some (.int (iz c1)), some (.int (iz t)), some (.int (iz (-1))), w4]) (st' := [.int (iz 0)]) (h' := cmH (u1 (u1 (u1 (u1 (u1 z 8 0) 9 n) 10 (sks n b ((sks n b a) + 1))) 11 (sks n b ((sks n b a) + 1))) 25 K) zl (uf (uf f 6 gm) 7 gw) fl 1) rfl ?_
              refine Rx.walk 1 (pc' := 253) (L' := [some (.ref 0), some (.int (iz c1)), some (.int (iz t)), some (.int (iz (-1))), w4]) (st' := []) (h' := cmH (u1 (u1 (u1 (u1 (u1 z 8 0) 9 n) 10 (sks n b ((sks n b a) + 1))) 11 (sks n b ((sks n b a) + 1))) 25 K) zl (uf (uf f 6 gm) 7 gw) fl 1) rfl ?_
              refine Rx.ret rfl ?_
              obtain ⟨j, rfl⟩ : ∃ j, k = j + 1 := ⟨k - 1, by omega⟩
              have e := ptP_w (k := j) (t := t) (a := a) (s := (gw 0, gw 1, gw 2)) (n := n) (b := b) ⟨by omega, by omega⟩ (by rw [show wd (sg n b (sks n b (sks n b a + 1))) = (-1) from (by rcases wd_cases (sg n b (sks n b (sks n b a + 1))) with x | x | x | x <;> omega)]; omega)
              refine hP gw _ _ (by omega) (by omega) (Or.inr ?_)
              rw [e]
              exact ⟨rfl, rfl⟩
            · refine Rx.walk 5 (pc' := 245) (L' := [some (.ref 0), some (.int (iz c1)), some (.int (iz t)), some (.int (iz 2)), w4]) (st' := [.int (iz t), .int (iz 2)]) (h' := cmH (u1 (u1 (u1 (u1 (u1 z 8 0) 9 n) 10 (sks n b ((sks n b a) + 1))) 11 (-1)) 25 K) zl (uf (uf f 6 gm) 7 gw) fl 1) rfl ?_
              refine Rx.ge2 rfl rfl ⟨by omega, by omega⟩ ⟨by omega, by omega⟩ (fun b45 => ?_) (fun b45 => ?_)
              · have hlt45 : (sks n b ((sks n b a) + 1)) < n := by rcases Int.lt_or_le (sks n b ((sks n b a) + 1)) n with x | x; exact x; have := sg_ge (b := b) x; omega
                refine Rx.walk 4 (pc' := 260) (L' := [some (.ref 0), some (.int (iz c1)), some (.int (iz t)), some (.int (iz 2)), w4]) (st' := [.int (iz 1), .int (iz (sks n b ((sks n b a) + 1))), .ref 0]) (h' := cmH (u1 (u1 (u1 (u1 (u1 z 8 0) 9 n) 10 (sks n b ((sks n b a) + 1))) 11 (-1)) 25 K) zl (uf (uf f 6 gm) 7 gw) fl 1) rfl ?_
                refine Rx.iadd rfl ?_
                refine Rx.walk 3 (pc' := 266) (L' := [some (.ref 0), some (.int (iz c1)), some (.int (iz t)), some (.int (iz 2)), w4]) (st' := [.int (iz 1), .int (iz 2)]) (h' := cmH (u1 (u1 (u1 (u1 (u1 z 8 0) 9 n) 10 ((sks n b ((sks n b a) + 1)) + 1)) 11 (-1)) 25 K) zl (uf (uf f 6 gm) 7 gw) fl 1) rfl ?_
                refine Rx.iadd rfl ?_
                refine Rx.walk 0 (pc' := 267) (L' := [some (.ref 0), some (.int (iz c1)), some (.int (iz t)), some (.int (iz 2)), w4]) (st' := [.int (iz 3)]) (h' := cmH (u1 (u1 (u1 (u1 (u1 z 8 0) 9 n) 10 ((sks n b ((sks n b a) + 1)) + 1)) 11 (-1)) 25 K) zl (uf (uf f 6 gm) 7 gw) fl 1) rfl ?_
                refine Rx.walk 4 (pc' := 271) (L' := [some (.ref 0), some (.int (iz c1)), some (.int (iz 3)), some (.int (iz 2)), w4]) (st' := [.int (iz 2), .int (iz 2), .ref 0]) (h' := cmH (u1 (u1 (u1 (u1 (u1 z 8 0) 9 n) 10 ((sks n b ((sks n b a) + 1)) + 1)) 11 (-1)) 25 K) zl (uf (uf f 6 gm) 7 gw) fl 1) rfl ?_
                refine Rx.ne2 rfl rfl ⟨by omega, by omega⟩ ⟨by omega, by omega⟩ (fun b46 => by omega) (fun b46 => ?_)
                refine Rx.walk 3 (pc' := 280) (L' := [some (.ref 0), some (.int (iz c1)), some (.int (iz 3)), some (.int (iz 2)), w4]) (st' := [.int (iz 2), .int (iz 0), .ref 0]) (h' := cmH (u1 (u1 (u1 (u1 (u1 z 8 0) 9 n) 10 ((sks n b ((sks n b a) + 1)) + 1)) 11 (-1)) 25 K) zl (uf (uf f 6 gm) 7 gw) fl 1) rfl ?_
                refine Rx.ne1 rfl rfl ⟨by omega, by omega⟩ (fun b47 => ?_) (fun b47 => by omega)
                refine Rx.walk 2 (pc' := 289) (L' := [some (.ref 0), some (.int (iz c1)), some (.int (iz 3)), some (.int (iz 2)), w4]) (st' := [.int (iz 1), .int (iz 2), .int (iz 0), .ref 0]) (h' := cmH (u1 (u1 (u1 (u1 (u1 z 8 0) 9 n) 10 ((sks n b ((sks n b a) + 1)) + 1)) 11 (-1)) 25 K) zl (uf (uf f 6 gm) 7 gw) fl 1) rfl ?_
                refine Rx.ne2 rfl rfl ⟨by omega, by omega⟩ ⟨by omega, by omega⟩ (fun b48 => ?_) (fun b48 => by omega)
                refine Rx.walk 1 (pc' := 297) (L' := [some (.ref 0), some (.int (iz c1)), some (.int (iz 3)), some (.int (iz 2)), w4]) (st' := [.int (iz 1), .int (iz 0), .ref 0]) (h' := cmH (u1 (u1 (u1 (u1 (u1 z 8 0) 9 n) 10 ((sks n b ((sks n b a) + 1)) + 1)) 11 (-1)) 25 K) zl (uf (uf f 6 gm) 7 gw) fl 1) rfl ?_
                have uu49p := nmP_props (n := n) (b := b) (lo := 0) (hi := 1) (a := ((sks n b ((sks n b a) + 1)) + 1)) (by omega) (by omega)
                refine Rx.callx (m' := m_X12_number) (as := [.ref 0, .int (iz 0), .int (iz 1)]) (rest := []) rfl (r_number _ (u1 (u1 (u1 (u1 (u1 z 8 0) 9 n) 10 ((sks n b ((sks n b a) + 1)) + 1)) 11 (-1)) 25 K) zl (uf (uf f 6 gm) 7 gw) fl n ((sks n b ((sks n b a) + 1)) + 1) 0 0 1 b hT hM (by omega) (by omega) ⟨by omega, by omega⟩ ⟨by omega, by omega⟩) (fun v51 h52 q53 => ?_)
                rcases q53 with ⟨x50, uu49, rfl, rfl⟩ | ⟨uu49, rfl, rfl⟩
                · have uu49b := uu49p.2.2 x50 uu49
                  refine Rx.walk 0 (pc' := 300) (L' := [some (.ref 0), some (.int (iz c1)), some (.int (iz 3)), some (.int (iz 2)), w4]) (st' := [.int (iz x50)]) (h' := cmH (u1 (u1 (u1 (u1 (u1 z 8 0) 9 n) 10 ((nmP n b 0 1 ((sks n b ((sks n b a) + 1)) + 1)).1)) 11 (-1)) 25 K) zl (uf (uf f 6 gm) 7 gw) fl 1) rfl ?_
                  refine Rx.walk 4 (pc' := 307) (L' := [some (.ref 0), some (.int (iz c1)), some (.int (iz 3)), some (.int (iz 2)), some (.int (iz x50))]) (st' := [.int (iz (-1)), .int (iz (-1))]) (h' := cmH (u1 (u1 (u1 (u1 (u1 z 8 0) 9 n) 10 ((nmP n b 0 1 ((sks n b ((sks n b a) + 1)) + 1)).1)) 11 (-1)) 25 K) zl (uf (uf f 6 gm) 7 gw) fl 1) rfl ?_
                  refine Rx.ne2 rfl rfl ⟨by omega, by omega⟩ ⟨by omega, by omega⟩ (fun b54 => by omega) (fun b54 => ?_)
                  refine Rx.walk 4 (pc' := 317) (L' := [some (.ref 0), some (.int (iz c1)), some (.int (iz 3)), some (.int (iz 2)), some (.int (iz x50))]) (st' := [.int (iz x50), .int (iz 2), .ref 7]) (h' := cmH (u1 (u1 (u1 (u1 (u1 z 8 0) 9 n) 10 ((nmP n b 0 1 ((sks n b ((sks n b a) + 1)) + 1)).1)) 11 (-1)) 25 K) zl (uf (uf f 6 gm) 7 gw) fl 1) rfl ?_
                  refine Rx.ias (h' := cmH (u1 (u1 (u1 (u1 (u1 z 8 0) 9 n) 10 ((nmP n b 0 1 ((sks n b ((sks n b a) + 1)) + 1)).1)) 11 (-1)) 25 K) zl (uf (uf f 6 gm) 7 (iu gw 2 x50)) fl 1) rfl rfl (by omega) (by omega) (by omega) rfl ?_
                  refine Rx.walk 1 (pc' := 170) (L' := [some (.ref 0), some (.int (iz c1)), some (.int (iz 3)), some (.int (iz 2)), some (.int (iz x50))]) (st' := []) (h' := cmH (u1 (u1 (u1 (u1 (u1 z 8 0) 9 n) 10 ((nmP n b 0 1 ((sks n b ((sks n b a) + 1)) + 1)).1)) 11 (-1)) 25 K) zl (uf (uf f 6 gm) 7 (iu gw 2 x50)) fl 1) rfl ?_
                  obtain ⟨j, rfl⟩ : ∃ j, k = j + 1 := ⟨k - 1, by omega⟩
                  have e := ptP_s (k := j) (t := t) (a := a) (s := (gw 0, gw 1, gw 2)) (n := n) (b := b) ⟨by omega, by omega⟩ (w := 2) (by rcases wd_cases (sg n b (sks n b (sks n b a + 1))) with x | x | x | x <;> omega) (by omega) uu49
                  have e2 : ptS (gw 0, gw 1, gw 2) 2 x50 = ((iu gw 2 x50) 0, (iu gw 2 x50) 1, (iu gw 2 x50) 2) := rfl
                  rw [e2] at e
                  refine ih j (by omega) _ (iu gw 2 x50) _ _ _ _ (by omega) (by omega) (by omega) (by omega) (by omega) (fun gw' a' fa' q1 q2 q3 => hP gw' a' fa' q1 q2 ?_)
                  rw [e]
                  exact q3
                · refine Rx.walk 0 (pc' := 300) (L' := [some (.ref 0), some (.int (iz c1)), some (.int (iz 3)), some (.int (iz 2)), w4]) (st' := [.int (iz (-1))]) (h' := cmH (u1 (u1 (u1 (u1 (u1 z 8 0) 9 n) 10 ((nmP n b 0 1 ((sks n b ((sks n b a) + 1)) + 1)).1)) 11 ((nmP n b 0 1 ((sks n b ((sks n b a) + 1)) + 1)).1)) 25 K) zl (uf (uf f 6 gm) 7 gw) fl 1) rfl ?_
                  refine Rx.walk 4 (pc' := 307) (L' := [some (.ref 0), some (.int (iz c1)), some (.int (iz 3)), some (.int (iz 2)), some (.int (iz (-1)))]) (st' := [.int (iz (-1)), .int (iz ((nmP n b 0 1 ((sks n b ((sks n b a) + 1)) + 1)).1))]) (h' := cmH (u1 (u1 (u1 (u1 (u1 z 8 0) 9 n) 10 ((nmP n b 0 1 ((sks n b ((sks n b a) + 1)) + 1)).1)) 11 ((nmP n b 0 1 ((sks n b ((sks n b a) + 1)) + 1)).1)) 25 K) zl (uf (uf f 6 gm) 7 gw) fl 1) rfl ?_
                  refine Rx.ne2 rfl rfl ⟨by omega, by omega⟩ ⟨by omega, by omega⟩ (fun b55 => ?_) (fun b55 => by omega)
                  refine Rx.walk 4 (pc' := 175) (L' := [some (.ref 0), some (.int (iz c1)), some (.int (iz 3)), some (.int (iz 2)), some (.int (iz (-1)))]) (st' := [.int (iz (-1)), .int (iz ((nmP n b 0 1 ((sks n b ((sks n b a) + 1)) + 1)).1))]) (h' := cmH (u1 (u1 (u1 (u1 (u1 z 8 0) 9 n) 10 ((nmP n b 0 1 ((sks n b ((sks n b a) + 1)) + 1)).1)) 11 ((nmP n b 0 1 ((sks n b ((sks n b a) + 1)) + 1)).1)) 25 K) zl (uf (uf f 6 gm) 7 gw) fl 1) rfl ?_
                  refine Rx.ne2 rfl rfl ⟨by omega, by omega⟩ ⟨by omega, by omega⟩ (fun b56 => ?_) (fun b56 => by omega)
                  refine Rx.walk 3 (pc' := 326) (L' := [some (.ref 0), some (.int (iz c1)), some (.int (iz 3)), some (.int (iz 2)), some (.int (iz (-1)))]) (st' := [.int (iz (-1)), .int (iz ((nmP n b 0 1 ((sks n b ((sks n b a) + 1)) + 1)).1))]) (h' := cmH (u1 (u1 (u1 (u1 (u1 z 8 0) 9 n) 10 ((nmP n b 0 1 ((sks n b ((sks n b a) + 1)) + 1)).1)) 11 ((nmP n b 0 1 ((sks n b ((sks n b a) + 1)) + 1)).1)) 25 K) zl (uf (uf f 6 gm) 7 gw) fl 1) rfl ?_
                  refine Rx.ne2 rfl rfl ⟨by omega, by omega⟩ ⟨by omega, by omega⟩ (fun b57 => ?_) (fun b57 => by omega)
                  refine Rx.ret rfl ?_
                  obtain ⟨j, rfl⟩ : ∃ j, k = j + 1 := ⟨k - 1, by omega⟩
                  have e := ptP_n (k := j) (t := t) (a := a) (s := (gw 0, gw 1, gw 2)) (n := n) (b := b) ⟨by omega, by omega⟩ (w := 2) (by rcases wd_cases (sg n b (sks n b (sks n b a + 1))) with x | x | x | x <;> omega) (by omega) uu49
                  refine hP gw _ _ (by omega) (by omega) (Or.inr ?_)
                  rw [e]
                  exact ⟨rfl, rfl⟩
              · refine Rx.walk 1 (pc' := 249) (L' := [some (.ref 0), some (.int (iz c1)), some (.int (iz t)), some (.int (iz 2)), w4]) (st' := [.ref 0]) (h' := cmH (u1 (u1 (u1 (u1 (u1 z 8 0) 9 n) 10 (sks n b ((sks n b a) + 1))) 11 (-1)) 25 K) zl (uf (uf f 6 gm) 7 gw) fl 1) rfl ?_
                refine Rx.callx (m' := m_X12_fails) (as := [.ref 0]) (rest := []) rfl (r_failsN _ (u1 (u1 (u1 (u1 (u1 z 8 0) 9 n) 10 (sks n b ((sks n b a) + 1))) 11 (-1)) 25 K) zl (uf (uf f 6 gm) 7 gw) fl 1) (fun v58 h59 q60 => ?_)
                obtain ⟨rfl, rfl⟩ := q60
                refine Rx.walk 0 (pc' := 252) (L' := [some (.ref 0), some (.int (iz c1)), some (.int (iz t)), some (.int (iz 2)), w4]) (st' := [.int (iz 0)]) (h' := cmH (u1 (u1 (u1 (u1 (u1 z 8 0) 9 n) 10 (sks n b ((sks n b a) + 1))) 11 (sks n b ((sks n b a) + 1))) 25 K) zl (uf (uf f 6 gm) 7 gw) fl 1) rfl ?_
                refine Rx.walk 1 (pc' := 253) (L' := [some (.ref 0), some (.int (iz c1)), some (.int (iz t)), some (.int (iz 2)), w4]) (st' := []) (h' := cmH (u1 (u1 (u1 (u1 (u1 z 8 0) 9 n) 10 (sks n b ((sks n b a) + 1))) 11 (sks n b ((sks n b a) + 1))) 25 K) zl (uf (uf f 6 gm) 7 gw) fl 1) rfl ?_
                refine Rx.ret rfl ?_
                obtain ⟨j, rfl⟩ : ∃ j, k = j + 1 := ⟨k - 1, by omega⟩
                have e := ptP_w (k := j) (t := t) (a := a) (s := (gw 0, gw 1, gw 2)) (n := n) (b := b) ⟨by omega, by omega⟩ (by rw [show wd (sg n b (sks n b (sks n b a + 1))) = 2 from (by rcases wd_cases (sg n b (sks n b (sks n b a + 1))) with x | x | x | x <;> omega)]; omega)
                refine hP gw _ _ (by omega) (by omega) (Or.inr ?_)
                rw [e]
                exact ⟨rfl, rfl⟩
          · refine Rx.walk 5 (pc' := 245) (L' := [some (.ref 0), some (.int (iz c1)), some (.int (iz t)), some (.int (iz 1)), w4]) (st' := [.int (iz t), .int (iz 1)]) (h' := cmH (u1 (u1 (u1 (u1 (u1 z 8 0) 9 n) 10 (sks n b ((sks n b a) + 1))) 11 (-1)) 25 K) zl (uf (uf f 6 gm) 7 gw) fl 1) rfl ?_
            refine Rx.ge2 rfl rfl ⟨by omega, by omega⟩ ⟨by omega, by omega⟩ (fun b61 => ?_) (fun b61 => ?_)
            · have hlt61 : (sks n b ((sks n b a) + 1)) < n := by rcases Int.lt_or_le (sks n b ((sks n b a) + 1)) n with x | x; exact x; have := sg_ge (b := b) x; omega
              refine Rx.walk 4 (pc' := 260) (L' := [some (.ref 0), some (.int (iz c1)), some (.int (iz t)), some (.int (iz 1)), w4]) (st' := [.int (iz 1), .int (iz (sks n b ((sks n b a) + 1))), .ref 0]) (h' := cmH (u1 (u1 (u1 (u1 (u1 z 8 0) 9 n) 10 (sks n b ((sks n b a) + 1))) 11 (-1)) 25 K) zl (uf (uf f 6 gm) 7 gw) fl 1) rfl ?_
              refine Rx.iadd rfl ?_
              refine Rx.walk 3 (pc' := 266) (L' := [some (.ref 0), some (.int (iz c1)), some (.int (iz t)), some (.int (iz 1)), w4]) (st' := [.int (iz 1), .int (iz 1)]) (h' := cmH (u1 (u1 (u1 (u1 (u1 z 8 0) 9 n) 10 ((sks n b ((sks n b a) + 1)) + 1)) 11 (-1)) 25 K) zl (uf (uf f 6 gm) 7 gw) fl 1) rfl ?_
              refine Rx.iadd rfl ?_
              refine Rx.walk 0 (pc' := 267) (L' := [some (.ref 0), some (.int (iz c1)), some (.int (iz t)), some (.int (iz 1)), w4]) (st' := [.int (iz 2)]) (h' := cmH (u1 (u1 (u1 (u1 (u1 z 8 0) 9 n) 10 ((sks n b ((sks n b a) + 1)) + 1)) 11 (-1)) 25 K) zl (uf (uf f 6 gm) 7 gw) fl 1) rfl ?_
              refine Rx.walk 4 (pc' := 271) (L' := [some (.ref 0), some (.int (iz c1)), some (.int (iz 2)), some (.int (iz 1)), w4]) (st' := [.int (iz 2), .int (iz 1), .ref 0]) (h' := cmH (u1 (u1 (u1 (u1 (u1 z 8 0) 9 n) 10 ((sks n b ((sks n b a) + 1)) + 1)) 11 (-1)) 25 K) zl (uf (uf f 6 gm) 7 gw) fl 1) rfl ?_
              refine Rx.ne2 rfl rfl ⟨by omega, by omega⟩ ⟨by omega, by omega⟩ (fun b62 => ?_) (fun b62 => by omega)
              refine Rx.walk 2 (pc' := 280) (L' := [some (.ref 0), some (.int (iz c1)), some (.int (iz 2)), some (.int (iz 1)), w4]) (st' := [.int (iz 1), .int (iz 1), .ref 0]) (h' := cmH (u1 (u1 (u1 (u1 (u1 z 8 0) 9 n) 10 ((sks n b ((sks n b a) + 1)) + 1)) 11 (-1)) 25 K) zl (uf (uf f 6 gm) 7 gw) fl 1) rfl ?_
              refine Rx.ne1 rfl rfl ⟨by omega, by omega⟩ (fun b63 => ?_) (fun b63 => by omega)
              refine Rx.walk 2 (pc' := 289) (L' := [some (.ref 0), some (.int (iz c1)), some (.int (iz 2)), some (.int (iz 1)), w4]) (st' := [.int (iz 1), .int (iz 1), .int (iz 1), .ref 0]) (h' := cmH (u1 (u1 (u1 (u1 (u1 z 8 0) 9 n) 10 ((sks n b ((sks n b a) + 1)) + 1)) 11 (-1)) 25 K) zl (uf (uf f 6 gm) 7 gw) fl 1) rfl ?_
              refine Rx.ne2 rfl rfl ⟨by omega, by omega⟩ ⟨by omega, by omega⟩ (fun b64 => by omega) (fun b64 => ?_)
              refine Rx.walk 2 (pc' := 297) (L' := [some (.ref 0), some (.int (iz c1)), some (.int (iz 2)), some (.int (iz 1)), w4]) (st' := [.int (iz 5), .int (iz 1), .ref 0]) (h' := cmH (u1 (u1 (u1 (u1 (u1 z 8 0) 9 n) 10 ((sks n b ((sks n b a) + 1)) + 1)) 11 (-1)) 25 K) zl (uf (uf f 6 gm) 7 gw) fl 1) rfl ?_
              have uu65p := nmP_props (n := n) (b := b) (lo := 1) (hi := 5) (a := ((sks n b ((sks n b a) + 1)) + 1)) (by omega) (by omega)
              refine Rx.callx (m' := m_X12_number) (as := [.ref 0, .int (iz 1), .int (iz 5)]) (rest := []) rfl (r_number _ (u1 (u1 (u1 (u1 (u1 z 8 0) 9 n) 10 ((sks n b ((sks n b a) + 1)) + 1)) 11 (-1)) 25 K) zl (uf (uf f 6 gm) 7 gw) fl n ((sks n b ((sks n b a) + 1)) + 1) 0 1 5 b hT hM (by omega) (by omega) ⟨by omega, by omega⟩ ⟨by omega, by omega⟩) (fun v67 h68 q69 => ?_)
              rcases q69 with ⟨x66, uu65, rfl, rfl⟩ | ⟨uu65, rfl, rfl⟩
              · have uu65b := uu65p.2.2 x66 uu65
                refine Rx.walk 0 (pc' := 300) (L' := [some (.ref 0), some (.int (iz c1)), some (.int (iz 2)), some (.int (iz 1)), w4]) (st' := [.int (iz x66)]) (h' := cmH (u1 (u1 (u1 (u1 (u1 z 8 0) 9 n) 10 ((nmP n b 1 5 ((sks n b ((sks n b a) + 1)) + 1)).1)) 11 (-1)) 25 K) zl (uf (uf f 6 gm) 7 gw) fl 1) rfl ?_
                refine Rx.walk 4 (pc' := 307) (L' := [some (.ref 0), some (.int (iz c1)), some (.int (iz 2)), some (.int (iz 1)), some (.int (iz x66))]) (st' := [.int (iz (-1)), .int (iz (-1))]) (h' := cmH (u1 (u1 (u1 (u1 (u1 z 8 0) 9 n) 10 ((nmP n b 1 5 ((sks n b ((sks n b a) + 1)) + 1)).1)) 11 (-1)) 25 K) zl (uf (uf f 6 gm) 7 gw) fl 1) rfl ?_
                refine Rx.ne2 rfl rfl ⟨by omega, by omega⟩ ⟨by omega, by omega⟩ (fun b70 => by omega) (fun b70 => ?_)
                refine Rx.walk 4 (pc' := 317) (L' := [some (.ref 0), some (.int (iz c1)), some (.int (iz 2)), some (.int (iz 1)), some (.int (iz x66))]) (st' := [.int (iz x66), .int (iz 1), .ref 7]) (h' := cmH (u1 (u1 (u1 (u1 (u1 z 8 0) 9 n) 10 ((nmP n b 1 5 ((sks n b ((sks n b a) + 1)) + 1)).1)) 11 (-1)) 25 K) zl (uf (uf f 6 gm) 7 gw) fl 1) rfl ?_
                refine Rx.ias (h' := cmH (u1 (u1 (u1 (u1 (u1 z 8 0) 9 n) 10 ((nmP n b 1 5 ((sks n b ((sks n b a) + 1)) + 1)).1)) 11 (-1)) 25 K) zl (uf (uf f 6 gm) 7 (iu gw 1 x66)) fl 1) rfl rfl (by omega) (by omega) (by omega) rfl ?_
                refine Rx.walk 1 (pc' := 170) (L' := [some (.ref 0), some (.int (iz c1)), some (.int (iz 2)), some (.int (iz 1)), some (.int (iz x66))]) (st' := []) (h' := cmH (u1 (u1 (u1 (u1 (u1 z 8 0) 9 n) 10 ((nmP n b 1 5 ((sks n b ((sks n b a) + 1)) + 1)).1)) 11 (-1)) 25 K) zl (uf (uf f 6 gm) 7 (iu gw 1 x66)) fl 1) rfl ?_
                obtain ⟨j, rfl⟩ : ∃ j, k = j + 1 := ⟨k - 1, by omega⟩
                have e := ptP_s (k := j) (t := t) (a := a) (s := (gw 0, gw 1, gw 2)) (n := n) (b := b) ⟨by omega, by omega⟩ (w := 1) (by rcases wd_cases (sg n b (sks n b (sks n b a + 1))) with x | x | x | x <;> omega) (by omega) uu65
                have e2 : ptS (gw 0, gw 1, gw 2) 1 x66 = ((iu gw 1 x66) 0, (iu gw 1 x66) 1, (iu gw 1 x66) 2) := rfl
                rw [e2] at e
                refine ih j (by omega) _ (iu gw 1 x66) _ _ _ _ (by omega) (by omega) (by omega) (by omega) (by omega) (fun gw' a' fa' q1 q2 q3 => hP gw' a' fa' q1 q2 ?_)
                rw [e]
                exact q3
              · refine Rx.walk 0 (pc' := 300) (L' := [some (.ref 0), some (.int (iz c1)), some (.int (iz 2)), some (.int (iz 1)), w4]) (st' := [.int (iz (-1))]) (h' := cmH (u1 (u1 (u1 (u1 (u1 z 8 0) 9 n) 10 ((nmP n b 1 5 ((sks n b ((sks n b a) + 1)) + 1)).1)) 11 ((nmP n b 1 5 ((sks n b ((sks n b a) + 1)) + 1)).1)) 25 K) zl (uf (uf f 6 gm) 7 gw) fl 1) rfl ?_
                refine Rx.walk 4 (pc' := 307) (L' := [some (.ref 0), some (.int (iz c1)), some (.int (iz 2)), some (.int (iz 1)), some (.int (iz (-1)))]) (st' := [.int (iz (-1)), .int (iz ((nmP n b 1 5 ((sks n b ((sks n b a) + 1)) + 1)).1))]) (h' := cmH (u1 (u1 (u1 (u1 (u1 z 8 0) 9 n) 10 ((nmP n b 1 5 ((sks n b ((sks n b a) + 1)) + 1)).1)) 11 ((nmP n b 1 5 ((sks n b ((sks n b a) + 1)) + 1)).1)) 25 K) zl (uf (uf f 6 gm) 7 gw) fl 1) rfl ?_
                refine Rx.ne2 rfl rfl ⟨by omega, by omega⟩ ⟨by omega, by omega⟩ (fun b71 => ?_) (fun b71 => by omega)
                refine Rx.walk 4 (pc' := 175) (L' := [some (.ref 0), some (.int (iz c1)), some (.int (iz 2)), some (.int (iz 1)), some (.int (iz (-1)))]) (st' := [.int (iz (-1)), .int (iz ((nmP n b 1 5 ((sks n b ((sks n b a) + 1)) + 1)).1))]) (h' := cmH (u1 (u1 (u1 (u1 (u1 z 8 0) 9 n) 10 ((nmP n b 1 5 ((sks n b ((sks n b a) + 1)) + 1)).1)) 11 ((nmP n b 1 5 ((sks n b ((sks n b a) + 1)) + 1)).1)) 25 K) zl (uf (uf f 6 gm) 7 gw) fl 1) rfl ?_
                refine Rx.ne2 rfl rfl ⟨by omega, by omega⟩ ⟨by omega, by omega⟩ (fun b72 => ?_) (fun b72 => by omega)
                refine Rx.walk 3 (pc' := 326) (L' := [some (.ref 0), some (.int (iz c1)), some (.int (iz 2)), some (.int (iz 1)), some (.int (iz (-1)))]) (st' := [.int (iz (-1)), .int (iz ((nmP n b 1 5 ((sks n b ((sks n b a) + 1)) + 1)).1))]) (h' := cmH (u1 (u1 (u1 (u1 (u1 z 8 0) 9 n) 10 ((nmP n b 1 5 ((sks n b ((sks n b a) + 1)) + 1)).1)) 11 ((nmP n b 1 5 ((sks n b ((sks n b a) + 1)) + 1)).1)) 25 K) zl (uf (uf f 6 gm) 7 gw) fl 1) rfl ?_
                refine Rx.ne2 rfl rfl ⟨by omega, by omega⟩ ⟨by omega, by omega⟩ (fun b73 => ?_) (fun b73 => by omega)
                refine Rx.ret rfl ?_
                obtain ⟨j, rfl⟩ : ∃ j, k = j + 1 := ⟨k - 1, by omega⟩
                have e := ptP_n (k := j) (t := t) (a := a) (s := (gw 0, gw 1, gw 2)) (n := n) (b := b) ⟨by omega, by omega⟩ (w := 1) (by rcases wd_cases (sg n b (sks n b (sks n b a + 1))) with x | x | x | x <;> omega) (by omega) uu65
                refine hP gw _ _ (by omega) (by omega) (Or.inr ?_)
                rw [e]
                exact ⟨rfl, rfl⟩
            · refine Rx.walk 1 (pc' := 249) (L' := [some (.ref 0), some (.int (iz c1)), some (.int (iz t)), some (.int (iz 1)), w4]) (st' := [.ref 0]) (h' := cmH (u1 (u1 (u1 (u1 (u1 z 8 0) 9 n) 10 (sks n b ((sks n b a) + 1))) 11 (-1)) 25 K) zl (uf (uf f 6 gm) 7 gw) fl 1) rfl ?_
              refine Rx.callx (m' := m_X12_fails) (as := [.ref 0]) (rest := []) rfl (r_failsN _ (u1 (u1 (u1 (u1 (u1 z 8 0) 9 n) 10 (sks n b ((sks n b a) + 1))) 11 (-1)) 25 K) zl (uf (uf f 6 gm) 7 gw) fl 1) (fun v74 h75 q76 => ?_)
              obtain ⟨rfl, rfl⟩ := q76
              refine Rx.walk 0 (pc' := 252) (L' := [some (.ref 0), some (.int (iz c1)), some (.int (iz t)), some (.int (iz 1)), w4]) (st' := [.int (iz 0)]) (h' := cmH (u1 (u1 (u1 (u1 (u1 z 8 0) 9 n) 10 (sks n b ((sks n b a) + 1))) 11 (sks n b ((sks n b a) + 1))) 25 K) zl (uf (uf f 6 gm) 7 gw) fl 1) rfl ?_
              refine Rx.walk 1 (pc' := 253) (L' := [some (.ref 0), some (.int (iz c1)), some (.int (iz t)), some (.int (iz 1)), w4]) (st' := []) (h' := cmH (u1 (u1 (u1 (u1 (u1 z 8 0) 9 n) 10 (sks n b ((sks n b a) + 1))) 11 (sks n b ((sks n b a) + 1))) 25 K) zl (uf (uf f 6 gm) 7 gw) fl 1) rfl ?_
              refine Rx.ret rfl ?_
              obtain ⟨j, rfl⟩ : ∃ j, k = j + 1 := ⟨k - 1, by omega⟩
              have e := ptP_w (k := j) (t := t) (a := a) (s := (gw 0, gw 1, gw 2)) (n := n) (b := b) ⟨by omega, by omega⟩ (by rw [show wd (sg n b (sks n b (sks n b a + 1))) = 1 from (by rcases wd_cases (sg n b (sks n b (sks n b a + 1))) with x | x | x | x <;> omega)]; omega)
              refine hP gw _ _ (by omega) (by omega) (Or.inr ?_)
              rw [e]
              exact ⟨rfl, rfl⟩
        · refine Rx.walk 5 (pc' := 245) (L' := [some (.ref 0), some (.int (iz c1)), some (.int (iz t)), some (.int (iz 0)), w4]) (st' := [.int (iz t), .int (iz 0)]) (h' := cmH (u1 (u1 (u1 (u1 (u1 z 8 0) 9 n) 10 (sks n b ((sks n b a) + 1))) 11 (-1)) 25 K) zl (uf (uf f 6 gm) 7 gw) fl 1) rfl ?_
          refine Rx.ge2 rfl rfl ⟨by omega, by omega⟩ ⟨by omega, by omega⟩ (fun b77 => ?_) (fun b77 => ?_)
          · have hlt77 : (sks n b ((sks n b a) + 1)) < n := by rcases Int.lt_or_le (sks n b ((sks n b a) + 1)) n with x | x; exact x; have := sg_ge (b := b) x; omega
            refine Rx.walk 4 (pc' := 260) (L' := [some (.ref 0), some (.int (iz c1)), some (.int (iz t)), some (.int (iz 0)), w4]) (st' := [.int (iz 1), .int (iz (sks n b ((sks n b a) + 1))), .ref 0]) (h' := cmH (u1 (u1 (u1 (u1 (u1 z 8 0) 9 n) 10 (sks n b ((sks n b a) + 1))) 11 (-1)) 25 K) zl (uf (uf f 6 gm) 7 gw) fl 1) rfl ?_
            refine Rx.iadd rfl ?_
            refine Rx.walk 3 (pc' := 266) (L' := [some (.ref 0), some (.int (iz c1)), some (.int (iz t)), some (.int (iz 0)), w4]) (st' := [.int (iz 1), .int (iz 0)]) (h' := cmH (u1 (u1 (u1 (u1 (u1 z 8 0) 9 n) 10 ((sks n b ((sks n b a) + 1)) + 1)) 11 (-1)) 25 K) zl (uf (uf f 6 gm) 7 gw) fl 1) rfl ?_
            refine Rx.iadd rfl ?_
            refine Rx.walk 0 (pc' := 267) (L' := [some (.ref 0), some (.int (iz c1)), some (.int (iz t)), some (.int (iz 0)), w4]) (st' := [.int (iz 1)]) (h' := cmH (u1 (u1 (u1 (u1 (u1 z 8 0) 9 n) 10 ((sks n b ((sks n b a) + 1)) + 1)) 11 (-1)) 25 K) zl (uf (uf f 6 gm) 7 gw) fl 1) rfl ?_
            refine Rx.walk 4 (pc' := 271) (L' := [some (.ref 0), some (.int (iz c1)), some (.int (iz 1)), some (.int (iz 0)), w4]) (st' := [.int (iz 2), .int (iz 0), .ref 0]) (h' := cmH (u1 (u1 (u1 (u1 (u1 z 8 0) 9 n) 10 ((sks n b ((sks n b a) + 1)) + 1)) 11 (-1)) 25 K) zl (uf (uf f 6 gm) 7 gw) fl 1) rfl ?_
            refine Rx.ne2 rfl rfl ⟨by omega, by omega⟩ ⟨by omega, by omega⟩ (fun b78 => ?_) (fun b78 => by omega)
            refine Rx.walk 2 (pc' := 280) (L' := [some (.ref 0), some (.int (iz c1)), some (.int (iz 1)), some (.int (iz 0)), w4]) (st' := [.int (iz 0), .int (iz 1), .ref 0]) (h' := cmH (u1 (u1 (u1 (u1 (u1 z 8 0) 9 n) 10 ((sks n b ((sks n b a) + 1)) + 1)) 11 (-1)) 25 K) zl (uf (uf f 6 gm) 7 gw) fl 1) rfl ?_
            refine Rx.ne1 rfl rfl ⟨by omega, by omega⟩ (fun b79 => by omega) (fun b79 => ?_)
            refine Rx.walk 2 (pc' := 297) (L' := [some (.ref 0), some (.int (iz c1)), some (.int (iz 1)), some (.int (iz 0)), w4]) (st' := [.int (iz 2), .int (iz 1), .ref 0]) (h' := cmH (u1 (u1 (u1 (u1 (u1 z 8 0) 9 n) 10 ((sks n b ((sks n b a) + 1)) + 1)) 11 (-1)) 25 K) zl (uf (uf f 6 gm) 7 gw) fl 1) rfl ?_
            have uu80p := nmP_props (n := n) (b := b) (lo := 1) (hi := 2) (a := ((sks n b ((sks n b a) + 1)) + 1)) (by omega) (by omega)
            refine Rx.callx (m' := m_X12_number) (as := [.ref 0, .int (iz 1), .int (iz 2)]) (rest := []) rfl (r_number _ (u1 (u1 (u1 (u1 (u1 z 8 0) 9 n) 10 ((sks n b ((sks n b a) + 1)) + 1)) 11 (-1)) 25 K) zl (uf (uf f 6 gm) 7 gw) fl n ((sks n b ((sks n b a) + 1)) + 1) 0 1 2 b hT hM (by omega) (by omega) ⟨by omega, by omega⟩ ⟨by omega, by omega⟩) (fun v82 h83 q84 => ?_)
            rcases q84 with ⟨x81, uu80, rfl, rfl⟩ | ⟨uu80, rfl, rfl⟩
            · have uu80b := uu80p.2.2 x81 uu80
              refine Rx.walk 0 (pc' := 300) (L' := [some (.ref 0), some (.int (iz c1)), some (.int (iz 1)), some (.int (iz 0)), w4]) (st' := [.int (iz x81)]) (h' := cmH (u1 (u1 (u1 (u1 (u1 z 8 0) 9 n) 10 ((nmP n b 1 2 ((sks n b ((sks n b a) + 1)) + 1)).1)) 11 (-1)) 25 K) zl (uf (uf f 6 gm) 7 gw) fl 1) rfl ?_
              refine Rx.walk 4 (pc' := 307) (L' := [some (.ref 0), some (.int (iz c1)), some (.int (iz 1)), some (.int (iz 0)), some (.int (iz x81))]) (st' := [.int (iz (-1)), .int (iz (-1))]) (h' := cmH (u1 (u1 (u1 (u1 (u1 z 8 0) 9 n) 10 ((nmP n b 1 2 ((sks n b ((sks n b a) + 1)) + 1)).1)) 11 (-1)) 25 K) zl (uf (uf f 6 gm) 7 gw) fl 1) rfl ?_
              refine Rx.ne2 rfl rfl ⟨by omega, by omega⟩ ⟨by omega, by omega⟩ (fun b85 => by omega) (fun b85 => ?_)
              refine Rx.walk 4 (pc' := 317) (L' := [some (.ref 0), some (.int (iz c1)), some (.int (iz 1)), some (.int (iz 0)), some (.int (iz x81))]) (st' := [.int (iz x81), .int (iz 0), .ref 7]) (h' := cmH (u1 (u1 (u1 (u1 (u1 z 8 0) 9 n) 10 ((nmP n b 1 2 ((sks n b ((sks n b a) + 1)) + 1)).1)) 11 (-1)) 25 K) zl (uf (uf f 6 gm) 7 gw) fl 1) rfl ?_
              refine Rx.ias (h' := cmH (u1 (u1 (u1 (u1 (u1 z 8 0) 9 n) 10 ((nmP n b 1 2 ((sks n b ((sks n b a) + 1)) + 1)).1)) 11 (-1)) 25 K) zl (uf (uf f 6 gm) 7 (iu gw 0 x81)) fl 1) rfl rfl (by omega) (by omega) (by omega) rfl ?_
              refine Rx.walk 1 (pc' := 170) (L' := [some (.ref 0), some (.int (iz c1)), some (.int (iz 1)), some (.int (iz 0)), some (.int (iz x81))]) (st' := []) (h' := cmH (u1 (u1 (u1 (u1 (u1 z 8 0) 9 n) 10 ((nmP n b 1 2 ((sks n b ((sks n b a) + 1)) + 1)).1)) 11 (-1)) 25 K) zl (uf (uf f 6 gm) 7 (iu gw 0 x81)) fl 1) rfl ?_
              obtain ⟨j, rfl⟩ : ∃ j, k = j + 1 := ⟨k - 1, by omega⟩
              have e := ptP_s (k := j) (t := t) (a := a) (s := (gw 0, gw 1, gw 2)) (n := n) (b := b) ⟨by omega, by omega⟩ (w := 0) (by rcases wd_cases (sg n b (sks n b (sks n b a + 1))) with x | x | x | x <;> omega) (by omega) uu80
              have e2 : ptS (gw 0, gw 1, gw 2) 0 x81 = ((iu gw 0 x81) 0, (iu gw 0 x81) 1, (iu gw 0 x81) 2) := rfl
              rw [e2] at e
              refine ih j (by omega) _ (iu gw 0 x81) _ _ _ _ (by omega) (by omega) (by omega) (by omega) (by omega) (fun gw' a' fa' q1 q2 q3 => hP gw' a' fa' q1 q2 ?_)
              rw [e]
              exact q3
            · refine Rx.walk 0 (pc' := 300) (L' := [some (.ref 0), some (.int (iz c1)), some (.int (iz 1)), some (.int (iz 0)), w4]) (st' := [.int (iz (-1))]) (h' := cmH (u1 (u1 (u1 (u1 (u1 z 8 0) 9 n) 10 ((nmP n b 1 2 ((sks n b ((sks n b a) + 1)) + 1)).1)) 11 ((nmP n b 1 2 ((sks n b ((sks n b a) + 1)) + 1)).1)) 25 K) zl (uf (uf f 6 gm) 7 gw) fl 1) rfl ?_
              refine Rx.walk 4 (pc' := 307) (L' := [some (.ref 0), some (.int (iz c1)), some (.int (iz 1)), some (.int (iz 0)), some (.int (iz (-1)))]) (st' := [.int (iz (-1)), .int (iz ((nmP n b 1 2 ((sks n b ((sks n b a) + 1)) + 1)).1))]) (h' := cmH (u1 (u1 (u1 (u1 (u1 z 8 0) 9 n) 10 ((nmP n b 1 2 ((sks n b ((sks n b a) + 1)) + 1)).1)) 11 ((nmP n b 1 2 ((sks n b ((sks n b a) + 1)) + 1)).1)) 25 K) zl (uf (uf f 6 gm) 7 gw) fl 1) rfl ?_
              refine Rx.ne2 rfl rfl ⟨by omega, by omega⟩ ⟨by omega, by omega⟩ (fun b86 => ?_) (fun b86 => by omega)
              refine Rx.walk 4 (pc' := 175) (L' := [some (.ref 0), some (.int (iz c1)), some (.int (iz 1)), some (.int (iz 0)), some (.int (iz (-1)))]) (st' := [.int (iz (-1)), .int (iz ((nmP n b 1 2 ((sks n b ((sks n b a) + 1)) + 1)).1))]) (h' := cmH (u1 (u1 (u1 (u1 (u1 z 8 0) 9 n) 10 ((nmP n b 1 2 ((sks n b ((sks n b a) + 1)) + 1)).1)) 11 ((nmP n b 1 2 ((sks n b ((sks n b a) + 1)) + 1)).1)) 25 K) zl (uf (uf f 6 gm) 7 gw) fl 1) rfl ?_
              refine Rx.ne2 rfl rfl ⟨by omega, by omega⟩ ⟨by omega, by omega⟩ (fun b87 => ?_) (fun b87 => by omega)
              refine Rx.walk 3 (pc' := 326) (L' := [some (.ref 0), some (.int (iz c1)), some (.int (iz 1)), some (.int (iz 0)), some (.int (iz (-1)))]) (st' := [.int (iz (-1)), .int (iz ((nmP n b 1 2 ((sks n b ((sks n b a) + 1)) + 1)).1))]) (h' := cmH (u1 (u1 (u1 (u1 (u1 z 8 0) 9 n) 10 ((nmP n b 1 2 ((sks n b ((sks n b a) + 1)) + 1)).1)) 11 ((nmP n b 1 2 ((sks n b ((sks n b a) + 1)) + 1)).1)) 25 K) zl (uf (uf f 6 gm) 7 gw) fl 1) rfl ?_
              refine Rx.ne2 rfl rfl ⟨by omega, by omega⟩ ⟨by omega, by omega⟩ (fun b88 => ?_) (fun b88 => by omega)
              refine Rx.ret rfl ?_
              obtain ⟨j, rfl⟩ : ∃ j, k = j + 1 := ⟨k - 1, by omega⟩
              have e := ptP_n (k := j) (t := t) (a := a) (s := (gw 0, gw 1, gw 2)) (n := n) (b := b) ⟨by omega, by omega⟩ (w := 0) (by rcases wd_cases (sg n b (sks n b (sks n b a + 1))) with x | x | x | x <;> omega) (by omega) uu80
              refine hP gw _ _ (by omega) (by omega) (Or.inr ?_)
              rw [e]
              exact ⟨rfl, rfl⟩
          · refine Rx.walk 1 (pc' := 249) (L' := [some (.ref 0), some (.int (iz c1)), some (.int (iz t)), some (.int (iz 0)), w4]) (st' := [.ref 0]) (h' := cmH (u1 (u1 (u1 (u1 (u1 z 8 0) 9 n) 10 (sks n b ((sks n b a) + 1))) 11 (-1)) 25 K) zl (uf (uf f 6 gm) 7 gw) fl 1) rfl ?_
            refine Rx.callx (m' := m_X12_fails) (as := [.ref 0]) (rest := []) rfl (r_failsN _ (u1 (u1 (u1 (u1 (u1 z 8 0) 9 n) 10 (sks n b ((sks n b a) + 1))) 11 (-1)) 25 K) zl (uf (uf f 6 gm) 7 gw) fl 1) (fun v89 h90 q91 => ?_)
            obtain ⟨rfl, rfl⟩ := q91
            refine Rx.walk 0 (pc' := 252) (L' := [some (.ref 0), some (.int (iz c1)), some (.int (iz t)), some (.int (iz 0)), w4]) (st' := [.int (iz 0)]) (h' := cmH (u1 (u1 (u1 (u1 (u1 z 8 0) 9 n) 10 (sks n b ((sks n b a) + 1))) 11 (sks n b ((sks n b a) + 1))) 25 K) zl (uf (uf f 6 gm) 7 gw) fl 1) rfl ?_
            refine Rx.walk 1 (pc' := 253) (L' := [some (.ref 0), some (.int (iz c1)), some (.int (iz t)), some (.int (iz 0)), w4]) (st' := []) (h' := cmH (u1 (u1 (u1 (u1 (u1 z 8 0) 9 n) 10 (sks n b ((sks n b a) + 1))) 11 (sks n b ((sks n b a) + 1))) 25 K) zl (uf (uf f 6 gm) 7 gw) fl 1) rfl ?_
            refine Rx.ret rfl ?_
            obtain ⟨j, rfl⟩ : ∃ j, k = j + 1 := ⟨k - 1, by omega⟩
            have e := ptP_w (k := j) (t := t) (a := a) (s := (gw 0, gw 1, gw 2)) (n := n) (b := b) ⟨by omega, by omega⟩ (by rw [show wd (sg n b (sks n b (sks n b a + 1))) = 0 from (by rcases wd_cases (sg n b (sks n b (sks n b a + 1))) with x | x | x | x <;> omega)]; omega)
            refine hP gw _ _ (by omega) (by omega) (Or.inr ?_)
            rw [e]
            exact ⟨rfl, rfl⟩

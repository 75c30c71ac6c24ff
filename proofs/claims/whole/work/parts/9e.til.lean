/-! lift, coin, tray, till of the model; coin of the class; coins, count, served (printed by wip/whole/gentil3.py) -/
set_option maxRecDepth 100000 in
set_option maxHeartbeats 4000000 in
theorem m_lift (d : Nat) (z : Nat → Int) (zl : Nat → Int) (f : Nat → Int → Int) (fl : Nat → Int → Int) (tx : Nat)  (k : Int) (K : Int) (p0 : Int) (p1 : Int) (t : Int) (pp : Int → Int) (li : Int → Int) (ty : Int → Int) (pi_ : Int) (len : Int) (tr : Int) (hk : bI k) (hM : mtI K pp li ty p0 p1 t) (hK : 0 ≤ K ∧ K ≤ 4) (hpi : 0 ≤ pi_ ∧ pi_ ≤ 2) (hlen : 0 ≤ len ∧ len ≤ 5) (htr : 0 ≤ tr ∧ tr ≤ 1) (hh0 : ht p0 ≤ len) (hh1 : ht p1 ≤ len) : Rx (d + 1) m_X12_lift 0 (am_ent [.ref 0, .int (iz k)] 2) [] (cmH (u1 (u1 (u1 (u1 z 21 K) 22 pi_) 23 len) 24 tr) zl (uf (uf (uf f 10 pp) 11 li) 12 ty) fl tx) (fun rv h => ∃ r : Int, ∃ li' : Int → Int, ∃ q0 : Int, ∃ q1 : Int, rv = some (.int (iz r)) ∧ h = cmH (u1 (u1 (u1 (u1 (u1 z 0 0) 21 K) 22 pi_) 23 len) 24 tr) zl (uf (uf (uf f 10 pp) 11 li') 12 ty) fl tx ∧ mtI K pp li' ty q0 q1 t ∧ lifR pi_ p0 p1 k r q0 q1) := by
  obtain ⟨hk1, hk2⟩ := id hk
  obtain ⟨⟨hm1, hm2, hm3⟩, ⟨hm4, hm5, hm6⟩, hm7, hm8, hm9⟩ := mtI_b hM
  have hz0 := ht_c p0
  have hz1 := ht_c p1
  have hmt := mtI_t hM
  rcases (show k = 0 ∨ k = 1 ∨ (k ≠ 0 ∧ k ≠ 1) by omega) with rfl | rfl | hne
  · refine Rx.walk 0 (pc' := 0) (L' := [some (.ref 0), some (.int (iz 0))]) (st' := []) (h' := cmH (u1 (u1 (u1 (u1 z 21 K) 22 pi_) 23 len) 24 tr) zl (uf (uf (uf f 10 pp) 11 li) 12 ty) fl tx) rfl ?_
    refine Rx.walk 5 (pc' := 7) (L' := [some (.ref 0), some (.int (iz 0))]) (st' := [.int (iz 0), .ref 0]) (h' := cmH (u1 (u1 (u1 (u1 (u1 z 0 0) 21 K) 22 pi_) 23 len) 24 tr) zl (uf (uf (uf f 10 pp) 11 li) 12 ty) fl tx) rfl ?_
    refine Rx.callx (m' := m_X12_isPipe) (as := [.ref 0, .int (iz 0)]) (rest := []) rfl (m_isPipe _ (u1 (u1 (u1 (u1 (u1 z 0 0) 21 K) 22 pi_) 23 len) 24 tr) zl (uf (uf (uf f 10 pp) 11 li) 12 ty) fl tx  0 pi_ (by first | assumption | omega) ⟨by omega, by omega⟩) (fun v3 h4 q5 => ?_)
    obtain ⟨r_1, rfl, rfl, f2⟩ := q5
    refine Rx.walk 0 (pc' := 10) (L' := [some (.ref 0), some (.int (iz 0))]) (st' := [.int (iz r_1)]) (h' := cmH (u1 (u1 (u1 (u1 (u1 z 0 0) 21 K) 22 pi_) 23 len) 24 tr) zl (uf (uf (uf f 10 pp) 11 li) 12 ty) fl tx) rfl ?_
    refine Rx.eq1 rfl rfl ⟨by omega, by omega⟩ (fun b6 => ?_) (fun b6 => ?_)
    · refine Rx.walk 1 (pc' := 23) (L' := [some (.ref 0), some (.int (iz 0))]) (st' := [.int (iz (-1))]) (h' := cmH (u1 (u1 (u1 (u1 (u1 z 0 0) 21 K) 22 pi_) 23 len) 24 tr) zl (uf (uf (uf f 10 pp) 11 li) 12 ty) fl tx) rfl ?_
      refine Rx.ret rfl ?_
      exact ⟨_, _, p0, p1, rfl, rfl, hM, Or.inr (Or.inr ⟨by omega, rfl, rfl, rfl⟩)⟩
    · refine Rx.walk 3 (pc' := 18) (L' := [some (.ref 0), some (.int (iz 0))]) (st' := [.int (iz 0), .ref 11]) (h' := cmH (u1 (u1 (u1 (u1 (u1 z 0 0) 21 K) 22 pi_) 23 len) 24 tr) zl (uf (uf (uf f 10 pp) 11 li) 12 ty) fl tx) rfl ?_
      refine Rx.ial (g := li) rfl rfl (by omega) (by omega) (by omega) ?_
      refine Rx.ne1 rfl rfl ⟨by omega, by omega⟩ (fun b7 => ?_) (fun b7 => ?_)
      · refine Rx.walk 4 (pc' := 30) (L' := [some (.ref 0), some (.int (iz 0))]) (st' := [.int (iz 0), .ref 11, .int (iz 0), .ref 11]) (h' := cmH (u1 (u1 (u1 (u1 (u1 z 0 0) 21 K) 22 pi_) 23 len) 24 tr) zl (uf (uf (uf f 10 pp) 11 li) 12 ty) fl tx) rfl ?_
        refine Rx.ial (g := li) rfl rfl (by omega) (by omega) (by omega) ?_
        refine Rx.walk 1 (pc' := 32) (L' := [some (.ref 0), some (.int (iz 0))]) (st' := [.int (iz 1), .int (iz (li 0)), .int (iz 0), .ref 11]) (h' := cmH (u1 (u1 (u1 (u1 (u1 z 0 0) 21 K) 22 pi_) 23 len) 24 tr) zl (uf (uf (uf f 10 pp) 11 li) 12 ty) fl tx) rfl ?_
        refine Rx.isub rfl ?_
        refine Rx.ias (g := li) (h' := cmH (u1 (u1 (u1 (u1 (u1 z 0 0) 21 K) 22 pi_) 23 len) 24 tr) zl (uf (uf (uf f 10 pp) 11 (iu li 0 ((li 0) - 1))) 12 ty) fl tx) rfl rfl (by omega) (by omega) (by omega) rfl ?_
        refine Rx.walk 4 (pc' := 40) (L' := [some (.ref 0), some (.int (iz 0))]) (st' := [.int (iz 0), .int (iz 5), .ref 10]) (h' := cmH (u1 (u1 (u1 (u1 (u1 z 0 0) 21 K) 22 pi_) 23 len) 24 tr) zl (uf (uf (uf f 10 pp) 11 (iu li 0 ((li 0) - 1))) 12 ty) fl tx) rfl ?_
        refine Rx.imul rfl ?_
        refine Rx.walk 0 (pc' := 41) (L' := [some (.ref 0), some (.int (iz 0))]) (st' := [.int (iz 0), .ref 10]) (h' := cmH (u1 (u1 (u1 (u1 (u1 z 0 0) 21 K) 22 pi_) 23 len) 24 tr) zl (uf (uf (uf f 10 pp) 11 (iu li 0 ((li 0) - 1))) 12 ty) fl tx) rfl ?_
        refine Rx.walk 3 (pc' := 46) (L' := [some (.ref 0), some (.int (iz 0))]) (st' := [.int (iz 0), .ref 11, .int (iz 0), .ref 10]) (h' := cmH (u1 (u1 (u1 (u1 (u1 z 0 0) 21 K) 22 pi_) 23 len) 24 tr) zl (uf (uf (uf f 10 pp) 11 (iu li 0 ((li 0) - 1))) 12 ty) fl tx) rfl ?_
        refine Rx.ial (g := (iu li 0 ((li 0) - 1))) rfl rfl (by omega) (by omega) (by omega) ?_
        rw [show ((iu li 0 ((li 0) - 1)) 0) = ((li 0) - 1) by simp [iu]]
        refine Rx.iadd rfl ?_
        refine Rx.ial (g := pp) rfl rfl (by omega) (by omega) (by omega) ?_
        refine Rx.ret rfl ?_
        have htop := mtI_top0 hM
        have hv : (pp (0 + ((li 0) - 1))) = p0 % 5 - 1 := by
          rcases htop with ⟨x1, x2⟩ | ⟨x1, x2, x3, x4⟩
          · omega
          · rw [← x2]; congr 1; omega
        refine ⟨_, _, p0 / 5, p1, rfl, rfl, mtI_pop0 hM (by omega), Or.inl ⟨rfl, by omega, by omega, hv, rfl, rfl⟩⟩
      · refine Rx.walk 1 (pc' := 23) (L' := [some (.ref 0), some (.int (iz 0))]) (st' := [.int (iz (-1))]) (h' := cmH (u1 (u1 (u1 (u1 (u1 z 0 0) 21 K) 22 pi_) 23 len) 24 tr) zl (uf (uf (uf f 10 pp) 11 li) 12 ty) fl tx) rfl ?_
        refine Rx.ret rfl ?_
        exact ⟨_, _, p0, p1, rfl, rfl, hM, Or.inr (Or.inr ⟨by omega, rfl, rfl, rfl⟩)⟩
  · refine Rx.walk 0 (pc' := 0) (L' := [some (.ref 0), some (.int (iz 1))]) (st' := []) (h' := cmH (u1 (u1 (u1 (u1 z 21 K) 22 pi_) 23 len) 24 tr) zl (uf (uf (uf f 10 pp) 11 li) 12 ty) fl tx) rfl ?_
    refine Rx.walk 5 (pc' := 7) (L' := [some (.ref 0), some (.int (iz 1))]) (st' := [.int (iz 1), .ref 0]) (h' := cmH (u1 (u1 (u1 (u1 (u1 z 0 0) 21 K) 22 pi_) 23 len) 24 tr) zl (uf (uf (uf f 10 pp) 11 li) 12 ty) fl tx) rfl ?_
    refine Rx.callx (m' := m_X12_isPipe) (as := [.ref 0, .int (iz 1)]) (rest := []) rfl (m_isPipe _ (u1 (u1 (u1 (u1 (u1 z 0 0) 21 K) 22 pi_) 23 len) 24 tr) zl (uf (uf (uf f 10 pp) 11 li) 12 ty) fl tx  1 pi_ (by first | assumption | omega) ⟨by omega, by omega⟩) (fun v3 h4 q5 => ?_)
    obtain ⟨r_1, rfl, rfl, f2⟩ := q5
    refine Rx.walk 0 (pc' := 10) (L' := [some (.ref 0), some (.int (iz 1))]) (st' := [.int (iz r_1)]) (h' := cmH (u1 (u1 (u1 (u1 (u1 z 0 0) 21 K) 22 pi_) 23 len) 24 tr) zl (uf (uf (uf f 10 pp) 11 li) 12 ty) fl tx) rfl ?_
    refine Rx.eq1 rfl rfl ⟨by omega, by omega⟩ (fun b6 => ?_) (fun b6 => ?_)
    · refine Rx.walk 1 (pc' := 23) (L' := [some (.ref 0), some (.int (iz 1))]) (st' := [.int (iz (-1))]) (h' := cmH (u1 (u1 (u1 (u1 (u1 z 0 0) 21 K) 22 pi_) 23 len) 24 tr) zl (uf (uf (uf f 10 pp) 11 li) 12 ty) fl tx) rfl ?_
      refine Rx.ret rfl ?_
      exact ⟨_, _, p0, p1, rfl, rfl, hM, Or.inr (Or.inr ⟨by omega, rfl, rfl, rfl⟩)⟩
    · refine Rx.walk 3 (pc' := 18) (L' := [some (.ref 0), some (.int (iz 1))]) (st' := [.int (iz 1), .ref 11]) (h' := cmH (u1 (u1 (u1 (u1 (u1 z 0 0) 21 K) 22 pi_) 23 len) 24 tr) zl (uf (uf (uf f 10 pp) 11 li) 12 ty) fl tx) rfl ?_
      refine Rx.ial (g := li) rfl rfl (by omega) (by omega) (by omega) ?_
      refine Rx.ne1 rfl rfl ⟨by omega, by omega⟩ (fun b7 => ?_) (fun b7 => ?_)
      · refine Rx.walk 4 (pc' := 30) (L' := [some (.ref 0), some (.int (iz 1))]) (st' := [.int (iz 1), .ref 11, .int (iz 1), .ref 11]) (h' := cmH (u1 (u1 (u1 (u1 (u1 z 0 0) 21 K) 22 pi_) 23 len) 24 tr) zl (uf (uf (uf f 10 pp) 11 li) 12 ty) fl tx) rfl ?_
        refine Rx.ial (g := li) rfl rfl (by omega) (by omega) (by omega) ?_
        refine Rx.walk 1 (pc' := 32) (L' := [some (.ref 0), some (.int (iz 1))]) (st' := [.int (iz 1), .int (iz (li 1)), .int (iz 1), .ref 11]) (h' := cmH (u1 (u1 (u1 (u1 (u1 z 0 0) 21 K) 22 pi_) 23 len) 24 tr) zl (uf (uf (uf f 10 pp) 11 li) 12 ty) fl tx) rfl ?_
        refine Rx.isub rfl ?_
        refine Rx.ias (g := li) (h' := cmH (u1 (u1 (u1 (u1 (u1 z 0 0) 21 K) 22 pi_) 23 len) 24 tr) zl (uf (uf (uf f 10 pp) 11 (iu li 1 ((li 1) - 1))) 12 ty) fl tx) rfl rfl (by omega) (by omega) (by omega) rfl ?_
        refine Rx.walk 4 (pc' := 40) (L' := [some (.ref 0), some (.int (iz 1))]) (st' := [.int (iz 1), .int (iz 5), .ref 10]) (h' := cmH (u1 (u1 (u1 (u1 (u1 z 0 0) 21 K) 22 pi_) 23 len) 24 tr) zl (uf (uf (uf f 10 pp) 11 (iu li 1 ((li 1) - 1))) 12 ty) fl tx) rfl ?_
        refine Rx.imul rfl ?_
        refine Rx.walk 0 (pc' := 41) (L' := [some (.ref 0), some (.int (iz 1))]) (st' := [.int (iz 5), .ref 10]) (h' := cmH (u1 (u1 (u1 (u1 (u1 z 0 0) 21 K) 22 pi_) 23 len) 24 tr) zl (uf (uf (uf f 10 pp) 11 (iu li 1 ((li 1) - 1))) 12 ty) fl tx) rfl ?_
        refine Rx.walk 3 (pc' := 46) (L' := [some (.ref 0), some (.int (iz 1))]) (st' := [.int (iz 1), .ref 11, .int (iz 5), .ref 10]) (h' := cmH (u1 (u1 (u1 (u1 (u1 z 0 0) 21 K) 22 pi_) 23 len) 24 tr) zl (uf (uf (uf f 10 pp) 11 (iu li 1 ((li 1) - 1))) 12 ty) fl tx) rfl ?_
        refine Rx.ial (g := (iu li 1 ((li 1) - 1))) rfl rfl (by omega) (by omega) (by omega) ?_
        rw [show ((iu li 1 ((li 1) - 1)) 1) = ((li 1) - 1) by simp [iu]]
        refine Rx.iadd rfl ?_
        refine Rx.ial (g := pp) rfl rfl (by omega) (by omega) (by omega) ?_
        refine Rx.ret rfl ?_
        have htop := mtI_top1 hM
        have hv : (pp (5 + ((li 1) - 1))) = p1 % 5 - 1 := by
          rcases htop with ⟨x1, x2⟩ | ⟨x1, x2, x3, x4⟩
          · omega
          · rw [← x2]; congr 1; omega
        refine ⟨_, _, p0, p1 / 5, rfl, rfl, mtI_pop1 hM (by omega), Or.inr (Or.inl ⟨rfl, by omega, by omega, hv, rfl, rfl⟩)⟩
      · refine Rx.walk 1 (pc' := 23) (L' := [some (.ref 0), some (.int (iz 1))]) (st' := [.int (iz (-1))]) (h' := cmH (u1 (u1 (u1 (u1 (u1 z 0 0) 21 K) 22 pi_) 23 len) 24 tr) zl (uf (uf (uf f 10 pp) 11 li) 12 ty) fl tx) rfl ?_
        refine Rx.ret rfl ?_
        exact ⟨_, _, p0, p1, rfl, rfl, hM, Or.inr (Or.inr ⟨by omega, rfl, rfl, rfl⟩)⟩
  · refine Rx.walk 0 (pc' := 0) (L' := [some (.ref 0), some (.int (iz k))]) (st' := []) (h' := cmH (u1 (u1 (u1 (u1 z 21 K) 22 pi_) 23 len) 24 tr) zl (uf (uf (uf f 10 pp) 11 li) 12 ty) fl tx) rfl ?_
    refine Rx.walk 5 (pc' := 7) (L' := [some (.ref 0), some (.int (iz k))]) (st' := [.int (iz k), .ref 0]) (h' := cmH (u1 (u1 (u1 (u1 (u1 z 0 0) 21 K) 22 pi_) 23 len) 24 tr) zl (uf (uf (uf f 10 pp) 11 li) 12 ty) fl tx) rfl ?_
    refine Rx.callx (m' := m_X12_isPipe) (as := [.ref 0, .int (iz k)]) (rest := []) rfl (m_isPipe _ (u1 (u1 (u1 (u1 (u1 z 0 0) 21 K) 22 pi_) 23 len) 24 tr) zl (uf (uf (uf f 10 pp) 11 li) 12 ty) fl tx  k pi_ (by first | assumption | omega) ⟨by omega, by omega⟩) (fun v3 h4 q5 => ?_)
    obtain ⟨r_1, rfl, rfl, f2⟩ := q5
    refine Rx.walk 0 (pc' := 10) (L' := [some (.ref 0), some (.int (iz k))]) (st' := [.int (iz r_1)]) (h' := cmH (u1 (u1 (u1 (u1 (u1 z 0 0) 21 K) 22 pi_) 23 len) 24 tr) zl (uf (uf (uf f 10 pp) 11 li) 12 ty) fl tx) rfl ?_
    refine Rx.eq1 rfl rfl ⟨by omega, by omega⟩ (fun b6 => ?_) (fun b6 => by omega)
    refine Rx.walk 1 (pc' := 23) (L' := [some (.ref 0), some (.int (iz k))]) (st' := [.int (iz (-1))]) (h' := cmH (u1 (u1 (u1 (u1 (u1 z 0 0) 21 K) 22 pi_) 23 len) 24 tr) zl (uf (uf (uf f 10 pp) 11 li) 12 ty) fl tx) rfl ?_
    refine Rx.ret rfl ?_
    exact ⟨_, _, p0, p1, rfl, rfl, hM, Or.inr (Or.inr ⟨by omega, rfl, rfl, rfl⟩)⟩
set_option maxRecDepth 100000 in
set_option maxHeartbeats 4000000 in
theorem m_tray (d : Nat) (z : Nat → Int) (zl : Nat → Int) (f : Nat → Int → Int) (fl : Nat → Int → Int) (tx : Nat)  (k : Int) (K : Int) (p0 : Int) (p1 : Int) (t : Int) (pp : Int → Int) (li : Int → Int) (ty : Int → Int) (pi_ : Int) (len : Int) (tr : Int) (hk : bI k) (hM : mtI K pp li ty p0 p1 t) (hK : 0 ≤ K ∧ K ≤ 4) (hpi : 0 ≤ pi_ ∧ pi_ ≤ 2) (hlen : 0 ≤ len ∧ len ≤ 5) (htr : 0 ≤ tr ∧ tr ≤ 1) (hh0 : ht p0 ≤ len) (hh1 : ht p1 ≤ len) : Rx (d + 1) m_X12_tray 0 (am_ent [.ref 0, .int (iz k)] 2) [] (cmH (u1 (u1 (u1 (u1 z 21 K) 22 pi_) 23 len) 24 tr) zl (uf (uf (uf f 10 pp) 11 li) 12 ty) fl tx) (fun rv h => ∃ r : Int, rv = some (.int (iz r)) ∧ h = cmH (u1 (u1 (u1 (u1 (u1 z 0 0) 21 K) 22 pi_) 23 len) 24 tr) zl (uf (uf (uf f 10 pp) 11 li) 12 ty) fl tx ∧ ((0 ≤ k ∧ k < K ∧ r = if t = k + 1 then 1 else 0) ∨ (¬ (0 ≤ k ∧ k < K) ∧ r = -1))) := by
  obtain ⟨hk1, hk2⟩ := id hk
  obtain ⟨⟨hm1, hm2, hm3⟩, ⟨hm4, hm5, hm6⟩, hm7, hm8, hm9⟩ := mtI_b hM
  have hz0 := ht_c p0
  have hz1 := ht_c p1
  have hmt := mtI_t hM
  refine Rx.walk 0 (pc' := 0) (L' := [some (.ref 0), some (.int (iz k))]) (st' := []) (h' := cmH (u1 (u1 (u1 (u1 z 21 K) 22 pi_) 23 len) 24 tr) zl (uf (uf (uf f 10 pp) 11 li) 12 ty) fl tx) rfl ?_
  refine Rx.walk 5 (pc' := 7) (L' := [some (.ref 0), some (.int (iz k))]) (st' := [.int (iz k), .ref 0]) (h' := cmH (u1 (u1 (u1 (u1 (u1 z 0 0) 21 K) 22 pi_) 23 len) 24 tr) zl (uf (uf (uf f 10 pp) 11 li) 12 ty) fl tx) rfl ?_
  refine Rx.callx (m' := m_X12_isKind) (as := [.ref 0, .int (iz k)]) (rest := []) rfl (m_isKind _ (u1 (u1 (u1 (u1 (u1 z 0 0) 21 K) 22 pi_) 23 len) 24 tr) zl (uf (uf (uf f 10 pp) 11 li) 12 ty) fl tx  k K (by first | assumption | omega) (by first | assumption | omega)) (fun v3 h4 q5 => ?_)
  obtain ⟨r_1, rfl, rfl, f2⟩ := q5
  refine Rx.walk 0 (pc' := 10) (L' := [some (.ref 0), some (.int (iz k))]) (st' := [.int (iz r_1)]) (h' := cmH (u1 (u1 (u1 (u1 (u1 z 0 0) 21 K) 22 pi_) 23 len) 24 tr) zl (uf (uf (uf f 10 pp) 11 li) 12 ty) fl tx) rfl ?_
  refine Rx.eq1 rfl rfl ⟨by omega, by omega⟩ (fun b6 => ?_) (fun b6 => ?_)
  · refine Rx.walk 1 (pc' := 23) (L' := [some (.ref 0), some (.int (iz k))]) (st' := [.int (iz (-1))]) (h' := cmH (u1 (u1 (u1 (u1 (u1 z 0 0) 21 K) 22 pi_) 23 len) 24 tr) zl (uf (uf (uf f 10 pp) 11 li) 12 ty) fl tx) rfl ?_
    refine Rx.ret rfl ?_
    exact ⟨_, rfl, rfl, Or.inr ⟨by omega, rfl⟩⟩
  · refine Rx.walk 3 (pc' := 18) (L' := [some (.ref 0), some (.int (iz k))]) (st' := [.int (iz k), .ref 12]) (h' := cmH (u1 (u1 (u1 (u1 (u1 z 0 0) 21 K) 22 pi_) 23 len) 24 tr) zl (uf (uf (uf f 10 pp) 11 li) 12 ty) fl tx) rfl ?_
    refine Rx.ial (g := ty) rfl rfl (by omega) (by omega) (by omega) ?_
    refine Rx.walk 1 (pc' := 23) (L' := [some (.ref 0), some (.int (iz k))]) (st' := [.int (iz (ty k))]) (h' := cmH (u1 (u1 (u1 (u1 (u1 z 0 0) 21 K) 22 pi_) 23 len) 24 tr) zl (uf (uf (uf f 10 pp) 11 li) 12 ty) fl tx) rfl ?_
    refine Rx.ret rfl ?_
    exact ⟨_, rfl, rfl, Or.inl ⟨by omega, by omega, hM.2.2.2.2.2.2.2 k (by omega) (by omega)⟩⟩
set_option maxRecDepth 100000 in
set_option maxHeartbeats 4000000 in
theorem m_till (d : Nat) (z : Nat → Int) (zl : Nat → Int) (f : Nat → Int → Int) (fl : Nat → Int → Int) (tx : Nat)  (K : Int) (p0 : Int) (p1 : Int) (t : Int) (pp : Int → Int) (li : Int → Int) (ty : Int → Int) (pi_ : Int) (len : Int) (tr : Int) (hM : mtI K pp li ty p0 p1 t) (hK : 0 ≤ K ∧ K ≤ 4) (hpi : 0 ≤ pi_ ∧ pi_ ≤ 2) (hlen : 0 ≤ len ∧ len ≤ 5) (htr : 0 ≤ tr ∧ tr ≤ 1) (hh0 : ht p0 ≤ len) (hh1 : ht p1 ≤ len) : Rx (d + 1) m_X12_till 0 (am_ent [.ref 0] 1) [] (cmH (u1 (u1 (u1 (u1 z 21 K) 22 pi_) 23 len) 24 tr) zl (uf (uf (uf f 10 pp) 11 li) 12 ty) fl tx) (fun rv h => ∃ r : Int, rv = some (.long (jz r)) ∧ h = cmH (u1 (u1 (u1 (u1 (u1 z 0 0) 21 K) 22 pi_) 23 len) 24 tr) zl (uf (uf (uf f 10 pp) 11 li) 12 ty) fl tx ∧ ((K = 0 ∧ r = -1) ∨ (0 < K ∧ r = tn p0 p1 t))) := by
  obtain ⟨⟨hm1, hm2, hm3⟩, ⟨hm4, hm5, hm6⟩, hm7, hm8, hm9⟩ := mtI_b hM
  have hz0 := ht_c p0
  have hz1 := ht_c p1
  have hmt := mtI_t hM
  refine Rx.walk 0 (pc' := 0) (L' := [some (.ref 0)]) (st' := []) (h' := cmH (u1 (u1 (u1 (u1 z 21 K) 22 pi_) 23 len) 24 tr) zl (uf (uf (uf f 10 pp) 11 li) 12 ty) fl tx) rfl ?_
  refine Rx.walk 5 (pc' := 9) (L' := [some (.ref 0)]) (st' := [.int (iz K)]) (h' := cmH (u1 (u1 (u1 (u1 (u1 z 0 0) 21 K) 22 pi_) 23 len) 24 tr) zl (uf (uf (uf f 10 pp) 11 li) 12 ty) fl tx) rfl ?_
  refine Rx.ne1 rfl rfl ⟨by omega, by omega⟩ (fun b1 => ?_) (fun b1 => ?_)
  · refine Rx.walk 1 (pc' := 19) (L' := [some (.ref 0)]) (st' := [.ref 0]) (h' := cmH (u1 (u1 (u1 (u1 (u1 z 0 0) 21 K) 22 pi_) 23 len) 24 tr) zl (uf (uf (uf f 10 pp) 11 li) 12 ty) fl tx) rfl ?_
    refine Rx.callx (m' := m_X12_tillNow) (as := [.ref 0]) (rest := []) rfl (m_tillNow _ (u1 (u1 (u1 (u1 (u1 z 0 0) 21 K) 22 pi_) 23 len) 24 tr) zl (uf (uf (uf f 10 pp) 11 li) 12 ty) fl tx  K p0 p1 t pp li ty hM) (fun v2 h3 q4 => ?_)
    obtain ⟨rfl, rfl⟩ := q4
    refine Rx.walk 0 (pc' := 22) (L' := [some (.ref 0)]) (st' := [.long (jz (tn p0 p1 t))]) (h' := cmH (u1 (u1 (u1 (u1 (u1 z 0 0) 21 K) 22 pi_) 23 len) 24 tr) zl (uf (uf (uf f 10 pp) 11 li) 12 ty) fl tx) rfl ?_
    refine Rx.ret rfl ?_
    exact ⟨_, rfl, rfl, (by omega)⟩
  · refine Rx.walk 2 (pc' := 22) (L' := [some (.ref 0)]) (st' := [.long (jz (-1))]) (h' := cmH (u1 (u1 (u1 (u1 (u1 z 0 0) 21 K) 22 pi_) 23 len) 24 tr) zl (uf (uf (uf f 10 pp) 11 li) 12 ty) fl tx) rfl ?_
    refine Rx.ret rfl ?_
    exact ⟨_, rfl, rfl, (by omega)⟩
def dvN : Nat → Int → Int
  | 0, p => p
  | n + 1, p => dvN n (p / 5)
theorem prI_at {K : Int} {g : Int → Int} {o : Int} : ∀ {n : Nat} {p : Int}, prI K g o n p → ∀ i : Nat, i < n → g (o + (i : Int)) = dvN (n - 1 - i) p % 5 - 1
  | 0, _, _, i, h => absurd h (by omega)
  | n + 1, p, ⟨a, b, c, e⟩, i, h => by
    by_cases q : i = n
    · subst q
      rw [show i + 1 - 1 - i = 0 by omega]
      exact c
    · rw [show n + 1 - 1 - i = (n - 1 - i) + 1 by omega]
      exact prI_at e i (by omega)
/-- the kind of a coin, 0 the lowest -/
def coiR (pi p0 p1 k i r : Int) : Prop := (k = 0 ∧ 0 < pi ∧ 0 ≤ i ∧ i < ht p0 ∧ r = dvN (ht p0 - 1 - i).toNat p0 % 5 - 1) ∨ (k = 1 ∧ 1 < pi ∧ 0 ≤ i ∧ i < ht p1 ∧ r = dvN (ht p1 - 1 - i).toNat p1 % 5 - 1) ∨ (¬ ((k = 0 ∧ 0 < pi ∧ 0 ≤ i ∧ i < ht p0) ∨ (k = 1 ∧ 1 < pi ∧ 0 ≤ i ∧ i < ht p1)) ∧ r = -1)
theorem dvN_b {p : Int} (h : 0 ≤ p) : ∀ n, 0 ≤ dvN n p
  | 0 => h
  | n + 1 => dvN_b (p := p / 5) (by omega) n
set_option maxRecDepth 100000 in
set_option maxHeartbeats 4000000 in
theorem x_coin_l (d : Nat) (z : Nat → Nat → Int) (f : Nat → Int → Int) (C : Nat → CuR) (T : Nat → TsR) (rc : Nat → Nat) (tl : AmH)  (k : Int) (i : Int) (hh : Int) (P0 : Int) (hi : 0 ≤ i) (hhh : 0 ≤ hh ∧ hh ≤ 5) (P : Option Value → AmH → Prop) (hx0 : ∀ (ly' : Int) (ab' : Int), (ly' = dvN (hh - 1 - i).toNat P0) → (0 ≤ ly' ∧ ly' < 3125) → Rx (d) m_X11_coin 62 [some (.ref 0), some (.int (iz k)), some (.int (iz i)), some (.int (iz ly')), some (.int (iz hh)), some (.int (iz ab'))] [] (cxW z f C T rc tl) P) : ∀ (kF : Nat) (ly : Int) (ab : Int), (i ≤ ab) → (ab < hh) → (0 ≤ ly) → (ly < 3125) → (dvN (ab - i).toNat ly = dvN (hh - 1 - i).toNat P0) → (ab - i) < (kF : Int) → Rx (d) m_X11_coin 46 [some (.ref 0), some (.int (iz k)), some (.int (iz i)), some (.int (iz ly)), some (.int (iz hh)), some (.int (iz ab))] [] (cxW z f C T rc tl) P := by
  intro kF
  induction kF with
  | zero =>
    intro ly ab a0 a1 l0 l1 hd hk
    exfalso; omega
  | succ kF ih =>
    intro ly ab a0 a1 l0 l1 hd hk
    refine Rx.walk 2 (pc' := 49) (L' := [some (.ref 0), some (.int (iz k)), some (.int (iz i)), some (.int (iz ly)), some (.int (iz hh)), some (.int (iz ab))]) (st' := [.int (iz i), .int (iz ab)]) (h' := cxW z f C T rc tl) rfl ?_
    refine Rx.le2 rfl rfl ⟨by omega, by omega⟩ ⟨by omega, by omega⟩ (fun b1 => ?_) (fun b1 => ?_)
    · exact hx0 _ _ (by rw [← hd, show (ab - i).toNat = 0 by omega]; rfl) (by first | assumption | omega)
    · refine Rx.walk 2 (pc' := 54) (L' := [some (.ref 0), some (.int (iz k)), some (.int (iz i)), some (.int (iz ly)), some (.int (iz hh)), some (.int (iz ab))]) (st' := [.int (iz 5), .int (iz ly)]) (h' := cxW z f C T rc tl) rfl ?_
      refine Rx.idiv rfl ⟨by omega, by omega⟩ ⟨by omega, by omega⟩ (by omega) (by omega) ?_
      refine Rx.walk 1 (pc' := 56) (L' := [some (.ref 0), some (.int (iz k)), some (.int (iz i)), some (.int (iz (ly / 5))), some (.int (iz hh)), some (.int (iz ab))]) (st' := []) (h' := cxW z f C T rc tl) rfl ?_
      refine Rx.iinc (b := -1) rfl rfl rfl ?_
      refine Rx.walk 0 (pc' := 59) (L' := [some (.ref 0), some (.int (iz k)), some (.int (iz i)), some (.int (iz (ly / 5))), some (.int (iz hh)), some (.int (iz (ab + (-1))))]) (st' := []) (h' := cxW z f C T rc tl) rfl ?_
      refine Rx.walk 1 (pc' := 46) (L' := [some (.ref 0), some (.int (iz k)), some (.int (iz i)), some (.int (iz (ly / 5))), some (.int (iz hh)), some (.int (iz (ab + (-1))))]) (st' := []) (h' := cxW z f C T rc tl) rfl ?_
      exact ih (ly / 5) (ab + (-1)) (by first | assumption | omega) (by first | assumption | omega) (by first | assumption | omega) (by first | assumption | omega) (by rw [← hd, show (ab - i).toNat = (ab + -1 - i).toNat + 1 by omega]; rfl) (by first | assumption | omega) 
set_option maxRecDepth 100000 in
set_option maxHeartbeats 4000000 in
theorem x_coin (d : Nat) (z : Nat → Nat → Int) (f : Nat → Int → Int) (C : Nat → CuR) (T : Nat → TsR) (rc : Nat → Nat) (tl : AmH)  (k : Int) (i : Int) (sd : Int) (K : Int) (pi_ : Int) (len : Int) (tr : Int) (p0 : Int) (p1 : Int) (t0 : Int) (hk : bI k) (hi : bI i) (hK : 0 ≤ K ∧ K ≤ 4) (hpi : 0 ≤ pi_ ∧ pi_ ≤ 2) (hlen : 0 ≤ len ∧ len ≤ 5) (htr : 0 ≤ tr ∧ tr ≤ 1) (hp0 : 0 ≤ p0 ∧ p0 < 3125) (hp1 : 0 ≤ p1 ∧ p1 < 3125) (ht0 : 0 ≤ t0) (ht4 : t0 ≤ 4) (hti : sd = tn p0 p1 t0) : Rx (d + 2) m_X11_coin 0 (am_ent [.ref 0, .int (iz k), .int (iz i)] 6) [] (cxW (u2 (u2 (u2 (u2 (u2 z 0 9 sd) 3 1 K) 3 2 pi_) 3 3 len) 3 4 tr) f C T rc tl) (fun rv h => ∃ r : Int, rv = some (.int (iz r)) ∧ h = cxW (u2 (u2 (u2 (u2 (u2 z 0 9 sd) 3 1 K) 3 2 pi_) 3 3 len) 3 4 tr) f C T rc tl ∧ coiR pi_ p0 p1 k i r) := by
  obtain ⟨hk1, hk2⟩ := id hk
  obtain ⟨hi1, hi2⟩ := id hi
  obtain ⟨e0, e1, e2⟩ := tn_0 (p0 := p0) hp1.1 hp1.2 ht0 ht4
  have e3 := tw_c ht0 ht4
  rw [← hti] at e0 e1 e2
  have e4 : 0 ≤ sd ∧ sd < 2147483648 := by rw [hti]; unfold tn; omega
  have e5 : sd = (p0 * 3125 + p1) * 16 + tw t0 := hti
  have hz0 := ht_c p0
  have hz1 := ht_c p1
  have htb := tbit_c t0
  have hbt := bc_tw ht0 ht4
  refine Rx.walk 0 (pc' := 0) (L' := [some (.ref 0), some (.int (iz k)), some (.int (iz i)), none, none, none]) (st' := []) (h' := cxW (u2 (u2 (u2 (u2 (u2 z 0 9 sd) 3 1 K) 3 2 pi_) 3 3 len) 3 4 tr) f C T rc tl) rfl ?_
  refine Rx.walk 3 (pc' := 5) (L' := [some (.ref 0), some (.int (iz k)), some (.int (iz i)), none, none, none]) (st' := [.int (iz k), .ref 3]) (h' := cxW (u2 (u2 (u2 (u2 (u2 z 0 9 sd) 3 1 K) 3 2 pi_) 3 3 len) 3 4 tr) f C T rc tl) rfl ?_
  refine Rx.callx (m' := m_X7_hasPipe) (as := [.ref 3, .int (iz k)]) (rest := []) rfl (x_hasPipe _ (u2 (u2 (u2 (u2 (u2 z 0 9 sd) 3 1 K) 3 2 pi_) 3 3 len) 3 4 tr) f C T rc tl  k pi_ (by first | assumption | omega) hk) (fun v3 h4 q5 => ?_)
  obtain ⟨r_1, rfl, rfl, f2⟩ := q5
  refine Rx.walk 0 (pc' := 8) (L' := [some (.ref 0), some (.int (iz k)), some (.int (iz i)), none, none, none]) (st' := [.int (iz r_1)]) (h' := cxW (u2 (u2 (u2 (u2 (u2 z 0 9 sd) 3 1 K) 3 2 pi_) 3 3 len) 3 4 tr) f C T rc tl) rfl ?_
  refine Rx.ne1 rfl rfl ⟨by omega, by omega⟩ (fun b6 => ?_) (fun b6 => ?_)
  · refine Rx.walk 3 (pc' := 18) (L' := [some (.ref 0), some (.int (iz k)), some (.int (iz i)), none, none, none]) (st' := [.int (iz k), .int (iz sd)]) (h' := cxW (u2 (u2 (u2 (u2 (u2 z 0 9 sd) 3 1 K) 3 2 pi_) 3 3 len) 3 4 tr) f C T rc tl) rfl ?_
    refine Rx.callx (m' := m_X10_pipeOf) (as := [.int (iz sd), .int (iz k)]) (rest := []) rfl (n_pipeOf _ (cxW (u2 (u2 (u2 (u2 (u2 z 0 9 sd) 3 1 K) 3 2 pi_) 3 3 len) 3 4 tr) f C T rc tl)  sd k (by first | assumption | omega) (by first | assumption | omega) hk) (fun v9 h10 q11 => ?_)
    obtain ⟨r_7, rfl, rfl, f8⟩ := q11
    refine Rx.walk 0 (pc' := 21) (L' := [some (.ref 0), some (.int (iz k)), some (.int (iz i)), none, none, none]) (st' := [.int (iz r_7)]) (h' := cxW (u2 (u2 (u2 (u2 (u2 z 0 9 sd) 3 1 K) 3 2 pi_) 3 3 len) 3 4 tr) f C T rc tl) rfl ?_
    refine Rx.walk 2 (pc' := 23) (L' := [some (.ref 0), some (.int (iz k)), some (.int (iz i)), some (.int (iz r_7)), none, none]) (st' := [.int (iz r_7)]) (h' := cxW (u2 (u2 (u2 (u2 (u2 z 0 9 sd) 3 1 K) 3 2 pi_) 3 3 len) 3 4 tr) f C T rc tl) rfl ?_
    refine Rx.callx (m' := m_X10_height) (as := [.int (iz r_7)]) (rest := []) rfl (n_height _ (cxW (u2 (u2 (u2 (u2 (u2 z 0 9 sd) 3 1 K) 3 2 pi_) 3 3 len) 3 4 tr) f C T rc tl)  r_7 ⟨by omega, by omega⟩) (fun v14 h15 q16 => ?_)
    obtain ⟨r_12, rfl, rfl, f13⟩ := q16
    refine Rx.walk 0 (pc' := 26) (L' := [some (.ref 0), some (.int (iz k)), some (.int (iz i)), some (.int (iz r_7)), none, none]) (st' := [.int (iz r_12)]) (h' := cxW (u2 (u2 (u2 (u2 (u2 z 0 9 sd) 3 1 K) 3 2 pi_) 3 3 len) 3 4 tr) f C T rc tl) rfl ?_
    have hhb : 0 ≤ r_12 ∧ r_12 ≤ 5 := by rw [f13]; have := ht_c r_7; omega
    refine Rx.walk 2 (pc' := 29) (L' := [some (.ref 0), some (.int (iz k)), some (.int (iz i)), some (.int (iz r_7)), some (.int (iz r_12)), none]) (st' := [.int (iz i)]) (h' := cxW (u2 (u2 (u2 (u2 (u2 z 0 9 sd) 3 1 K) 3 2 pi_) 3 3 len) 3 4 tr) f C T rc tl) rfl ?_
    refine Rx.lt1 rfl rfl ⟨by omega, by omega⟩ (fun b17 => ?_) (fun b17 => ?_)
    · refine Rx.walk 1 (pc' := 39) (L' := [some (.ref 0), some (.int (iz k)), some (.int (iz i)), some (.int (iz r_7)), some (.int (iz r_12)), none]) (st' := [.int (iz (-1))]) (h' := cxW (u2 (u2 (u2 (u2 (u2 z 0 9 sd) 3 1 K) 3 2 pi_) 3 3 len) 3 4 tr) f C T rc tl) rfl ?_
      refine Rx.ret rfl ?_
      have hx : (k = 0 ∧ r_12 = ht p0 ∧ r_7 = p0) ∨ (k ≠ 0 ∧ r_12 = ht p1 ∧ r_7 = p1) := by rcases f8 with ⟨x1, x2⟩ | ⟨x1, x2⟩; (left; exact ⟨x1, by rw [f13, x2, e0], by rw [x2, e0]⟩); (right; exact ⟨x1, by rw [f13, x2, e1], by rw [x2, e1]⟩)
      exact ⟨_, rfl, rfl, Or.inr (Or.inr ⟨by omega, rfl⟩)⟩
    · refine Rx.walk 2 (pc' := 35) (L' := [some (.ref 0), some (.int (iz k)), some (.int (iz i)), some (.int (iz r_7)), some (.int (iz r_12)), none]) (st' := [.int (iz r_12), .int (iz i)]) (h' := cxW (u2 (u2 (u2 (u2 (u2 z 0 9 sd) 3 1 K) 3 2 pi_) 3 3 len) 3 4 tr) f C T rc tl) rfl ?_
      refine Rx.lt2 rfl rfl ⟨by omega, by omega⟩ ⟨by omega, by omega⟩ (fun b18 => ?_) (fun b18 => ?_)
      · refine Rx.walk 2 (pc' := 43) (L' := [some (.ref 0), some (.int (iz k)), some (.int (iz i)), some (.int (iz r_7)), some (.int (iz r_12)), none]) (st' := [.int (iz 1), .int (iz r_12)]) (h' := cxW (u2 (u2 (u2 (u2 (u2 z 0 9 sd) 3 1 K) 3 2 pi_) 3 3 len) 3 4 tr) f C T rc tl) rfl ?_
        refine Rx.isub rfl ?_
        refine Rx.walk 1 (pc' := 46) (L' := [some (.ref 0), some (.int (iz k)), some (.int (iz i)), some (.int (iz r_7)), some (.int (iz r_12)), some (.int (iz (r_12 - 1)))]) (st' := []) (h' := cxW (u2 (u2 (u2 (u2 (u2 z 0 9 sd) 3 1 K) 3 2 pi_) 3 3 len) 3 4 tr) f C T rc tl) rfl ?_
        refine x_coin_l _ (u2 (u2 (u2 (u2 (u2 z 0 9 sd) 3 1 K) 3 2 pi_) 3 3 len) 3 4 tr) f C T rc tl  k i r_12 r_7 (by first | assumption | omega) (by first | assumption | omega) _ ?_ (((r_12 - 1) - i) + 1 : Int).toNat r_7 (r_12 - 1) (by first | assumption | omega) (by first | assumption | omega) (by first | assumption | omega) (by first | assumption | omega) rfl (by omega) 
        intro ly_19 ab_20 f21 f22
        refine Rx.walk 0 (pc' := 62) (L' := [some (.ref 0), some (.int (iz k)), some (.int (iz i)), some (.int (iz ly_19)), some (.int (iz r_12)), some (.int (iz ab_20))]) (st' := []) (h' := cxW (u2 (u2 (u2 (u2 (u2 z 0 9 sd) 3 1 K) 3 2 pi_) 3 3 len) 3 4 tr) f C T rc tl) rfl ?_
        refine Rx.walk 2 (pc' := 64) (L' := [some (.ref 0), some (.int (iz k)), some (.int (iz i)), some (.int (iz ly_19)), some (.int (iz r_12)), some (.int (iz ab_20))]) (st' := [.int (iz 5), .int (iz ly_19)]) (h' := cxW (u2 (u2 (u2 (u2 (u2 z 0 9 sd) 3 1 K) 3 2 pi_) 3 3 len) 3 4 tr) f C T rc tl) rfl ?_
        refine Rx.irem rfl ⟨by omega, by omega⟩ ⟨by omega, by omega⟩ (by omega) (by omega) ?_
        refine Rx.walk 1 (pc' := 66) (L' := [some (.ref 0), some (.int (iz k)), some (.int (iz i)), some (.int (iz ly_19)), some (.int (iz r_12)), some (.int (iz ab_20))]) (st' := [.int (iz 1), .int (iz (ly_19 % 5))]) (h' := cxW (u2 (u2 (u2 (u2 (u2 z 0 9 sd) 3 1 K) 3 2 pi_) 3 3 len) 3 4 tr) f C T rc tl) rfl ?_
        refine Rx.isub rfl ?_
        refine Rx.ret rfl ?_
        have hx : (k = 0 ∧ r_12 = ht p0 ∧ r_7 = p0) ∨ (k ≠ 0 ∧ r_12 = ht p1 ∧ r_7 = p1) := by rcases f8 with ⟨x1, x2⟩ | ⟨x1, x2⟩; (left; exact ⟨x1, by rw [f13, x2, e0], by rw [x2, e0]⟩); (right; exact ⟨x1, by rw [f13, x2, e1], by rw [x2, e1]⟩)
        rcases hx with ⟨x1, x2, x3⟩ | ⟨x1, x2, x3⟩
        · exact ⟨_, rfl, rfl, Or.inl ⟨x1, by omega, by omega, by omega, by rw [f21, x2, x3]⟩⟩
        · exact ⟨_, rfl, rfl, Or.inr (Or.inl ⟨by omega, by omega, by omega, by omega, by rw [f21, x2, x3]⟩)⟩
      · refine Rx.walk 1 (pc' := 39) (L' := [some (.ref 0), some (.int (iz k)), some (.int (iz i)), some (.int (iz r_7)), some (.int (iz r_12)), none]) (st' := [.int (iz (-1))]) (h' := cxW (u2 (u2 (u2 (u2 (u2 z 0 9 sd) 3 1 K) 3 2 pi_) 3 3 len) 3 4 tr) f C T rc tl) rfl ?_
        refine Rx.ret rfl ?_
        have hx : (k = 0 ∧ r_12 = ht p0 ∧ r_7 = p0) ∨ (k ≠ 0 ∧ r_12 = ht p1 ∧ r_7 = p1) := by rcases f8 with ⟨x1, x2⟩ | ⟨x1, x2⟩; (left; exact ⟨x1, by rw [f13, x2, e0], by rw [x2, e0]⟩); (right; exact ⟨x1, by rw [f13, x2, e1], by rw [x2, e1]⟩)
        exact ⟨_, rfl, rfl, Or.inr (Or.inr ⟨by omega, rfl⟩)⟩
  · refine Rx.walk 1 (pc' := 12) (L' := [some (.ref 0), some (.int (iz k)), some (.int (iz i)), none, none, none]) (st' := [.int (iz (-1))]) (h' := cxW (u2 (u2 (u2 (u2 (u2 z 0 9 sd) 3 1 K) 3 2 pi_) 3 3 len) 3 4 tr) f C T rc tl) rfl ?_
    refine Rx.ret rfl ?_
    exact ⟨_, rfl, rfl, Or.inr (Or.inr ⟨by omega, rfl⟩)⟩
set_option maxRecDepth 100000 in
set_option maxHeartbeats 4000000 in
theorem m_coin (d : Nat) (z : Nat → Int) (zl : Nat → Int) (f : Nat → Int → Int) (fl : Nat → Int → Int) (tx : Nat)  (k : Int) (i : Int) (K : Int) (p0 : Int) (p1 : Int) (t : Int) (pp : Int → Int) (li : Int → Int) (ty : Int → Int) (pi_ : Int) (len : Int) (tr : Int) (hk : bI k) (hi : bI i) (hM : mtI K pp li ty p0 p1 t) (hK : 0 ≤ K ∧ K ≤ 4) (hpi : 0 ≤ pi_ ∧ pi_ ≤ 2) (hlen : 0 ≤ len ∧ len ≤ 5) (htr : 0 ≤ tr ∧ tr ≤ 1) (hh0 : ht p0 ≤ len) (hh1 : ht p1 ≤ len) : Rx (d + 1) m_X12_coin 0 (am_ent [.ref 0, .int (iz k), .int (iz i)] 3) [] (cmH (u1 (u1 (u1 (u1 z 21 K) 22 pi_) 23 len) 24 tr) zl (uf (uf (uf f 10 pp) 11 li) 12 ty) fl tx) (fun rv h => ∃ r : Int, rv = some (.int (iz r)) ∧ h = cmH (u1 (u1 (u1 (u1 (u1 z 0 0) 21 K) 22 pi_) 23 len) 24 tr) zl (uf (uf (uf f 10 pp) 11 li) 12 ty) fl tx ∧ coiR pi_ p0 p1 k i r) := by
  obtain ⟨hi1, hi2⟩ := id hi
  obtain ⟨hk1, hk2⟩ := id hk
  obtain ⟨⟨hm1, hm2, hm3⟩, ⟨hm4, hm5, hm6⟩, hm7, hm8, hm9⟩ := mtI_b hM
  have hz0 := ht_c p0
  have hz1 := ht_c p1
  have hmt := mtI_t hM
  rcases (show k = 0 ∨ k = 1 ∨ (k ≠ 0 ∧ k ≠ 1) by omega) with rfl | rfl | hne
  · refine Rx.walk 0 (pc' := 0) (L' := [some (.ref 0), some (.int (iz 0)), some (.int (iz i))]) (st' := []) (h' := cmH (u1 (u1 (u1 (u1 z 21 K) 22 pi_) 23 len) 24 tr) zl (uf (uf (uf f 10 pp) 11 li) 12 ty) fl tx) rfl ?_
    refine Rx.walk 5 (pc' := 7) (L' := [some (.ref 0), some (.int (iz 0)), some (.int (iz i))]) (st' := [.int (iz 0), .ref 0]) (h' := cmH (u1 (u1 (u1 (u1 (u1 z 0 0) 21 K) 22 pi_) 23 len) 24 tr) zl (uf (uf (uf f 10 pp) 11 li) 12 ty) fl tx) rfl ?_
    refine Rx.callx (m' := m_X12_isPipe) (as := [.ref 0, .int (iz 0)]) (rest := []) rfl (m_isPipe _ (u1 (u1 (u1 (u1 (u1 z 0 0) 21 K) 22 pi_) 23 len) 24 tr) zl (uf (uf (uf f 10 pp) 11 li) 12 ty) fl tx  0 pi_ (by first | assumption | omega) ⟨by omega, by omega⟩) (fun v3 h4 q5 => ?_)
    obtain ⟨r_1, rfl, rfl, f2⟩ := q5
    refine Rx.walk 0 (pc' := 10) (L' := [some (.ref 0), some (.int (iz 0)), some (.int (iz i))]) (st' := [.int (iz r_1)]) (h' := cmH (u1 (u1 (u1 (u1 (u1 z 0 0) 21 K) 22 pi_) 23 len) 24 tr) zl (uf (uf (uf f 10 pp) 11 li) 12 ty) fl tx) rfl ?_
    refine Rx.eq1 rfl rfl ⟨by omega, by omega⟩ (fun b6 => ?_) (fun b6 => ?_)
    · refine Rx.walk 1 (pc' := 45) (L' := [some (.ref 0), some (.int (iz 0)), some (.int (iz i))]) (st' := [.int (iz (-1))]) (h' := cmH (u1 (u1 (u1 (u1 (u1 z 0 0) 21 K) 22 pi_) 23 len) 24 tr) zl (uf (uf (uf f 10 pp) 11 li) 12 ty) fl tx) rfl ?_
      refine Rx.ret rfl ?_
      exact ⟨_, rfl, rfl, Or.inr (Or.inr ⟨by omega, rfl⟩)⟩
    · refine Rx.walk 1 (pc' := 14) (L' := [some (.ref 0), some (.int (iz 0)), some (.int (iz i))]) (st' := [.int (iz i)]) (h' := cmH (u1 (u1 (u1 (u1 (u1 z 0 0) 21 K) 22 pi_) 23 len) 24 tr) zl (uf (uf (uf f 10 pp) 11 li) 12 ty) fl tx) rfl ?_
      refine Rx.i2l rfl ⟨by omega, by omega⟩ ?_
      refine Rx.walk 4 (pc' := 21) (L' := [some (.ref 0), some (.int (iz 0)), some (.int (iz i))]) (st' := [.int (iz 0), .ref 11, .long (jz 0), .long (jz i)]) (h' := cmH (u1 (u1 (u1 (u1 (u1 z 0 0) 21 K) 22 pi_) 23 len) 24 tr) zl (uf (uf (uf f 10 pp) 11 li) 12 ty) fl tx) rfl ?_
      refine Rx.ial (g := li) rfl rfl (by omega) (by omega) (by omega) ?_
      refine Rx.walk 1 (pc' := 23) (L' := [some (.ref 0), some (.int (iz 0)), some (.int (iz i))]) (st' := [.int (iz 1), .int (iz (li 0)), .long (jz 0), .long (jz i)]) (h' := cmH (u1 (u1 (u1 (u1 (u1 z 0 0) 21 K) 22 pi_) 23 len) 24 tr) zl (uf (uf (uf f 10 pp) 11 li) 12 ty) fl tx) rfl ?_
      refine Rx.isub rfl ?_
      refine Rx.i2l rfl ⟨by omega, by omega⟩ ?_
      refine Rx.callx (m' := m_X12_isIn) (as := [.long (jz i), .long (jz 0), .long (jz ((li 0) - 1))]) (rest := []) rfl (n_isIn _ (cmH (u1 (u1 (u1 (u1 (u1 z 0 0) 21 K) 22 pi_) 23 len) 24 tr) zl (uf (uf (uf f 10 pp) 11 li) 12 ty) fl tx)  i 0 ((li 0) - 1) ⟨by omega, by omega⟩ ⟨by omega, by omega⟩ ⟨by omega, by omega⟩) (fun v9 h10 q11 => ?_)
      obtain ⟨r_7, rfl, rfl, f8⟩ := q11
      refine Rx.walk 0 (pc' := 28) (L' := [some (.ref 0), some (.int (iz 0)), some (.int (iz i))]) (st' := [.int (iz r_7)]) (h' := cmH (u1 (u1 (u1 (u1 (u1 z 0 0) 21 K) 22 pi_) 23 len) 24 tr) zl (uf (uf (uf f 10 pp) 11 li) 12 ty) fl tx) rfl ?_
      refine Rx.eq1 rfl rfl ⟨by omega, by omega⟩ (fun b12 => ?_) (fun b12 => ?_)
      · refine Rx.walk 1 (pc' := 45) (L' := [some (.ref 0), some (.int (iz 0)), some (.int (iz i))]) (st' := [.int (iz (-1))]) (h' := cmH (u1 (u1 (u1 (u1 (u1 z 0 0) 21 K) 22 pi_) 23 len) 24 tr) zl (uf (uf (uf f 10 pp) 11 li) 12 ty) fl tx) rfl ?_
        refine Rx.ret rfl ?_
        exact ⟨_, rfl, rfl, Or.inr (Or.inr ⟨by omega, rfl⟩)⟩
      · refine Rx.walk 4 (pc' := 37) (L' := [some (.ref 0), some (.int (iz 0)), some (.int (iz i))]) (st' := [.int (iz 0), .int (iz 5), .ref 10]) (h' := cmH (u1 (u1 (u1 (u1 (u1 z 0 0) 21 K) 22 pi_) 23 len) 24 tr) zl (uf (uf (uf f 10 pp) 11 li) 12 ty) fl tx) rfl ?_
        refine Rx.imul rfl ?_
        refine Rx.walk 0 (pc' := 38) (L' := [some (.ref 0), some (.int (iz 0)), some (.int (iz i))]) (st' := [.int (iz 0), .ref 10]) (h' := cmH (u1 (u1 (u1 (u1 (u1 z 0 0) 21 K) 22 pi_) 23 len) 24 tr) zl (uf (uf (uf f 10 pp) 11 li) 12 ty) fl tx) rfl ?_
        refine Rx.walk 1 (pc' := 39) (L' := [some (.ref 0), some (.int (iz 0)), some (.int (iz i))]) (st' := [.int (iz i), .int (iz 0), .ref 10]) (h' := cmH (u1 (u1 (u1 (u1 (u1 z 0 0) 21 K) 22 pi_) 23 len) 24 tr) zl (uf (uf (uf f 10 pp) 11 li) 12 ty) fl tx) rfl ?_
        refine Rx.iadd rfl ?_
        refine Rx.ial (g := pp) rfl rfl (by omega) (by omega) (by omega) ?_
        refine Rx.walk 1 (pc' := 45) (L' := [some (.ref 0), some (.int (iz 0)), some (.int (iz i))]) (st' := [.int (iz (pp (0 + i)))]) (h' := cmH (u1 (u1 (u1 (u1 (u1 z 0 0) 21 K) 22 pi_) 23 len) 24 tr) zl (uf (uf (uf f 10 pp) 11 li) 12 ty) fl tx) rfl ?_
        refine Rx.ret rfl ?_
        have hv : (pp (0 + i)) = dvN (ht p0 - 1 - i).toNat p0 % 5 - 1 := by
          obtain ⟨n, n5, hl, hpr⟩ : ∃ n : Nat, n ≤ 5 ∧ li 0 = n ∧ prI K pp 0 n p0 := by obtain ⟨-, -, a, b, -⟩ := hM; exact a
          have q := prI_at hpr i.toNat (by omega)
          rw [Int.toNat_of_nonneg (by omega), show n - 1 - i.toNat = (ht p0 - 1 - i).toNat by omega] at q
          exact q
        exact ⟨_, rfl, rfl, Or.inl ⟨rfl, by omega, by omega, by omega, hv⟩⟩
  · refine Rx.walk 0 (pc' := 0) (L' := [some (.ref 0), some (.int (iz 1)), some (.int (iz i))]) (st' := []) (h' := cmH (u1 (u1 (u1 (u1 z 21 K) 22 pi_) 23 len) 24 tr) zl (uf (uf (uf f 10 pp) 11 li) 12 ty) fl tx) rfl ?_
    refine Rx.walk 5 (pc' := 7) (L' := [some (.ref 0), some (.int (iz 1)), some (.int (iz i))]) (st' := [.int (iz 1), .ref 0]) (h' := cmH (u1 (u1 (u1 (u1 (u1 z 0 0) 21 K) 22 pi_) 23 len) 24 tr) zl (uf (uf (uf f 10 pp) 11 li) 12 ty) fl tx) rfl ?_
    refine Rx.callx (m' := m_X12_isPipe) (as := [.ref 0, .int (iz 1)]) (rest := []) rfl (m_isPipe _ (u1 (u1 (u1 (u1 (u1 z 0 0) 21 K) 22 pi_) 23 len) 24 tr) zl (uf (uf (uf f 10 pp) 11 li) 12 ty) fl tx  1 pi_ (by first | assumption | omega) ⟨by omega, by omega⟩) (fun v3 h4 q5 => ?_)
    obtain ⟨r_1, rfl, rfl, f2⟩ := q5
    refine Rx.walk 0 (pc' := 10) (L' := [some (.ref 0), some (.int (iz 1)), some (.int (iz i))]) (st' := [.int (iz r_1)]) (h' := cmH (u1 (u1 (u1 (u1 (u1 z 0 0) 21 K) 22 pi_) 23 len) 24 tr) zl (uf (uf (uf f 10 pp) 11 li) 12 ty) fl tx) rfl ?_
    refine Rx.eq1 rfl rfl ⟨by omega, by omega⟩ (fun b6 => ?_) (fun b6 => ?_)
    · refine Rx.walk 1 (pc' := 45) (L' := [some (.ref 0), some (.int (iz 1)), some (.int (iz i))]) (st' := [.int (iz (-1))]) (h' := cmH (u1 (u1 (u1 (u1 (u1 z 0 0) 21 K) 22 pi_) 23 len) 24 tr) zl (uf (uf (uf f 10 pp) 11 li) 12 ty) fl tx) rfl ?_
      refine Rx.ret rfl ?_
      exact ⟨_, rfl, rfl, Or.inr (Or.inr ⟨by omega, rfl⟩)⟩
    · refine Rx.walk 1 (pc' := 14) (L' := [some (.ref 0), some (.int (iz 1)), some (.int (iz i))]) (st' := [.int (iz i)]) (h' := cmH (u1 (u1 (u1 (u1 (u1 z 0 0) 21 K) 22 pi_) 23 len) 24 tr) zl (uf (uf (uf f 10 pp) 11 li) 12 ty) fl tx) rfl ?_
      refine Rx.i2l rfl ⟨by omega, by omega⟩ ?_
      refine Rx.walk 4 (pc' := 21) (L' := [some (.ref 0), some (.int (iz 1)), some (.int (iz i))]) (st' := [.int (iz 1), .ref 11, .long (jz 0), .long (jz i)]) (h' := cmH (u1 (u1 (u1 (u1 (u1 z 0 0) 21 K) 22 pi_) 23 len) 24 tr) zl (uf (uf (uf f 10 pp) 11 li) 12 ty) fl tx) rfl ?_
      refine Rx.ial (g := li) rfl rfl (by omega) (by omega) (by omega) ?_
      refine Rx.walk 1 (pc' := 23) (L' := [some (.ref 0), some (.int (iz 1)), some (.int (iz i))]) (st' := [.int (iz 1), .int (iz (li 1)), .long (jz 0), .long (jz i)]) (h' := cmH (u1 (u1 (u1 (u1 (u1 z 0 0) 21 K) 22 pi_) 23 len) 24 tr) zl (uf (uf (uf f 10 pp) 11 li) 12 ty) fl tx) rfl ?_
      refine Rx.isub rfl ?_
      refine Rx.i2l rfl ⟨by omega, by omega⟩ ?_
      refine Rx.callx (m' := m_X12_isIn) (as := [.long (jz i), .long (jz 0), .long (jz ((li 1) - 1))]) (rest := []) rfl (n_isIn _ (cmH (u1 (u1 (u1 (u1 (u1 z 0 0) 21 K) 22 pi_) 23 len) 24 tr) zl (uf (uf (uf f 10 pp) 11 li) 12 ty) fl tx)  i 0 ((li 1) - 1) ⟨by omega, by omega⟩ ⟨by omega, by omega⟩ ⟨by omega, by omega⟩) (fun v9 h10 q11 => ?_)
      obtain ⟨r_7, rfl, rfl, f8⟩ := q11
      refine Rx.walk 0 (pc' := 28) (L' := [some (.ref 0), some (.int (iz 1)), some (.int (iz i))]) (st' := [.int (iz r_7)]) (h' := cmH (u1 (u1 (u1 (u1 (u1 z 0 0) 21 K) 22 pi_) 23 len) 24 tr) zl (uf (uf (uf f 10 pp) 11 li) 12 ty) fl tx) rfl ?_
      refine Rx.eq1 rfl rfl ⟨by omega, by omega⟩ (fun b12 => ?_) (fun b12 => ?_)
      · refine Rx.walk 1 (pc' := 45) (L' := [some (.ref 0), some (.int (iz 1)), some (.int (iz i))]) (st' := [.int (iz (-1))]) (h' := cmH (u1 (u1 (u1 (u1 (u1 z 0 0) 21 K) 22 pi_) 23 len) 24 tr) zl (uf (uf (uf f 10 pp) 11 li) 12 ty) fl tx) rfl ?_
        refine Rx.ret rfl ?_
        exact ⟨_, rfl, rfl, Or.inr (Or.inr ⟨by omega, rfl⟩)⟩
      · refine Rx.walk 4 (pc' := 37) (L' := [some (.ref 0), some (.int (iz 1)), some (.int (iz i))]) (st' := [.int (iz 1), .int (iz 5), .ref 10]) (h' := cmH (u1 (u1 (u1 (u1 (u1 z 0 0) 21 K) 22 pi_) 23 len) 24 tr) zl (uf (uf (uf f 10 pp) 11 li) 12 ty) fl tx) rfl ?_
        refine Rx.imul rfl ?_
        refine Rx.walk 0 (pc' := 38) (L' := [some (.ref 0), some (.int (iz 1)), some (.int (iz i))]) (st' := [.int (iz 5), .ref 10]) (h' := cmH (u1 (u1 (u1 (u1 (u1 z 0 0) 21 K) 22 pi_) 23 len) 24 tr) zl (uf (uf (uf f 10 pp) 11 li) 12 ty) fl tx) rfl ?_
        refine Rx.walk 1 (pc' := 39) (L' := [some (.ref 0), some (.int (iz 1)), some (.int (iz i))]) (st' := [.int (iz i), .int (iz 5), .ref 10]) (h' := cmH (u1 (u1 (u1 (u1 (u1 z 0 0) 21 K) 22 pi_) 23 len) 24 tr) zl (uf (uf (uf f 10 pp) 11 li) 12 ty) fl tx) rfl ?_
        refine Rx.iadd rfl ?_
        refine Rx.ial (g := pp) rfl rfl (by omega) (by omega) (by omega) ?_
        refine Rx.walk 1 (pc' := 45) (L' := [some (.ref 0), some (.int (iz 1)), some (.int (iz i))]) (st' := [.int (iz (pp (5 + i)))]) (h' := cmH (u1 (u1 (u1 (u1 (u1 z 0 0) 21 K) 22 pi_) 23 len) 24 tr) zl (uf (uf (uf f 10 pp) 11 li) 12 ty) fl tx) rfl ?_
        refine Rx.ret rfl ?_
        have hv : (pp (5 + i)) = dvN (ht p1 - 1 - i).toNat p1 % 5 - 1 := by
          obtain ⟨n, n5, hl, hpr⟩ : ∃ n : Nat, n ≤ 5 ∧ li 1 = n ∧ prI K pp 5 n p1 := by obtain ⟨-, -, a, b, -⟩ := hM; exact b
          have q := prI_at hpr i.toNat (by omega)
          rw [Int.toNat_of_nonneg (by omega), show n - 1 - i.toNat = (ht p1 - 1 - i).toNat by omega] at q
          exact q
        exact ⟨_, rfl, rfl, Or.inr (Or.inl ⟨rfl, by omega, by omega, by omega, hv⟩)⟩
  · refine Rx.walk 0 (pc' := 0) (L' := [some (.ref 0), some (.int (iz k)), some (.int (iz i))]) (st' := []) (h' := cmH (u1 (u1 (u1 (u1 z 21 K) 22 pi_) 23 len) 24 tr) zl (uf (uf (uf f 10 pp) 11 li) 12 ty) fl tx) rfl ?_
    refine Rx.walk 5 (pc' := 7) (L' := [some (.ref 0), some (.int (iz k)), some (.int (iz i))]) (st' := [.int (iz k), .ref 0]) (h' := cmH (u1 (u1 (u1 (u1 (u1 z 0 0) 21 K) 22 pi_) 23 len) 24 tr) zl (uf (uf (uf f 10 pp) 11 li) 12 ty) fl tx) rfl ?_
    refine Rx.callx (m' := m_X12_isPipe) (as := [.ref 0, .int (iz k)]) (rest := []) rfl (m_isPipe _ (u1 (u1 (u1 (u1 (u1 z 0 0) 21 K) 22 pi_) 23 len) 24 tr) zl (uf (uf (uf f 10 pp) 11 li) 12 ty) fl tx  k pi_ (by first | assumption | omega) ⟨by omega, by omega⟩) (fun v3 h4 q5 => ?_)
    obtain ⟨r_1, rfl, rfl, f2⟩ := q5
    refine Rx.walk 0 (pc' := 10) (L' := [some (.ref 0), some (.int (iz k)), some (.int (iz i))]) (st' := [.int (iz r_1)]) (h' := cmH (u1 (u1 (u1 (u1 (u1 z 0 0) 21 K) 22 pi_) 23 len) 24 tr) zl (uf (uf (uf f 10 pp) 11 li) 12 ty) fl tx) rfl ?_
    refine Rx.eq1 rfl rfl ⟨by omega, by omega⟩ (fun b6 => ?_) (fun b6 => by omega)
    refine Rx.walk 1 (pc' := 45) (L' := [some (.ref 0), some (.int (iz k)), some (.int (iz i))]) (st' := [.int (iz (-1))]) (h' := cmH (u1 (u1 (u1 (u1 (u1 z 0 0) 21 K) 22 pi_) 23 len) 24 tr) zl (uf (uf (uf f 10 pp) 11 li) 12 ty) fl tx) rfl ?_
    refine Rx.ret rfl ?_
    exact ⟨_, rfl, rfl, Or.inr (Or.inr ⟨by omega, rfl⟩)⟩
set_option maxRecDepth 100000 in
set_option maxHeartbeats 4000000 in
theorem m_coins (d : Nat) (z : Nat → Int) (zl : Nat → Int) (f : Nat → Int → Int) (fl : Nat → Int → Int) (tx : Nat)  (K : Int) (p0 : Int) (p1 : Int) (t : Int) (pp : Int → Int) (li : Int → Int) (ty : Int → Int) (hM : mtI K pp li ty p0 p1 t) : Rx (d + 1) m_X12_coins 0 (am_ent [.ref 0] 1) [] (cmH z zl (uf (uf (uf f 10 pp) 11 li) 12 ty) fl tx) (fun rv h => ∃ r : Int, rv = some (.int (iz r)) ∧ h = cmH z zl (uf (uf (uf f 10 pp) 11 li) 12 ty) fl tx ∧ r = ht p0 + ht p1 + tbit t) := by
  obtain ⟨⟨hm1, hm2, hm3⟩, ⟨hm4, hm5, hm6⟩, hm7, hm8, hm9⟩ := mtI_b hM
  have hmt := mtI_t hM
  have hh0 : 0 ≤ ht p0 ∧ ht p0 ≤ 5 := by have := ht_c p0; omega
  have hh1 : 0 ≤ ht p1 ∧ ht p1 ≤ 5 := by have := ht_c p1; omega
  refine Rx.walk 0 (pc' := 0) (L' := [some (.ref 0)]) (st' := []) (h' := cmH z zl (uf (uf (uf f 10 pp) 11 li) 12 ty) fl tx) rfl ?_
  refine Rx.walk 3 (pc' := 5) (L' := [some (.ref 0)]) (st' := [.int (iz 0), .ref 11]) (h' := cmH z zl (uf (uf (uf f 10 pp) 11 li) 12 ty) fl tx) rfl ?_
  refine Rx.ial (g := li) rfl rfl (by omega) (by omega) (by omega) ?_
  refine Rx.walk 3 (pc' := 11) (L' := [some (.ref 0)]) (st' := [.int (iz 1), .ref 11, .int (iz (li 0))]) (h' := cmH z zl (uf (uf (uf f 10 pp) 11 li) 12 ty) fl tx) rfl ?_
  refine Rx.ial (g := li) rfl rfl (by omega) (by omega) (by omega) ?_
  refine Rx.iadd rfl ?_
  refine Rx.walk 1 (pc' := 14) (L' := [some (.ref 0)]) (st' := [.ref 0, .int (iz ((li 0) + (li 1)))]) (h' := cmH z zl (uf (uf (uf f 10 pp) 11 li) 12 ty) fl tx) rfl ?_
  refine Rx.callx (m' := m_X12_onTray) (as := [.ref 0]) (rest := [.int (iz ((li 0) + (li 1)))]) rfl (m_onTray _ z zl (uf (uf (uf f 10 pp) 11 li) 12 ty) fl tx  K p0 p1 t pp li ty hM) (fun v3 h4 q5 => ?_)
  obtain ⟨r_1, rfl, rfl, f2⟩ := q5
  refine Rx.walk 0 (pc' := 17) (L' := [some (.ref 0)]) (st' := [.int (iz r_1), .int (iz ((li 0) + (li 1)))]) (h' := cmH z zl (uf (uf (uf f 10 pp) 11 li) 12 ty) fl tx) rfl ?_
  refine Rx.iadd rfl ?_
  refine Rx.ret rfl ?_
  exact ⟨_, rfl, rfl, (by have := tbit_c t; omega)⟩
set_option maxRecDepth 100000 in
set_option maxHeartbeats 4000000 in
theorem x_count (d : Nat) (z : Nat → Nat → Int) (f : Nat → Int → Int) (C : Nat → CuR) (T : Nat → TsR) (rc : Nat → Nat) (tl : AmH)  (what : Int) (sd : Int) (K : Int) (pi_ : Int) (len : Int) (tr : Int) (p0 : Int) (p1 : Int) (t0 : Int) (M : Int) (Rn : Int) (n : Int) (hwt : bI what) (hK : 0 ≤ K ∧ K ≤ 4) (hpi : 0 ≤ pi_ ∧ pi_ ≤ 2) (hlen : 0 ≤ len ∧ len ≤ 5) (htr : 0 ≤ tr ∧ tr ≤ 1) (hp0 : 0 ≤ p0 ∧ p0 < 3125) (hp1 : 0 ≤ p1 ∧ p1 < 3125) (ht0 : 0 ≤ t0) (ht4 : t0 ≤ 4) (hti : sd = tn p0 p1 t0) : Rx (d + 2) m_X11_count 0 (am_ent [.ref 0, .int (iz what)] 2) [] (cxW (u2 (u2 (u2 (u2 (u2 (u2 (u2 (u2 z 0 6 M) 0 8 Rn) 0 9 sd) 1 1 n) 3 1 K) 3 2 pi_) 3 3 len) 3 4 tr) f C T rc tl) (fun rv h => ∃ r : Int, rv = some (.int (iz r)) ∧ h = cxW (u2 (u2 (u2 (u2 (u2 (u2 (u2 (u2 z 0 6 M) 0 8 Rn) 0 9 sd) 1 1 n) 3 1 K) 3 2 pi_) 3 3 len) 3 4 tr) f C T rc tl ∧ ((what < 0 ∨ 7 < what) ∧ r = -2 ∨ (what = 0 ∧ r = K) ∨ (what = 1 ∧ r = pi_) ∨ (what = 2 ∧ r = len) ∨ (what = 3 ∧ r = tr) ∨ (what = 4 ∧ r = M) ∨ (what = 5 ∧ r = Rn) ∨ (what = 6 ∧ r = n) ∨ (what = 7 ∧ r = ht p0 + ht p1 + tbit t0))) := by
  obtain ⟨hw1, hw2⟩ := id hwt
  obtain ⟨e0, e1, e2⟩ := tn_0 (p0 := p0) hp1.1 hp1.2 ht0 ht4
  have e3 := tw_c ht0 ht4
  rw [← hti] at e0 e1 e2
  have e4 : 0 ≤ sd ∧ sd < 2147483648 := by rw [hti]; unfold tn; omega
  have e5 : sd = (p0 * 3125 + p1) * 16 + tw t0 := hti
  have hz0 := ht_c p0
  have hz1 := ht_c p1
  have htb := tbit_c t0
  have hbt := bc_tw ht0 ht4
  refine Rx.walk 0 (pc' := 0) (L' := [some (.ref 0), some (.int (iz what))]) (st' := []) (h' := cxW (u2 (u2 (u2 (u2 (u2 (u2 (u2 (u2 z 0 6 M) 0 8 Rn) 0 9 sd) 1 1 n) 3 1 K) 3 2 pi_) 3 3 len) 3 4 tr) f C T rc tl) rfl ?_
  refine Rx.walk 1 (pc' := 1) (L' := [some (.ref 0), some (.int (iz what))]) (st' := [.int (iz what)]) (h' := cxW (u2 (u2 (u2 (u2 (u2 (u2 (u2 (u2 z 0 6 M) 0 8 Rn) 0 9 sd) 1 1 n) 3 1 K) 3 2 pi_) 3 3 len) 3 4 tr) f C T rc tl) rfl ?_
  rcases (show what = 0 ∨ what = 1 ∨ what = 2 ∨ what = 3 ∨ what = 4 ∨ what = 5 ∨ what = 6 ∨ what = 7 ∨ (what < 0 ∨ 7 < what) by omega) with s1 | s1 | s1 | s1 | s1 | s1 | s1 | s1 | s1
  · rw [s1]
    subst s1
    refine Rx.walk 1 (pc' := 48) (L' := [some (.ref 0), some (.int (iz 0))]) (st' := []) (h' := cxW (u2 (u2 (u2 (u2 (u2 (u2 (u2 (u2 z 0 6 M) 0 8 Rn) 0 9 sd) 1 1 n) 3 1 K) 3 2 pi_) 3 3 len) 3 4 tr) f C T rc tl) rfl ?_
    refine Rx.walk 3 (pc' := 55) (L' := [some (.ref 0), some (.int (iz 0))]) (st' := [.int (iz K)]) (h' := cxW (u2 (u2 (u2 (u2 (u2 (u2 (u2 (u2 z 0 6 M) 0 8 Rn) 0 9 sd) 1 1 n) 3 1 K) 3 2 pi_) 3 3 len) 3 4 tr) f C T rc tl) rfl ?_
    refine Rx.ret rfl ?_
    exact ⟨_, rfl, rfl, Or.inr (Or.inl ⟨rfl, rfl⟩)⟩
  · rw [s1]
    subst s1
    refine Rx.walk 1 (pc' := 56) (L' := [some (.ref 0), some (.int (iz 1))]) (st' := []) (h' := cxW (u2 (u2 (u2 (u2 (u2 (u2 (u2 (u2 z 0 6 M) 0 8 Rn) 0 9 sd) 1 1 n) 3 1 K) 3 2 pi_) 3 3 len) 3 4 tr) f C T rc tl) rfl ?_
    refine Rx.walk 3 (pc' := 63) (L' := [some (.ref 0), some (.int (iz 1))]) (st' := [.int (iz pi_)]) (h' := cxW (u2 (u2 (u2 (u2 (u2 (u2 (u2 (u2 z 0 6 M) 0 8 Rn) 0 9 sd) 1 1 n) 3 1 K) 3 2 pi_) 3 3 len) 3 4 tr) f C T rc tl) rfl ?_
    refine Rx.ret rfl ?_
    exact ⟨_, rfl, rfl, Or.inr (Or.inr (Or.inl ⟨rfl, rfl⟩))⟩
  · rw [s1]
    subst s1
    refine Rx.walk 1 (pc' := 64) (L' := [some (.ref 0), some (.int (iz 2))]) (st' := []) (h' := cxW (u2 (u2 (u2 (u2 (u2 (u2 (u2 (u2 z 0 6 M) 0 8 Rn) 0 9 sd) 1 1 n) 3 1 K) 3 2 pi_) 3 3 len) 3 4 tr) f C T rc tl) rfl ?_
    refine Rx.walk 3 (pc' := 71) (L' := [some (.ref 0), some (.int (iz 2))]) (st' := [.int (iz len)]) (h' := cxW (u2 (u2 (u2 (u2 (u2 (u2 (u2 (u2 z 0 6 M) 0 8 Rn) 0 9 sd) 1 1 n) 3 1 K) 3 2 pi_) 3 3 len) 3 4 tr) f C T rc tl) rfl ?_
    refine Rx.ret rfl ?_
    exact ⟨_, rfl, rfl, Or.inr (Or.inr (Or.inr (Or.inl ⟨rfl, rfl⟩)))⟩
  · rw [s1]
    subst s1
    refine Rx.walk 1 (pc' := 72) (L' := [some (.ref 0), some (.int (iz 3))]) (st' := []) (h' := cxW (u2 (u2 (u2 (u2 (u2 (u2 (u2 (u2 z 0 6 M) 0 8 Rn) 0 9 sd) 1 1 n) 3 1 K) 3 2 pi_) 3 3 len) 3 4 tr) f C T rc tl) rfl ?_
    refine Rx.walk 3 (pc' := 79) (L' := [some (.ref 0), some (.int (iz 3))]) (st' := [.int (iz tr)]) (h' := cxW (u2 (u2 (u2 (u2 (u2 (u2 (u2 (u2 z 0 6 M) 0 8 Rn) 0 9 sd) 1 1 n) 3 1 K) 3 2 pi_) 3 3 len) 3 4 tr) f C T rc tl) rfl ?_
    refine Rx.ret rfl ?_
    exact ⟨_, rfl, rfl, Or.inr (Or.inr (Or.inr (Or.inr (Or.inl ⟨rfl, rfl⟩))))⟩
  · rw [s1]
    subst s1
    refine Rx.walk 1 (pc' := 80) (L' := [some (.ref 0), some (.int (iz 4))]) (st' := []) (h' := cxW (u2 (u2 (u2 (u2 (u2 (u2 (u2 (u2 z 0 6 M) 0 8 Rn) 0 9 sd) 1 1 n) 3 1 K) 3 2 pi_) 3 3 len) 3 4 tr) f C T rc tl) rfl ?_
    refine Rx.walk 2 (pc' := 84) (L' := [some (.ref 0), some (.int (iz 4))]) (st' := [.int (iz M)]) (h' := cxW (u2 (u2 (u2 (u2 (u2 (u2 (u2 (u2 z 0 6 M) 0 8 Rn) 0 9 sd) 1 1 n) 3 1 K) 3 2 pi_) 3 3 len) 3 4 tr) f C T rc tl) rfl ?_
    refine Rx.ret rfl ?_
    exact ⟨_, rfl, rfl, Or.inr (Or.inr (Or.inr (Or.inr (Or.inr (Or.inl ⟨rfl, rfl⟩)))))⟩
  · rw [s1]
    subst s1
    refine Rx.walk 1 (pc' := 85) (L' := [some (.ref 0), some (.int (iz 5))]) (st' := []) (h' := cxW (u2 (u2 (u2 (u2 (u2 (u2 (u2 (u2 z 0 6 M) 0 8 Rn) 0 9 sd) 1 1 n) 3 1 K) 3 2 pi_) 3 3 len) 3 4 tr) f C T rc tl) rfl ?_
    refine Rx.walk 2 (pc' := 89) (L' := [some (.ref 0), some (.int (iz 5))]) (st' := [.int (iz Rn)]) (h' := cxW (u2 (u2 (u2 (u2 (u2 (u2 (u2 (u2 z 0 6 M) 0 8 Rn) 0 9 sd) 1 1 n) 3 1 K) 3 2 pi_) 3 3 len) 3 4 tr) f C T rc tl) rfl ?_
    refine Rx.ret rfl ?_
    exact ⟨_, rfl, rfl, Or.inr (Or.inr (Or.inr (Or.inr (Or.inr (Or.inr (Or.inl ⟨rfl, rfl⟩))))))⟩
  · rw [s1]
    subst s1
    refine Rx.walk 1 (pc' := 90) (L' := [some (.ref 0), some (.int (iz 6))]) (st' := []) (h' := cxW (u2 (u2 (u2 (u2 (u2 (u2 (u2 (u2 z 0 6 M) 0 8 Rn) 0 9 sd) 1 1 n) 3 1 K) 3 2 pi_) 3 3 len) 3 4 tr) f C T rc tl) rfl ?_
    refine Rx.walk 3 (pc' := 97) (L' := [some (.ref 0), some (.int (iz 6))]) (st' := [.int (iz n)]) (h' := cxW (u2 (u2 (u2 (u2 (u2 (u2 (u2 (u2 z 0 6 M) 0 8 Rn) 0 9 sd) 1 1 n) 3 1 K) 3 2 pi_) 3 3 len) 3 4 tr) f C T rc tl) rfl ?_
    refine Rx.ret rfl ?_
    exact ⟨_, rfl, rfl, Or.inr (Or.inr (Or.inr (Or.inr (Or.inr (Or.inr (Or.inr (Or.inl ⟨rfl, rfl⟩)))))))⟩
  · rw [s1]
    subst s1
    refine Rx.walk 1 (pc' := 98) (L' := [some (.ref 0), some (.int (iz 7))]) (st' := []) (h' := cxW (u2 (u2 (u2 (u2 (u2 (u2 (u2 (u2 z 0 6 M) 0 8 Rn) 0 9 sd) 1 1 n) 3 1 K) 3 2 pi_) 3 3 len) 3 4 tr) f C T rc tl) rfl ?_
    refine Rx.walk 2 (pc' := 102) (L' := [some (.ref 0), some (.int (iz 7))]) (st' := [.int (iz sd)]) (h' := cxW (u2 (u2 (u2 (u2 (u2 (u2 (u2 (u2 z 0 6 M) 0 8 Rn) 0 9 sd) 1 1 n) 3 1 K) 3 2 pi_) 3 3 len) 3 4 tr) f C T rc tl) rfl ?_
    refine Rx.callx (m' := m_X10_coinsIn) (as := [.int (iz sd)]) (rest := []) rfl (n_coinsIn _ (cxW (u2 (u2 (u2 (u2 (u2 (u2 (u2 (u2 z 0 6 M) 0 8 Rn) 0 9 sd) 1 1 n) 3 1 K) 3 2 pi_) 3 3 len) 3 4 tr) f C T rc tl)  sd (by first | assumption | omega) (by first | assumption | omega)) (fun v4 h5 q6 => ?_)
    obtain ⟨r_2, rfl, rfl, f3⟩ := q6
    refine Rx.walk 0 (pc' := 105) (L' := [some (.ref 0), some (.int (iz 7))]) (st' := [.int (iz r_2)]) (h' := cxW (u2 (u2 (u2 (u2 (u2 (u2 (u2 (u2 z 0 6 M) 0 8 Rn) 0 9 sd) 1 1 n) 3 1 K) 3 2 pi_) 3 3 len) 3 4 tr) f C T rc tl) rfl ?_
    refine Rx.ret rfl ?_
    rw [e0, e1, e2, hbt] at f3
    exact ⟨_, rfl, rfl, Or.inr (Or.inr (Or.inr (Or.inr (Or.inr (Or.inr (Or.inr (Or.inr (⟨rfl, f3⟩))))))))⟩
  · refine Rx.tsd rfl rfl ⟨by omega, by omega⟩ (by omega) ?_
    refine Rx.walk 1 (pc' := 108) (L' := [some (.ref 0), some (.int (iz what))]) (st' := [.int (iz (-2))]) (h' := cxW (u2 (u2 (u2 (u2 (u2 (u2 (u2 (u2 z 0 6 M) 0 8 Rn) 0 9 sd) 1 1 n) 3 1 K) 3 2 pi_) 3 3 len) 3 4 tr) f C T rc tl) rfl ?_
    refine Rx.ret rfl ?_
    exact ⟨_, rfl, rfl, Or.inl ⟨by omega, rfl⟩⟩
set_option maxRecDepth 100000 in
set_option maxHeartbeats 4000000 in
theorem m_count (d : Nat) (z : Nat → Int) (zl : Nat → Int) (f : Nat → Int → Int) (fl : Nat → Int → Int) (tx : Nat)  (what : Int) (K : Int) (p0 : Int) (p1 : Int) (t : Int) (pp : Int → Int) (li : Int → Int) (ty : Int → Int) (pi_ : Int) (len : Int) (tr : Int) (M : Int) (Rn : Int) (n : Int) (hwt : bI what) (hM : mtI K pp li ty p0 p1 t) (hK : 0 ≤ K ∧ K ≤ 4) (hpi : 0 ≤ pi_ ∧ pi_ ≤ 2) (hlen : 0 ≤ len ∧ len ≤ 5) (htr : 0 ≤ tr ∧ tr ≤ 1) (hh0 : ht p0 ≤ len) (hh1 : ht p1 ≤ len) : Rx (d + 2) m_X12_count 0 (am_ent [.ref 0, .int (iz what)] 2) [] (cmH (u1 (u1 (u1 (u1 (u1 (u1 (u1 z 6 n) 7 Rn) 21 K) 22 pi_) 23 len) 24 tr) 28 M) zl (uf (uf (uf f 10 pp) 11 li) 12 ty) fl tx) (fun rv h => ∃ r : Int, rv = some (.int (iz r)) ∧ h = cmH (u1 (u1 (u1 (u1 (u1 (u1 (u1 (u1 z 0 0) 6 n) 7 Rn) 21 K) 22 pi_) 23 len) 24 tr) 28 M) zl (uf (uf (uf f 10 pp) 11 li) 12 ty) fl tx ∧ ((what < 0 ∨ 7 < what) ∧ r = -2 ∨ (what = 0 ∧ r = K) ∨ (what = 1 ∧ r = pi_) ∨ (what = 2 ∧ r = len) ∨ (what = 3 ∧ r = tr) ∨ (what = 4 ∧ r = M) ∨ (what = 5 ∧ r = Rn) ∨ (what = 6 ∧ r = n) ∨ (what = 7 ∧ r = ht p0 + ht p1 + tbit t))) := by
  obtain ⟨hw1, hw2⟩ := id hwt
  refine Rx.walk 0 (pc' := 0) (L' := [some (.ref 0), some (.int (iz what))]) (st' := []) (h' := cmH (u1 (u1 (u1 (u1 (u1 (u1 (u1 z 6 n) 7 Rn) 21 K) 22 pi_) 23 len) 24 tr) 28 M) zl (uf (uf (uf f 10 pp) 11 li) 12 ty) fl tx) rfl ?_
  refine Rx.walk 4 (pc' := 6) (L' := [some (.ref 0), some (.int (iz what))]) (st' := [.int (iz what)]) (h' := cmH (u1 (u1 (u1 (u1 (u1 (u1 (u1 (u1 z 0 0) 6 n) 7 Rn) 21 K) 22 pi_) 23 len) 24 tr) 28 M) zl (uf (uf (uf f 10 pp) 11 li) 12 ty) fl tx) rfl ?_
  rcases (show what = 0 ∨ what = 1 ∨ what = 2 ∨ what = 3 ∨ what = 4 ∨ what = 5 ∨ what = 6 ∨ what = 7 ∨ (what < 0 ∨ 7 < what) by omega) with s1 | s1 | s1 | s1 | s1 | s1 | s1 | s1 | s1
  · rw [s1]
    subst s1
    refine Rx.walk 1 (pc' := 52) (L' := [some (.ref 0), some (.int (iz 0))]) (st' := []) (h' := cmH (u1 (u1 (u1 (u1 (u1 (u1 (u1 (u1 z 0 0) 6 n) 7 Rn) 21 K) 22 pi_) 23 len) 24 tr) 28 M) zl (uf (uf (uf f 10 pp) 11 li) 12 ty) fl tx) rfl ?_
    refine Rx.walk 2 (pc' := 56) (L' := [some (.ref 0), some (.int (iz 0))]) (st' := [.int (iz K)]) (h' := cmH (u1 (u1 (u1 (u1 (u1 (u1 (u1 (u1 z 0 0) 6 n) 7 Rn) 21 K) 22 pi_) 23 len) 24 tr) 28 M) zl (uf (uf (uf f 10 pp) 11 li) 12 ty) fl tx) rfl ?_
    refine Rx.ret rfl ?_
    exact ⟨_, rfl, rfl, Or.inr (Or.inl ⟨rfl, rfl⟩)⟩
  · rw [s1]
    subst s1
    refine Rx.walk 1 (pc' := 57) (L' := [some (.ref 0), some (.int (iz 1))]) (st' := []) (h' := cmH (u1 (u1 (u1 (u1 (u1 (u1 (u1 (u1 z 0 0) 6 n) 7 Rn) 21 K) 22 pi_) 23 len) 24 tr) 28 M) zl (uf (uf (uf f 10 pp) 11 li) 12 ty) fl tx) rfl ?_
    refine Rx.walk 2 (pc' := 61) (L' := [some (.ref 0), some (.int (iz 1))]) (st' := [.int (iz pi_)]) (h' := cmH (u1 (u1 (u1 (u1 (u1 (u1 (u1 (u1 z 0 0) 6 n) 7 Rn) 21 K) 22 pi_) 23 len) 24 tr) 28 M) zl (uf (uf (uf f 10 pp) 11 li) 12 ty) fl tx) rfl ?_
    refine Rx.ret rfl ?_
    exact ⟨_, rfl, rfl, Or.inr (Or.inr (Or.inl ⟨rfl, rfl⟩))⟩
  · rw [s1]
    subst s1
    refine Rx.walk 1 (pc' := 62) (L' := [some (.ref 0), some (.int (iz 2))]) (st' := []) (h' := cmH (u1 (u1 (u1 (u1 (u1 (u1 (u1 (u1 z 0 0) 6 n) 7 Rn) 21 K) 22 pi_) 23 len) 24 tr) 28 M) zl (uf (uf (uf f 10 pp) 11 li) 12 ty) fl tx) rfl ?_
    refine Rx.walk 2 (pc' := 66) (L' := [some (.ref 0), some (.int (iz 2))]) (st' := [.int (iz len)]) (h' := cmH (u1 (u1 (u1 (u1 (u1 (u1 (u1 (u1 z 0 0) 6 n) 7 Rn) 21 K) 22 pi_) 23 len) 24 tr) 28 M) zl (uf (uf (uf f 10 pp) 11 li) 12 ty) fl tx) rfl ?_
    refine Rx.ret rfl ?_
    exact ⟨_, rfl, rfl, Or.inr (Or.inr (Or.inr (Or.inl ⟨rfl, rfl⟩)))⟩
  · rw [s1]
    subst s1
    refine Rx.walk 1 (pc' := 67) (L' := [some (.ref 0), some (.int (iz 3))]) (st' := []) (h' := cmH (u1 (u1 (u1 (u1 (u1 (u1 (u1 (u1 z 0 0) 6 n) 7 Rn) 21 K) 22 pi_) 23 len) 24 tr) 28 M) zl (uf (uf (uf f 10 pp) 11 li) 12 ty) fl tx) rfl ?_
    refine Rx.walk 2 (pc' := 71) (L' := [some (.ref 0), some (.int (iz 3))]) (st' := [.int (iz tr)]) (h' := cmH (u1 (u1 (u1 (u1 (u1 (u1 (u1 (u1 z 0 0) 6 n) 7 Rn) 21 K) 22 pi_) 23 len) 24 tr) 28 M) zl (uf (uf (uf f 10 pp) 11 li) 12 ty) fl tx) rfl ?_
    refine Rx.ret rfl ?_
    exact ⟨_, rfl, rfl, Or.inr (Or.inr (Or.inr (Or.inr (Or.inl ⟨rfl, rfl⟩))))⟩
  · rw [s1]
    subst s1
    refine Rx.walk 1 (pc' := 72) (L' := [some (.ref 0), some (.int (iz 4))]) (st' := []) (h' := cmH (u1 (u1 (u1 (u1 (u1 (u1 (u1 (u1 z 0 0) 6 n) 7 Rn) 21 K) 22 pi_) 23 len) 24 tr) 28 M) zl (uf (uf (uf f 10 pp) 11 li) 12 ty) fl tx) rfl ?_
    refine Rx.walk 2 (pc' := 76) (L' := [some (.ref 0), some (.int (iz 4))]) (st' := [.int (iz M)]) (h' := cmH (u1 (u1 (u1 (u1 (u1 (u1 (u1 (u1 z 0 0) 6 n) 7 Rn) 21 K) 22 pi_) 23 len) 24 tr) 28 M) zl (uf (uf (uf f 10 pp) 11 li) 12 ty) fl tx) rfl ?_
    refine Rx.ret rfl ?_
    exact ⟨_, rfl, rfl, Or.inr (Or.inr (Or.inr (Or.inr (Or.inr (Or.inl ⟨rfl, rfl⟩)))))⟩
  · rw [s1]
    subst s1
    refine Rx.walk 1 (pc' := 77) (L' := [some (.ref 0), some (.int (iz 5))]) (st' := []) (h' := cmH (u1 (u1 (u1 (u1 (u1 (u1 (u1 (u1 z 0 0) 6 n) 7 Rn) 21 K) 22 pi_) 23 len) 24 tr) 28 M) zl (uf (uf (uf f 10 pp) 11 li) 12 ty) fl tx) rfl ?_
    refine Rx.walk 2 (pc' := 81) (L' := [some (.ref 0), some (.int (iz 5))]) (st' := [.int (iz Rn)]) (h' := cmH (u1 (u1 (u1 (u1 (u1 (u1 (u1 (u1 z 0 0) 6 n) 7 Rn) 21 K) 22 pi_) 23 len) 24 tr) 28 M) zl (uf (uf (uf f 10 pp) 11 li) 12 ty) fl tx) rfl ?_
    refine Rx.ret rfl ?_
    exact ⟨_, rfl, rfl, Or.inr (Or.inr (Or.inr (Or.inr (Or.inr (Or.inr (Or.inl ⟨rfl, rfl⟩))))))⟩
  · rw [s1]
    subst s1
    refine Rx.walk 1 (pc' := 82) (L' := [some (.ref 0), some (.int (iz 6))]) (st' := []) (h' := cmH (u1 (u1 (u1 (u1 (u1 (u1 (u1 (u1 z 0 0) 6 n) 7 Rn) 21 K) 22 pi_) 23 len) 24 tr) 28 M) zl (uf (uf (uf f 10 pp) 11 li) 12 ty) fl tx) rfl ?_
    refine Rx.walk 2 (pc' := 86) (L' := [some (.ref 0), some (.int (iz 6))]) (st' := [.int (iz n)]) (h' := cmH (u1 (u1 (u1 (u1 (u1 (u1 (u1 (u1 z 0 0) 6 n) 7 Rn) 21 K) 22 pi_) 23 len) 24 tr) 28 M) zl (uf (uf (uf f 10 pp) 11 li) 12 ty) fl tx) rfl ?_
    refine Rx.ret rfl ?_
    exact ⟨_, rfl, rfl, Or.inr (Or.inr (Or.inr (Or.inr (Or.inr (Or.inr (Or.inr (Or.inl ⟨rfl, rfl⟩)))))))⟩
  · rw [s1]
    subst s1
    refine Rx.walk 1 (pc' := 87) (L' := [some (.ref 0), some (.int (iz 7))]) (st' := []) (h' := cmH (u1 (u1 (u1 (u1 (u1 (u1 (u1 (u1 z 0 0) 6 n) 7 Rn) 21 K) 22 pi_) 23 len) 24 tr) 28 M) zl (uf (uf (uf f 10 pp) 11 li) 12 ty) fl tx) rfl ?_
    refine Rx.walk 1 (pc' := 88) (L' := [some (.ref 0), some (.int (iz 7))]) (st' := [.ref 0]) (h' := cmH (u1 (u1 (u1 (u1 (u1 (u1 (u1 (u1 z 0 0) 6 n) 7 Rn) 21 K) 22 pi_) 23 len) 24 tr) 28 M) zl (uf (uf (uf f 10 pp) 11 li) 12 ty) fl tx) rfl ?_
    refine Rx.callx (m' := m_X12_coins) (as := [.ref 0]) (rest := []) rfl (m_coins _ (u1 (u1 (u1 (u1 (u1 (u1 (u1 (u1 z 0 0) 6 n) 7 Rn) 21 K) 22 pi_) 23 len) 24 tr) 28 M) zl (uf (uf (uf f 10 pp) 11 li) 12 ty) fl tx  K p0 p1 t pp li ty hM) (fun v4 h5 q6 => ?_)
    obtain ⟨r_2, rfl, rfl, f3⟩ := q6
    refine Rx.walk 0 (pc' := 91) (L' := [some (.ref 0), some (.int (iz 7))]) (st' := [.int (iz r_2)]) (h' := cmH (u1 (u1 (u1 (u1 (u1 (u1 (u1 (u1 z 0 0) 6 n) 7 Rn) 21 K) 22 pi_) 23 len) 24 tr) 28 M) zl (uf (uf (uf f 10 pp) 11 li) 12 ty) fl tx) rfl ?_
    refine Rx.ret rfl ?_
    exact ⟨_, rfl, rfl, Or.inr (Or.inr (Or.inr (Or.inr (Or.inr (Or.inr (Or.inr (Or.inr (⟨rfl, f3⟩))))))))⟩
  · refine Rx.tsd rfl rfl ⟨by omega, by omega⟩ (by omega) ?_
    refine Rx.walk 1 (pc' := 94) (L' := [some (.ref 0), some (.int (iz what))]) (st' := [.int (iz (-2))]) (h' := cmH (u1 (u1 (u1 (u1 (u1 (u1 (u1 (u1 z 0 0) 6 n) 7 Rn) 21 K) 22 pi_) 23 len) 24 tr) 28 M) zl (uf (uf (uf f 10 pp) 11 li) 12 ty) fl tx) rfl ?_
    refine Rx.ret rfl ?_
    exact ⟨_, rfl, rfl, Or.inl ⟨by omega, rfl⟩⟩
set_option maxRecDepth 100000 in
set_option maxHeartbeats 4000000 in
theorem x_isCust (d : Nat) (z : Nat → Nat → Int) (f : Nat → Int → Int) (C : Nat → CuR) (T : Nat → TsR) (rc : Nat → Nat) (tl : AmH)  (k : Int) (M : Int) (hK : 0 ≤ M ∧ M ≤ 4) (hk : bI k) : Rx (d) m_X11_isCustomer 0 (am_ent [.ref 0, .int (iz k)] 2) [] (cxW (u2 z 0 6 M) f C T rc tl) (fun rv h => ∃ r : Int, rv = some (.int (iz r)) ∧ h = cxW (u2 z 0 6 M) f C T rc tl ∧ ((r = 1 ∧ 0 ≤ k ∧ k < M) ∨ (r = 0 ∧ ¬ (0 ≤ k ∧ k < M)))) := by
  obtain ⟨hk1, hk2⟩ := id hk
  refine Rx.walk 0 (pc' := 0) (L' := [some (.ref 0), some (.int (iz k))]) (st' := []) (h' := cxW (u2 z 0 6 M) f C T rc tl) rfl ?_
  refine Rx.walk 1 (pc' := 1) (L' := [some (.ref 0), some (.int (iz k))]) (st' := [.int (iz k)]) (h' := cxW (u2 z 0 6 M) f C T rc tl) rfl ?_
  refine Rx.lt1 rfl rfl ⟨by omega, by omega⟩ (fun b1 => ?_) (fun b1 => ?_)
  · refine Rx.walk 1 (pc' := 17) (L' := [some (.ref 0), some (.int (iz k))]) (st' := [.int (iz 0)]) (h' := cxW (u2 z 0 6 M) f C T rc tl) rfl ?_
    refine Rx.ret rfl ?_
    exact ⟨_, rfl, rfl, (by omega)⟩
  · refine Rx.walk 3 (pc' := 9) (L' := [some (.ref 0), some (.int (iz k))]) (st' := [.int (iz M), .int (iz k)]) (h' := cxW (u2 z 0 6 M) f C T rc tl) rfl ?_
    refine Rx.ge2 rfl rfl ⟨by omega, by omega⟩ ⟨by omega, by omega⟩ (fun b2 => ?_) (fun b2 => ?_)
    · refine Rx.walk 1 (pc' := 17) (L' := [some (.ref 0), some (.int (iz k))]) (st' := [.int (iz 0)]) (h' := cxW (u2 z 0 6 M) f C T rc tl) rfl ?_
      refine Rx.ret rfl ?_
      exact ⟨_, rfl, rfl, (by omega)⟩
    · refine Rx.walk 2 (pc' := 17) (L' := [some (.ref 0), some (.int (iz k))]) (st' := [.int (iz 1)]) (h' := cxW (u2 z 0 6 M) f C T rc tl) rfl ?_
      refine Rx.ret rfl ?_
      exact ⟨_, rfl, rfl, (by omega)⟩
set_option maxRecDepth 100000 in
set_option maxHeartbeats 4000000 in
theorem x_isRule (d : Nat) (z : Nat → Nat → Int) (f : Nat → Int → Int) (C : Nat → CuR) (T : Nat → TsR) (rc : Nat → Nat) (tl : AmH)  (k : Int) (Rn : Int) (hK : 0 ≤ Rn ∧ Rn ≤ 4) (hk : bI k) : Rx (d) m_X11_isRule 0 (am_ent [.ref 0, .int (iz k)] 2) [] (cxW (u2 z 0 8 Rn) f C T rc tl) (fun rv h => ∃ r : Int, rv = some (.int (iz r)) ∧ h = cxW (u2 z 0 8 Rn) f C T rc tl ∧ ((r = 1 ∧ 0 ≤ k ∧ k < Rn) ∨ (r = 0 ∧ ¬ (0 ≤ k ∧ k < Rn)))) := by
  obtain ⟨hk1, hk2⟩ := id hk
  refine Rx.walk 0 (pc' := 0) (L' := [some (.ref 0), some (.int (iz k))]) (st' := []) (h' := cxW (u2 z 0 8 Rn) f C T rc tl) rfl ?_
  refine Rx.walk 1 (pc' := 1) (L' := [some (.ref 0), some (.int (iz k))]) (st' := [.int (iz k)]) (h' := cxW (u2 z 0 8 Rn) f C T rc tl) rfl ?_
  refine Rx.lt1 rfl rfl ⟨by omega, by omega⟩ (fun b1 => ?_) (fun b1 => ?_)
  · refine Rx.walk 1 (pc' := 17) (L' := [some (.ref 0), some (.int (iz k))]) (st' := [.int (iz 0)]) (h' := cxW (u2 z 0 8 Rn) f C T rc tl) rfl ?_
    refine Rx.ret rfl ?_
    exact ⟨_, rfl, rfl, (by omega)⟩
  · refine Rx.walk 3 (pc' := 9) (L' := [some (.ref 0), some (.int (iz k))]) (st' := [.int (iz Rn), .int (iz k)]) (h' := cxW (u2 z 0 8 Rn) f C T rc tl) rfl ?_
    refine Rx.ge2 rfl rfl ⟨by omega, by omega⟩ ⟨by omega, by omega⟩ (fun b2 => ?_) (fun b2 => ?_)
    · refine Rx.walk 1 (pc' := 17) (L' := [some (.ref 0), some (.int (iz k))]) (st' := [.int (iz 0)]) (h' := cxW (u2 z 0 8 Rn) f C T rc tl) rfl ?_
      refine Rx.ret rfl ?_
      exact ⟨_, rfl, rfl, (by omega)⟩
    · refine Rx.walk 2 (pc' := 17) (L' := [some (.ref 0), some (.int (iz k))]) (st' := [.int (iz 1)]) (h' := cxW (u2 z 0 8 Rn) f C T rc tl) rfl ?_
      refine Rx.ret rfl ?_
      exact ⟨_, rfl, rfl, (by omega)⟩
set_option maxRecDepth 100000 in
set_option maxHeartbeats 4000000 in
theorem x_served (d : Nat) (z : Nat → Nat → Int) (f : Nat → Int → Int) (C : Nat → CuR) (T : Nat → TsR) (rc : Nat → Nat) (tl : AmH)  (c : Int) (M : Int) (sv : Int → Int) (hc : bI c) (hM : 0 ≤ M ∧ M ≤ 4) : Rx (d + 1) m_X11_served 0 (am_ent [.ref 0, .int (iz c)] 2) [] (cxW (u2 z 0 6 M) (uf f 44 sv) C T rc tl) (fun rv h => ∃ r : Int, rv = some (.int (iz r)) ∧ h = cxW (u2 z 0 6 M) (uf f 44 sv) C T rc tl ∧ ((0 ≤ c ∧ c < M ∧ r = sv c) ∨ (¬ (0 ≤ c ∧ c < M) ∧ r = -1))) := by
  obtain ⟨hk1, hk2⟩ := id hc
  refine Rx.walk 0 (pc' := 0) (L' := [some (.ref 0), some (.int (iz c))]) (st' := []) (h' := cxW (u2 z 0 6 M) (uf f 44 sv) C T rc tl) rfl ?_
  refine Rx.walk 2 (pc' := 2) (L' := [some (.ref 0), some (.int (iz c))]) (st' := [.int (iz c), .ref 0]) (h' := cxW (u2 z 0 6 M) (uf f 44 sv) C T rc tl) rfl ?_
  refine Rx.callx (m' := m_X11_isCustomer) (as := [.ref 0, .int (iz c)]) (rest := []) rfl (x_isCust _ (u2 z 0 6 M) (uf f 44 sv) C T rc tl  c M (by first | assumption | omega) hc) (fun v3 h4 q5 => ?_)
  obtain ⟨r_1, rfl, rfl, f2⟩ := q5
  refine Rx.walk 0 (pc' := 5) (L' := [some (.ref 0), some (.int (iz c))]) (st' := [.int (iz r_1)]) (h' := cxW (u2 z 0 6 M) (uf f 44 sv) C T rc tl) rfl ?_
  refine Rx.eq1 rfl rfl ⟨by omega, by omega⟩ (fun b6 => ?_) (fun b6 => ?_)
  · refine Rx.walk 1 (pc' := 18) (L' := [some (.ref 0), some (.int (iz c))]) (st' := [.int (iz (-1))]) (h' := cxW (u2 z 0 6 M) (uf f 44 sv) C T rc tl) rfl ?_
    refine Rx.ret rfl ?_
    exact ⟨_, rfl, rfl, (by omega)⟩
  · refine Rx.walk 3 (pc' := 13) (L' := [some (.ref 0), some (.int (iz c))]) (st' := [.int (iz c), .ref 44]) (h' := cxW (u2 z 0 6 M) (uf f 44 sv) C T rc tl) rfl ?_
    refine Rx.ial (g := sv) rfl rfl (by omega) (by omega) (by omega) ?_
    refine Rx.walk 1 (pc' := 18) (L' := [some (.ref 0), some (.int (iz c))]) (st' := [.int (iz (sv c))]) (h' := cxW (u2 z 0 6 M) (uf f 44 sv) C T rc tl) rfl ?_
    refine Rx.ret rfl ?_
    exact ⟨_, rfl, rfl, (by omega)⟩
set_option maxRecDepth 100000 in
set_option maxHeartbeats 4000000 in
theorem m_served (d : Nat) (z : Nat → Int) (zl : Nat → Int) (f : Nat → Int → Int) (fl : Nat → Int → Int) (tx : Nat)  (c : Int) (M : Int) (sv : Int → Int) (hc : bI c) (hM : 0 ≤ M ∧ M ≤ 4) : Rx (d + 1) m_X12_served 0 (am_ent [.ref 0, .int (iz c)] 2) [] (cmH (u1 z 28 M) zl (uf f 13 sv) fl tx) (fun rv h => ∃ r : Int, rv = some (.int (iz r)) ∧ h = cmH (u1 (u1 z 0 0) 28 M) zl (uf f 13 sv) fl tx ∧ ((0 ≤ c ∧ c < M ∧ r = sv c) ∨ (¬ (0 ≤ c ∧ c < M) ∧ r = -1))) := by
  obtain ⟨hk1, hk2⟩ := id hc
  refine Rx.walk 0 (pc' := 0) (L' := [some (.ref 0), some (.int (iz c))]) (st' := []) (h' := cmH (u1 z 28 M) zl (uf f 13 sv) fl tx) rfl ?_
  refine Rx.walk 5 (pc' := 7) (L' := [some (.ref 0), some (.int (iz c))]) (st' := [.int (iz c), .ref 0]) (h' := cmH (u1 (u1 z 0 0) 28 M) zl (uf f 13 sv) fl tx) rfl ?_
  refine Rx.callx (m' := m_X12_isCustomer) (as := [.ref 0, .int (iz c)]) (rest := []) rfl (m_isCust _ (u1 (u1 z 0 0) 28 M) zl (uf f 13 sv) fl tx  c M (by first | assumption | omega) hc) (fun v3 h4 q5 => ?_)
  obtain ⟨r_1, rfl, rfl, f2⟩ := q5
  refine Rx.walk 0 (pc' := 10) (L' := [some (.ref 0), some (.int (iz c))]) (st' := [.int (iz r_1)]) (h' := cmH (u1 (u1 z 0 0) 28 M) zl (uf f 13 sv) fl tx) rfl ?_
  refine Rx.eq1 rfl rfl ⟨by omega, by omega⟩ (fun b6 => ?_) (fun b6 => ?_)
  · refine Rx.walk 1 (pc' := 23) (L' := [some (.ref 0), some (.int (iz c))]) (st' := [.int (iz (-1))]) (h' := cmH (u1 (u1 z 0 0) 28 M) zl (uf f 13 sv) fl tx) rfl ?_
    refine Rx.ret rfl ?_
    exact ⟨_, rfl, rfl, (by omega)⟩
  · refine Rx.walk 3 (pc' := 18) (L' := [some (.ref 0), some (.int (iz c))]) (st' := [.int (iz c), .ref 13]) (h' := cmH (u1 (u1 z 0 0) 28 M) zl (uf f 13 sv) fl tx) rfl ?_
    refine Rx.ial (g := sv) rfl rfl (by omega) (by omega) (by omega) ?_
    refine Rx.walk 1 (pc' := 23) (L' := [some (.ref 0), some (.int (iz c))]) (st' := [.int (iz (sv c))]) (h' := cmH (u1 (u1 z 0 0) 28 M) zl (uf f 13 sv) fl tx) rfl ?_
    refine Rx.ret rfl ?_
    exact ⟨_, rfl, rfl, (by omega)⟩

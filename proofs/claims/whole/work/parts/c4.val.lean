/-! value: the runs of class and model, and the law's case (printed by wip/whole/genval2.py) -/
set_option maxRecDepth 100000 in
set_option maxHeartbeats 4000000 in
theorem x_value (d : Nat) (z : Nat → Nat → Int) (f : Nat → Int → Int) (C : Nat → CuR) (T : Nat → TsR) (rc : Nat → Nat) (tl : AmH)  (k : Int) (K : Int) (w : Int → Int) (hK : 0 ≤ K ∧ K ≤ 4) (hk : bI k) (hin : 0 ≤ k ∧ k < K) : Rx (d + 1) m_X11_value 0 (am_ent [.ref 0, .int (iz k)] 2) [] (cxW (u2 z 3 1 K) (uf f 4 w) C T rc tl) (fun rv h => ∃ r : Int, rv = some (.int (iz r)) ∧ h = cxW (u2 z 3 1 K) (uf f 4 w) C T rc tl ∧ r = w (k + 1)) := by
  obtain ⟨hk1, hk2⟩ := id hk
  refine Rx.walk 0 (pc' := 0) (L' := [some (.ref 0), some (.int (iz k))]) (st' := []) (h' := cxW (u2 z 3 1 K) (uf f 4 w) C T rc tl) rfl ?_
  refine Rx.walk 3 (pc' := 5) (L' := [some (.ref 0), some (.int (iz k))]) (st' := [.int (iz k), .ref 3]) (h' := cxW (u2 z 3 1 K) (uf f 4 w) C T rc tl) rfl ?_
  refine Rx.callx (m' := m_X7_hasKind) (as := [.ref 3, .int (iz k)]) (rest := []) rfl (x_hasKind _ z (uf f 4 w) C T rc tl  k K hK hk) (fun v3 h4 q5 => ?_)
  obtain ⟨r_1, rfl, rfl, f2⟩ := q5
  refine Rx.walk 0 (pc' := 8) (L' := [some (.ref 0), some (.int (iz k))]) (st' := [.int (iz r_1)]) (h' := cxW (u2 z 3 1 K) (uf f 4 w) C T rc tl) rfl ?_
  refine Rx.ne1 rfl rfl ⟨by omega, by omega⟩ (fun b6 => ?_) (fun b6 => by omega)
  refine Rx.walk 5 (pc' := 30) (L' := [some (.ref 0), some (.int (iz k))]) (st' := [.int (iz 1), .int (iz k), .ref 4]) (h' := cxW (u2 z 3 1 K) (uf f 4 w) C T rc tl) rfl ?_
  refine Rx.iadd rfl ?_
  refine Rx.ial (g := w) rfl rfl (by omega) (by omega) (by omega) ?_
  refine Rx.ret rfl ?_
  exact ⟨_, rfl, rfl, rfl⟩
set_option maxRecDepth 100000 in
set_option maxHeartbeats 4000000 in
theorem m_value (d : Nat) (z : Nat → Int) (zl : Nat → Int) (f : Nat → Int → Int) (fl : Nat → Int → Int) (tx : Nat)  (k : Int) (K : Int) (va : Int → Int) (th : Int) (hK : 0 ≤ K ∧ K ≤ 4) (hk : bI k) : Rx (d + 1) m_X12_value 0 (am_ent [.ref 0, .int (iz k)] 2) [] (cmH (u1 (u1 z 0 th) 21 K) zl (uf f 5 va) fl tx) (fun rv h => ∃ r : Int, ∃ th' : Int, rv = some (.int (iz r)) ∧ h = cmH (u1 (u1 z 0 th') 21 K) zl (uf f 5 va) fl tx ∧ ((0 ≤ k ∧ k < K ∧ th' = 0 ∧ r = va k) ∨ (¬ (0 ≤ k ∧ k < K) ∧ th' = 1 ∧ r = 0))) := by
  obtain ⟨hk1, hk2⟩ := id hk
  refine Rx.walk 0 (pc' := 0) (L' := [some (.ref 0), some (.int (iz k))]) (st' := []) (h' := cmH (u1 (u1 z 0 th) 21 K) zl (uf f 5 va) fl tx) rfl ?_
  refine Rx.walk 3 (pc' := 3) (L' := [some (.ref 0), some (.int (iz k))]) (st' := [.int (iz k), .ref 0, .ref 0]) (h' := cmH (u1 (u1 z 0 th) 21 K) zl (uf f 5 va) fl tx) rfl ?_
  refine Rx.callx (m' := m_X12_isKind) (as := [.ref 0, .int (iz k)]) (rest := [.ref 0]) rfl (m_isKind _ (u1 z 0 th) zl (uf f 5 va) fl tx  k K hK hk) (fun v3 h4 q5 => ?_)
  obtain ⟨r_1, rfl, rfl, f2⟩ := q5
  refine Rx.walk 0 (pc' := 6) (L' := [some (.ref 0), some (.int (iz k))]) (st' := [.int (iz r_1), .ref 0]) (h' := cmH (u1 (u1 z 0 th) 21 K) zl (uf f 5 va) fl tx) rfl ?_
  refine Rx.eq1 rfl rfl ⟨by omega, by omega⟩ (fun b6 => ?_) (fun b6 => ?_)
  · refine Rx.walk 4 (pc' := 21) (L' := [some (.ref 0), some (.int (iz k))]) (st' := [.int (iz 1)]) (h' := cmH (u1 (u1 z 0 1) 21 K) zl (uf f 5 va) fl tx) rfl ?_
    refine Rx.le1 rfl rfl ⟨by omega, by omega⟩ (fun b7 => by omega) (fun b7 => ?_)
    refine Rx.walk 2 (pc' := 34) (L' := [some (.ref 0), some (.int (iz k))]) (st' := [.int (iz 0)]) (h' := cmH (u1 (u1 z 0 1) 21 K) zl (uf f 5 va) fl tx) rfl ?_
    refine Rx.ret rfl ?_
    exact ⟨_, _, rfl, rfl, by first | (exact Or.inl ⟨by omega, by omega, rfl, rfl⟩) | (exact Or.inr ⟨by omega, rfl, rfl⟩)⟩
  · refine Rx.walk 5 (pc' := 21) (L' := [some (.ref 0), some (.int (iz k))]) (st' := [.int (iz 0)]) (h' := cmH (u1 (u1 z 0 0) 21 K) zl (uf f 5 va) fl tx) rfl ?_
    refine Rx.le1 rfl rfl ⟨by omega, by omega⟩ (fun b8 => ?_) (fun b8 => by omega)
    refine Rx.walk 3 (pc' := 33) (L' := [some (.ref 0), some (.int (iz k))]) (st' := [.int (iz k), .ref 5]) (h' := cmH (u1 (u1 z 0 0) 21 K) zl (uf f 5 va) fl tx) rfl ?_
    refine Rx.ial (g := va) rfl rfl (by omega) (by omega) (by omega) ?_
    refine Rx.ret rfl ?_
    exact ⟨_, _, rfl, rfl, by first | (exact Or.inl ⟨by omega, by omega, rfl, rfl⟩) | (exact Or.inr ⟨by omega, rfl, rfl⟩)⟩
set_option maxRecDepth 100000 in
set_option maxHeartbeats 4000000 in
theorem m_thrown (d : Nat) (z : Nat → Int) (zl : Nat → Int) (f : Nat → Int → Int) (fl : Nat → Int → Int) (tx : Nat)  (th : Int) : Rx (d) m_X12_thrown 0 (am_ent [.ref 0] 1) [] (cmH (u1 z 0 th) zl f fl tx) (fun rv h => rv = some (.int (iz th)) ∧ h = cmH (u1 z 0 th) zl f fl tx) := by
  refine Rx.walk 0 (pc' := 0) (L' := [some (.ref 0)]) (st' := []) (h' := cmH (u1 z 0 th) zl f fl tx) rfl ?_
  refine Rx.walk 2 (pc' := 4) (L' := [some (.ref 0)]) (st' := [.int (iz th)]) (h' := cmH (u1 z 0 th) zl f fl tx) rfl ?_
  refine Rx.ret rfl ?_
  exact ⟨rfl, rfl⟩
set_option maxRecDepth 100000 in
set_option maxHeartbeats 4000000 in
theorem lx_C4_ok : lx_C4 Inv := by
  intro N hN p l e s m below meth c H locs cells slots Q b Ln xs sa av D hx hm qx qm qo ls i u w hlt hE C S hI hi hcc hss hl K0
  obtain ⟨z, f, C', T, rc, tl, zm, zl, fm, fl, tx, n, K, pi_, len, tr, M, R, ik, p0, p1, t, bs, Rts, rfl, rfl, I⟩ := hI
  obtain ⟨e1, he1, hxe⟩ := iz_ex (xs (i + 1))
  obtain ⟨rvm, hm2, km, rm, thm, rfl, rfl, qm⟩ := m_value 99 (Zm zm n K pi_ len tr M R ik) zl fm fl tx e1 K (fm 5) (zm 0) I.hK he1
  obtain ⟨rvt, ht2, kt, rfl, rfl⟩ := m_thrown 100 (u1 (Zm zm n K pi_ len tr M R ik) 0 thm) zl fm fl tx thm
  rw [← hxe] at km
  have hI' : Inv (N + 1) (cxW (Zx z n K pi_ len tr M R (tn p0 p1 t) ik) f C' T rc tl) (cmH (u1 (Zm zm n K pi_ len tr M R ik) 0 thm) zl fm fl tx) := ⟨z, f, C', T, rc, tl, u1 zm 0 thm, zl, fm, fl, tx, n, K, pi_, len, tr, M, R, ik, p0, p1, t, bs, Rts, rfl, rfl, ⟨I.hT, I.hMo, I.hg6, I.hK5, I.hc7, I.hK, I.hpi, I.hlen, I.htr, I.hw, I.hva, I.hop, I.hM, I.hMK, I.hCA, I.hCB, I.hcm, I.hk0, I.hk1, I.hp1, I.hp0, I.hmt, I.hsv, I.hs0, (bd_n I.hst), I.hS, I.hTs, I.hgv, ⟨I.hmv.1, bd_n I.hmv.2⟩, I.hmk, I.hlt, I.htn, I.hb55, I.hb56, I.hb57, I.hR, I.hr0, I.hr1, I.hr2, I.hr3, I.hRU, I.hik, I.him⟩⟩
  rcases qm with ⟨q1, q2, rfl, q4⟩ | ⟨q1, rfl, q3⟩
  · obtain ⟨rvx, hx2, kx, rx, rfl, rfl, qx⟩ := x_value 99 (Zx z n K pi_ len tr M R (tn p0 p1 t) ik) f C' T rc tl e1 K (f 4) I.hK he1 ⟨q1, q2⟩
    rw [← hxe] at kx
    have hr : rx = rm := by rw [qx, q4, I.hva e1 q1 q2]
    rw [hr] at kx
    exact vy_c4A (v := iz rm) C hE S (Nat.succ_pos _) rfl rfl (fun H ad ca co fo => vy_valA (Nat.succ_pos _) rfl kx) km kt hI' hi hcc hss hl K0
  · obtain ⟨rvx, hx2, kx, rx, rfl, rfl, qx⟩ := x_hasKind 100 (Zx z n K pi_ len tr M R (tn p0 p1 t) ik) f C' T rc tl e1 K I.hK he1
    rw [← hxe] at kx
    have hr : rx = 0 := by rcases qx with q | q; (exact absurd q.2 q1); exact q.1
    subst hr
    exact vy_c4B (v := iz rm) C hE S (Nat.succ_pos _) rfl rfl (fun H ad ca co fo => vy_valB hlt (ps := 3) (Nat.succ_pos _) (Nat.succ_lt_succ (Nat.succ_lt_succ (Nat.succ_lt_succ (Nat.succ_pos _)))) rfl rfl rfl kx) km kt hI' hi hcc hss hl K0

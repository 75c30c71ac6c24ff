/-! class and model agree: back, change, amounts, end, feed (printed by wip/whole/genag3.py) -/
set_option maxRecDepth 100000 in
set_option maxHeartbeats 4000000 in
theorem x_change0 (d : Nat) (z : Nat → Nat → Int) (f : Nat → Int → Int) (C : Nat → CuR) (T : Nat → TsR) (rc : Nat → Nat) (tl : AmH)  (much : Int) (what : Int) (K : Int) (hmu : bI much) (hwh : bI what) (hK0 : K = 0) : Rx (d + 1) m_X11_change 0 (am_ent [.ref 0, .int (iz much), .int (iz what)] 4) [] (cxW (u2 z 3 1 K) f C T rc tl) (fun rv h => rv = some (.int (iz (-2))) ∧ h = cxW (u2 z 3 1 K) f C T rc tl) := by
  refine Rx.walk 0 (pc' := 0) (L' := [some (.ref 0), some (.int (iz much)), some (.int (iz what)), none]) (st' := []) (h' := cxW (u2 z 3 1 K) f C T rc tl) rfl ?_
  refine Rx.walk 2 (pc' := 4) (L' := [some (.ref 0), some (.int (iz much)), some (.int (iz what)), none]) (st' := [.ref 3]) (h' := cxW (u2 z 3 1 K) f C T rc tl) rfl ?_
  refine Rx.callx (m' := m_X7_isOpen) (as := [.ref 3]) (rest := []) rfl (x_sopen _ z f C T rc tl  K ⟨by omega, by omega⟩) (fun v3 h4 q5 => ?_)
  obtain ⟨r_1, rfl, rfl, f2⟩ := q5
  refine Rx.walk 0 (pc' := 7) (L' := [some (.ref 0), some (.int (iz much)), some (.int (iz what)), none]) (st' := [.int (iz r_1)]) (h' := cxW (u2 z 3 1 K) f C T rc tl) rfl ?_
  refine Rx.eq1 rfl rfl ⟨by omega, by omega⟩ (fun b6 => ?_) (fun b6 => by omega)
  refine Rx.walk 1 (pc' := 32) (L' := [some (.ref 0), some (.int (iz much)), some (.int (iz what)), none]) (st' := [.int (iz (-2))]) (h' := cxW (u2 z 3 1 K) f C T rc tl) rfl ?_
  refine Rx.ret rfl ?_
  exact ⟨rfl, rfl⟩
set_option maxRecDepth 100000 in
set_option maxHeartbeats 4000000 in
theorem x_amounts0 (d : Nat) (z : Nat → Nat → Int) (f : Nat → Int → Int) (C : Nat → CuR) (T : Nat → TsR) (rc : Nat → Nat) (tl : AmH)  (K : Int) (hK0 : K = 0) : Rx (d + 1) m_X11_amounts 0 (am_ent [.ref 0] 3) [] (cxW (u2 z 3 1 K) f C T rc tl) (fun rv h => rv = some (.int (iz (-1))) ∧ h = cxW (u2 z 3 1 K) f C T rc tl) := by
  refine Rx.walk 0 (pc' := 0) (L' := [some (.ref 0), none, none]) (st' := []) (h' := cxW (u2 z 3 1 K) f C T rc tl) rfl ?_
  refine Rx.walk 2 (pc' := 4) (L' := [some (.ref 0), none, none]) (st' := [.ref 3]) (h' := cxW (u2 z 3 1 K) f C T rc tl) rfl ?_
  refine Rx.callx (m' := m_X7_isOpen) (as := [.ref 3]) (rest := []) rfl (x_sopen _ z f C T rc tl  K ⟨by omega, by omega⟩) (fun v3 h4 q5 => ?_)
  obtain ⟨r_1, rfl, rfl, f2⟩ := q5
  refine Rx.walk 0 (pc' := 7) (L' := [some (.ref 0), none, none]) (st' := [.int (iz r_1)]) (h' := cxW (u2 z 3 1 K) f C T rc tl) rfl ?_
  refine Rx.ne1 rfl rfl ⟨by omega, by omega⟩ (fun b6 => by omega) (fun b6 => ?_)
  refine Rx.walk 1 (pc' := 11) (L' := [some (.ref 0), none, none]) (st' := [.int (iz (-1))]) (h' := cxW (u2 z 3 1 K) f C T rc tl) rfl ?_
  refine Rx.ret rfl ?_
  exact ⟨rfl, rfl⟩
set_option maxRecDepth 100000 in
set_option maxHeartbeats 4000000 in
theorem ag_change (N : Nat) (hN : N < 64) : ∀ y1 y2 : Int32, ln_AgI (Inv N) (Inv (N + 1)) m_X11_change m_X12_change [.int (y1), .int (y2)] := by
  intro y1 y2 hx hm hI
  obtain ⟨e1, he1, rfl⟩ := iz_ex y1
  obtain ⟨e2, he2, rfl⟩ := iz_ex y2
  obtain ⟨z, f, C, T, rc, tl, zm, zl, fm, fl, tx, n, K, pi_, len, tr, M, R, ik, p0, p1, t, bs, Rts, rfl, rfl, I⟩ := hI
  rcases (show K = 0 ∨ 0 < K by have := I.hK; omega) with hk0 | hk1
  · obtain ⟨rvx, hx, kx, rfl, rfl⟩ := x_change0 99 (Zx z n K pi_ len tr M R (tn p0 p1 t) ik) f C T rc tl e1 e2 K he1 he2 hk0
    obtain ⟨rvm, hm, km, rm, mkm, fwm, mvm, rfl, rfl, qm0, qm1, qm2⟩ := m_change 69 (Zm zm n K pi_ len tr M R ik) zl fm fl tx e1 e2 K p0 p1 t (fm 10) (fm 11) (fm 12) len pi_ tr (fm 5) (fm 16) (fm 25) (zm 40) (f 4) he1 he2 I.hK I.opK I.hmt I.h0 I.h1 I.q1 I.htr I.hw I.hva I.hmv.1 I.hmk (by have := I.hmv.2; omega)
    have hr : rm = (-2) := by
      rcases qm2 with b | b
      · omega
      · exfalso; omega
    rw [hr] at km
    exact ⟨iz ((-2)), _, _, 0, 0, 0, 0, kx, km, by omega, by omega, z, f, C, T, rc, tl, (u1 (u1 zm 0 0) 40 mvm), zl, (uf (uf fm 16 mkm) 25 fwm), fl, tx, n, K, pi_, len, tr, M, R, ik, p0, p1, t, bs, Rts, rfl, rfl, ⟨I.hT, I.hMo, I.hg6, I.hK5, I.hc7, I.hK, I.hpi, I.hlen, I.htr, I.hw, I.hva, I.hop, I.hM, I.hMK, I.hCA, I.hCB, I.hcm, I.hk0, I.hk1, I.hp1, I.hp0, I.hmt, I.hsv, I.hs0, (bd_n I.hst), I.hS, I.hTs, I.hgv, ⟨Int.le_trans I.hmv.1 qm0.1, bd_s I.hmv.2 qm0.2 (by decide)⟩, qm1, I.hlt, I.htn, I.hb55, I.hb56, I.hb57, I.hR, I.hr0, I.hr1, I.hr2, I.hr3, I.hRU, I.hik, I.him⟩⟩
  · obtain ⟨rvx, hx, kx, rx, otx, whx, tl_x, qdx, edx, stx, R0x, R1x, K0x, K1x, qx, mox, smx, enx, rfl, rfl, qx0, qx1, qx2⟩ := x_change 97 (Zx z n K pi_ len tr M R (tn p0 p1 t) ik) f C T rc tl e1 e2 (tn p0 p1 t) K (f 4) tr len pi_ p0 p1 t (z 46 3) (z 46 11) (z 46 12) (z 46 5) (z 46 10) (z 46 8) (f 48) (f 49) (f 51) (f 52) (f 53) (f 54) (f 55) (f 56) he1 he2 I.hK I.hw I.htr ⟨(I.hop hk1).1, I.hlen.2⟩ I.hpi I.b0 I.b1 I.t0 I.t4 rfl I.hS (by have := I.hst; omega)
    obtain ⟨rvm, hm, km, rm, mkm, fwm, mvm, rfl, rfl, qm0, qm1, qm2⟩ := m_change 69 (Zm zm n K pi_ len tr M R ik) zl fm fl tx e1 e2 K p0 p1 t (fm 10) (fm 11) (fm 12) len pi_ tr (fm 5) (fm 16) (fm 25) (zm 40) (f 4) he1 he2 I.hK I.opK I.hmt I.h0 I.h1 I.q1 I.htr I.hw I.hva I.hmv.1 I.hmk (by have := I.hmv.2; omega)
    have hr : rm = rx := by
      rcases qx2 with a | a <;> rcases qm2 with b | b
      · omega
      · exfalso; omega
      · exfalso; omega
      · obtain ⟨_, _, _, _, _, c, c1, c2⟩ := a
        obtain ⟨_, _, _, _, _, d, d1, d2⟩ := b
        have := chR_uq c1 d1
        omega
    rw [hr] at km
    exact ⟨iz (rx), _, _, 0, 0, 0, 0, kx, km, by omega, by omega, (u2 (u2 (u2 (u2 (u2 (u2 z 46 10 edx) 46 11 whx) 46 12 tl_x) 46 3 otx) 46 5 qdx) 46 8 stx), (uf (uf (uf (uf (uf (uf (uf (uf f 48 R0x) 49 R1x) 51 K0x) 52 K1x) 53 qx) 54 mox) 55 smx) 56 enx), C, T, rc, tl, (u1 (u1 zm 0 0) 40 mvm), zl, (uf (uf fm 16 mkm) 25 fwm), fl, tx, n, K, pi_, len, tr, M, R, ik, p0, p1, t, bs, Rts, rfl, rfl, ⟨I.hT, I.hMo, I.hg6, I.hK5, I.hc7, I.hK, I.hpi, I.hlen, I.htr, I.hw, I.hva, I.hop, I.hM, I.hMK, I.hCA, I.hCB, I.hcm, I.hk0, I.hk1, I.hp1, I.hp0, I.hmt, I.hsv, I.hs0, (bd_s I.hst qx1.2 (by decide)), qx0, I.hTs, I.hgv, ⟨Int.le_trans I.hmv.1 qm0.1, bd_s I.hmv.2 qm0.2 (by decide)⟩, qm1, I.hlt, I.htn, I.hb55, I.hb56, I.hb57, I.hR, I.hr0, I.hr1, I.hr2, I.hr3, I.hRU, I.hik, I.him⟩⟩
set_option maxRecDepth 100000 in
set_option maxHeartbeats 4000000 in
theorem ag_amounts (N : Nat) (hN : N < 64) : ln_AgI (Inv N) (Inv (N + 1)) m_X11_amounts m_X12_amounts [] := by
  intro hx hm hI
  obtain ⟨z, f, C, T, rc, tl, zm, zl, fm, fl, tx, n, K, pi_, len, tr, M, R, ik, p0, p1, t, bs, Rts, rfl, rfl, I⟩ := hI
  rcases (show K = 0 ∨ 0 < K by have := I.hK; omega) with hk0 | hk1
  · obtain ⟨rvx, hx, kx, rfl, rfl⟩ := x_amounts0 99 (Zx z n K pi_ len tr M R (tn p0 p1 t) ik) f C T rc tl K hk0
    obtain ⟨rvm, hm, km, rm, mkm, fwm, mvm, rfl, rfl, qm0, qm1, qm2⟩ := m_amounts 69 (Zm zm n K pi_ len tr M R ik) zl fm fl tx K p0 p1 t (fm 10) (fm 11) (fm 12) len pi_ tr (fm 5) (fm 16) (fm 25) (zm 40) (f 4) I.hK I.opK I.hmt I.h0 I.h1 I.q1 I.htr I.hw I.hva I.hmv.1 I.hmk (by have := I.hmv.2; omega)
    have hr : rm = (-1) := by
      rcases qm2 with b | b
      · omega
      · exfalso; omega
    rw [hr] at km
    exact ⟨iz ((-1)), _, _, 0, 0, 0, 0, kx, km, by omega, by omega, z, f, C, T, rc, tl, (u1 (u1 zm 0 0) 40 mvm), zl, (uf (uf fm 16 mkm) 25 fwm), fl, tx, n, K, pi_, len, tr, M, R, ik, p0, p1, t, bs, Rts, rfl, rfl, ⟨I.hT, I.hMo, I.hg6, I.hK5, I.hc7, I.hK, I.hpi, I.hlen, I.htr, I.hw, I.hva, I.hop, I.hM, I.hMK, I.hCA, I.hCB, I.hcm, I.hk0, I.hk1, I.hp1, I.hp0, I.hmt, I.hsv, I.hs0, (bd_n I.hst), I.hS, I.hTs, I.hgv, ⟨Int.le_trans I.hmv.1 qm0.1, bd_s I.hmv.2 qm0.2 (by decide)⟩, qm1, I.hlt, I.htn, I.hb55, I.hb56, I.hb57, I.hR, I.hr0, I.hr1, I.hr2, I.hr3, I.hRU, I.hik, I.him⟩⟩
  · obtain ⟨rvx, hx, kx, rx, otx, whx, tl_x, qdx, edx, stx, R0x, R1x, K0x, K1x, qx, mox, smx, enx, rfl, rfl, qx0, qx1, qx2⟩ := x_amounts 97 (Zx z n K pi_ len tr M R (tn p0 p1 t) ik) f C T rc tl (tn p0 p1 t) K (f 4) tr len pi_ p0 p1 t (z 46 3) (z 46 11) (z 46 12) (z 46 5) (z 46 10) (z 46 8) (f 48) (f 49) (f 51) (f 52) (f 53) (f 54) (f 55) (f 56) I.hK I.hw I.htr ⟨(I.hop hk1).1, I.hlen.2⟩ I.hpi I.b0 I.b1 I.t0 I.t4 rfl I.hS (by have := I.hst; omega)
    obtain ⟨rvm, hm, km, rm, mkm, fwm, mvm, rfl, rfl, qm0, qm1, qm2⟩ := m_amounts 69 (Zm zm n K pi_ len tr M R ik) zl fm fl tx K p0 p1 t (fm 10) (fm 11) (fm 12) len pi_ tr (fm 5) (fm 16) (fm 25) (zm 40) (f 4) I.hK I.opK I.hmt I.h0 I.h1 I.q1 I.htr I.hw I.hva I.hmv.1 I.hmk (by have := I.hmv.2; omega)
    have hr : rm = rx := by
      rcases qx2 with a | a <;> rcases qm2 with b | b
      · omega
      · exfalso; omega
      · exfalso; omega
      · rw [a.2, b.2]
    rw [hr] at km
    exact ⟨iz (rx), _, _, 0, 0, 0, 0, kx, km, by omega, by omega, (u2 (u2 (u2 (u2 (u2 (u2 z 46 10 edx) 46 11 whx) 46 12 tl_x) 46 3 otx) 46 5 qdx) 46 8 stx), (uf (uf (uf (uf (uf (uf (uf (uf f 48 R0x) 49 R1x) 51 K0x) 52 K1x) 53 qx) 54 mox) 55 smx) 56 enx), C, T, rc, tl, (u1 (u1 zm 0 0) 40 mvm), zl, (uf (uf fm 16 mkm) 25 fwm), fl, tx, n, K, pi_, len, tr, M, R, ik, p0, p1, t, bs, Rts, rfl, rfl, ⟨I.hT, I.hMo, I.hg6, I.hK5, I.hc7, I.hK, I.hpi, I.hlen, I.htr, I.hw, I.hva, I.hop, I.hM, I.hMK, I.hCA, I.hCB, I.hcm, I.hk0, I.hk1, I.hp1, I.hp0, I.hmt, I.hsv, I.hs0, (bd_s I.hst qx1.2 (by decide)), qx0, I.hTs, I.hgv, ⟨Int.le_trans I.hmv.1 qm0.1, bd_s I.hmv.2 qm0.2 (by decide)⟩, qm1, I.hlt, I.htn, I.hb55, I.hb56, I.hb57, I.hR, I.hr0, I.hr1, I.hr2, I.hr3, I.hRU, I.hik, I.him⟩⟩
set_option maxRecDepth 100000 in
set_option maxHeartbeats 4000000 in
theorem ag_back (N : Nat) (hN : N < 64) : ln_AgI (Inv N) (Inv (N + 1)) m_X11_back m_X12_back [] := by
  intro hx hm hI
  obtain ⟨z, f, C, T, rc, tl, zm, zl, fm, fl, tx, n, K, pi_, len, tr, M, R, ik, p0, p1, t, bs, Rts, rfl, rfl, I⟩ := hI
  rcases I.hik with q | q
  · obtain ⟨rvx, hx, kx, rx, sdx, svx, rfl, rfl, qx0⟩ := x_back 98 (Zx z n K pi_ len tr M R (tn p0 p1 t) ik) f C T rc tl (tn p0 p1 t) K pi_ len tr p0 p1 t ik (z 0 12) (f 44) (f 45) I.hK I.hpi I.hlen I.htr I.hik (fun q => absurd q (by omega)) (fun q => absurd q (by omega)) (fun q => absurd q (by omega)) (fun q => absurd q (by omega))
    obtain ⟨rvm, hm, km, rm, ppm, lim, tym, svm, rfl, rfl, qm0⟩ := m_back 98 (Zm zm n K pi_ len tr M R ik) zl fm fl tx K p0 p1 t (fm 10) (fm 11) (fm 12) pi_ len tr M ik (zl 34) (fm 13) (fm 14) I.hK I.hik (fun q => absurd q (by omega)) (fun q => absurd q (by omega)) (fun q => absurd q (by omega)) (fun q => absurd q (by omega))
    obtain ⟨a0, a1, a2, a3⟩ := Or.resolve_right qx0 (fun w => absurd w.1 (by omega))
    obtain ⟨b0, b1, b2, b3, b4, b5⟩ := Or.resolve_right qm0 (fun w => absurd w.1 (by omega))
    subst a2
    have hr : rm = rx := by
      omega
    rw [hr] at km
    exact ⟨iz (rx), _, _, 0, 0, 0, 0, kx, km, by omega, by omega, z, (uf f 44 svx), C, T, rc, tl, (u1 zm 0 0), zl, (uf (uf (uf (uf fm 10 ppm) 11 lim) 12 tym) 13 svm), fl, tx, n, K, pi_, len, tr, M, R, ik, p0, p1, t, bs, Rts, rfl, rfl, ⟨I.hT, I.hMo, I.hg6, I.hK5, I.hc7, I.hK, I.hpi, I.hlen, I.htr, I.hw, I.hva, I.hop, I.hM, I.hMK, I.hCA, I.hCB, I.hcm, I.hk0, I.hk1, I.hp1, I.hp0, (by show mtI K ppm lim tym p0 p1 t; rw [b2, b3, b4]; exact I.hmt), (by show ∀ i : Int, 0 ≤ i → i < M → svm i = svx i; rw [a3, b5]; exact I.hsv), (by show ∀ i : Int, M ≤ i → i < 4 → svx i = 0; rw [a3]; exact I.hs0), (bd_n I.hst), I.hS, I.hTs, I.hgv, ⟨I.hmv.1, bd_n I.hmv.2⟩, I.hmk, I.hlt, I.htn, I.hb55, I.hb56, I.hb57, I.hR, I.hr0, I.hr1, I.hr2, I.hr3, I.hRU, I.hik, I.him⟩⟩
  · obtain ⟨⟨i0, i1, i2, c0, c1, c2, c3, c4, c5, c6, c7⟩, d0, d1⟩ := I.him q
    obtain ⟨rvx, hx, kx, rx, sdx, svx, rfl, rfl, qx0⟩ := x_back 98 (Zx z n K pi_ len tr M R (tn p0 p1 t) ik) f C T rc tl (tn p0 p1 t) K pi_ len tr i0 i1 i2 ik (z 0 12) (f 44) (f 45) I.hK I.hpi I.hlen I.htr I.hik (fun _ => ⟨(okP_b c2).1, (okP_b c2).2.1⟩) (fun _ => ⟨(okP_b c3).1, (okP_b c3).2.1⟩) (fun _ => ⟨c4, Int.le_trans c5 I.hK.2⟩) (fun _ => c0)
    obtain ⟨rvm, hm, km, rm, ppm, lim, tym, svm, rfl, rfl, qm0⟩ := m_back 98 (Zm zm n K pi_ len tr M R ik) zl fm fl tx K i0 i1 i2 (fm 10) (fm 11) (fm 12) pi_ len tr M ik (zl 34) (fm 13) (fm 14) I.hK I.hik (fun _ => c2) (fun _ => c3) (fun _ => ⟨c4, c5⟩) (fun _ => c1)
    obtain ⟨a0, a1, a2, a3, a4, a5, a6⟩ := Or.resolve_left qx0 (fun w => absurd w.1 (by omega))
    obtain ⟨b0, b1, b2, b3, b4, b5, b6⟩ := Or.resolve_left qm0 (fun w => absurd w.1 (by omega))
    rw [c0] at a2
    subst a2
    have hsx : ∀ j : Int, 0 ≤ j → j < 4 → svx j = f 45 j := by intro j j0 j1; rcases (show j = 0 ∨ j = 1 ∨ j = 2 ∨ j = 3 by omega) with q | q | q | q <;> subst q <;> assumption
    have hsm : ∀ j : Int, 0 ≤ j → j < 4 → svm j = fm 14 j := by intro j j0 j1; rcases (show j = 0 ∨ j = 1 ∨ j = 2 ∨ j = 3 by omega) with q | q | q | q <;> subst q <;> assumption
    have hM4 := I.hM
    have hr : rm = rx := by
      rw [a1, b1]
    rw [hr] at km
    exact ⟨iz (rx), _, _, 0, 0, 0, 0, kx, km, by omega, by omega, z, (uf f 44 svx), C, T, rc, tl, (u1 zm 0 0), zl, (uf (uf (uf (uf fm 10 ppm) 11 lim) 12 tym) 13 svm), fl, tx, n, K, pi_, len, tr, M, R, ik, i0, i1, i2, bs, Rts, rfl, rfl, ⟨I.hT, I.hMo, I.hg6, I.hK5, I.hc7, I.hK, I.hpi, I.hlen, I.htr, I.hw, I.hva, I.hop, I.hM, I.hMK, I.hCA, I.hCB, I.hcm, c2, c3, c6, c7, b2, (fun i j0 j1 => ((hsm i j0 (by omega)).trans (d0 i j0 (by omega))).trans (hsx i j0 (by omega)).symm), (fun i j0 j1 => (hsx i (by omega) j1).trans (d1 i j0 j1)), (bd_n I.hst), I.hS, I.hTs, I.hgv, ⟨I.hmv.1, bd_n I.hmv.2⟩, I.hmk, I.hlt, I.htn, I.hb55, I.hb56, I.hb57, I.hR, I.hr0, I.hr1, I.hr2, I.hr3, I.hRU, I.hik, I.him⟩⟩
set_option maxRecDepth 100000 in
set_option maxHeartbeats 4000000 in
theorem ag_end (N : Nat) (hN : N < 64) : ∀ y1 : Int32, ln_AgI (Inv N) (Inv (N + 1)) m_X11_end m_X12_end [.int (y1)] := by
  intro y1 hx hm hI
  obtain ⟨e1, he1, rfl⟩ := iz_ex y1
  obtain ⟨z, f, C, T, rc, tl, zm, zl, fm, fl, tx, n, K, pi_, len, tr, M, R, ik, p0, p1, t, bs, Rts, rfl, rfl, I⟩ := hI
  obtain ⟨rvx, hx, kx, rx, nx, rfl, rfl, qx0⟩ := x_end 100 (Zx z n K pi_ len tr M R (tn p0 p1 t) ik) f C T rc tl e1 n he1 ⟨I.hT.1, I.hT.2.1⟩
  obtain ⟨rvm, hm, km, rm, nm, rfl, rfl, qm0⟩ := m_end 100 (Zm zm n K pi_ len tr M R ik) zl fm fl tx e1 n he1 ⟨I.hT.1, I.hT.2.1⟩
  have hnn : nx = nm ∧ 0 ≤ nm ∧ nm ≤ n := by have := I.hT.1; omega
  obtain ⟨hn0, hn1, hn2⟩ := hnn
  have hr0 : rm = rx := by omega
  subst hn0
  have hr : rm = rx := by
    omega
  rw [hr] at km
  exact ⟨iz (rx), _, _, 0, 0, 0, 0, kx, km, by omega, by omega, z, f, C, T, rc, tl, (u1 zm 0 0), zl, fm, fl, tx, nx, K, pi_, len, tr, M, R, ik, p0, p1, t, bs, Rts, rfl, rfl, ⟨⟨hn1, Int.le_trans hn2 I.hT.2.1, fun i i0 i1 => I.hT.2.2 i i0 (by omega)⟩, ⟨I.hMo.1, by have := I.hT.2.1; omega, fun i i0 i1 => I.hMo.2.2 i i0 (by omega)⟩, I.hg6, I.hK5, I.hc7, I.hK, I.hpi, I.hlen, I.htr, I.hw, I.hva, I.hop, I.hM, I.hMK, I.hCA, I.hCB, I.hcm, I.hk0, I.hk1, I.hp1, I.hp0, I.hmt, I.hsv, I.hs0, (bd_n I.hst), I.hS, I.hTs, I.hgv, ⟨I.hmv.1, bd_n I.hmv.2⟩, I.hmk, I.hlt, I.htn, I.hb55, I.hb56, I.hb57, I.hR, I.hr0, I.hr1, I.hr2, I.hr3, I.hRU, I.hik, I.him⟩⟩
set_option maxRecDepth 100000 in
set_option maxHeartbeats 4000000 in
theorem ag_feed (N : Nat) (hN : N < 64) : ∀ y1 y2 y3 y4 y5 : Int32, ln_AgI (Inv N) (Inv (N + 1)) m_X11_feed m_X12_feed [.int (y1), .int (y2), .int (y3), .int (y4), .int (y5)] := by
  intro y1 y2 y3 y4 y5 hx hm hI
  obtain ⟨e1, he1, rfl⟩ := iz_ex y1
  obtain ⟨e2, he2, rfl⟩ := iz_ex y2
  obtain ⟨e3, he3, rfl⟩ := iz_ex y3
  obtain ⟨e4, he4, rfl⟩ := iz_ex y4
  obtain ⟨e5, he5, rfl⟩ := iz_ex y5
  obtain ⟨z, f, C, T, rc, tl, zm, zl, fm, fl, tx, n, K, pi_, len, tr, M, R, ik, p0, p1, t, bs, Rts, rfl, rfl, I⟩ := hI
  obtain ⟨rvx, hx, kx, rx, nx, bx, rfl, rfl, qx0, qx1⟩ := x_feed 99 (Zx z n K pi_ len tr M R (tn p0 p1 t) ik) f C T rc tl e1 e2 e3 e4 e5 n (f 2) ⟨I.hT.1, I.hT.2.1⟩
  obtain ⟨rvm, hm, km, rm, nm, tbm, rfl, rfl, qm0⟩ := m_feed 99 (Zm zm n K pi_ len tr M R ik) zl fm fl tx e1 e2 e3 e4 e5 n (fm 1) ⟨I.hT.1, I.hT.2.1⟩ he1 he2 he3 he4 he5
  have hk : rm = rx ∧ nx = nm ∧ tOK nm bx ∧ mOK nm 0 160 tbm bx := by
    rcases qx0 with ⟨a0, a1, a2⟩ | ⟨a0, a1, a2⟩ <;> rcases qm0 with ⟨b0, b1, b2, b3⟩ | ⟨b0, b1, b2, b3⟩
    · subst b3; rw [b2]; exact ⟨by omega, by omega, apR_Tn I.hT qx1, apR_Mn I.hMo qx1⟩
    · exfalso; omega
    · exfalso; omega
    · rw [b2]; exact ⟨by omega, by omega, apR_T I.hT qx1 fd5_in b0, apR_M I.hMo qx1 b3 b0⟩
  obtain ⟨hr0, hn0, hT1, hM1⟩ := hk
  subst hn0
  have hr : rm = rx := by
    exact hr0
  rw [hr] at km
  exact ⟨iz (rx), _, _, 0, 0, 0, 0, kx, km, by omega, by omega, z, (uf f 2 bx), C, T, rc, tl, (u1 zm 0 0), zl, (uf fm 1 tbm), fl, tx, nx, K, pi_, len, tr, M, R, ik, p0, p1, t, bs, Rts, rfl, rfl, ⟨hT1, hM1, I.hg6, I.hK5, I.hc7, I.hK, I.hpi, I.hlen, I.htr, I.hw, I.hva, I.hop, I.hM, I.hMK, I.hCA, I.hCB, I.hcm, I.hk0, I.hk1, I.hp1, I.hp0, I.hmt, I.hsv, I.hs0, (bd_n I.hst), I.hS, I.hTs, I.hgv, ⟨I.hmv.1, bd_n I.hmv.2⟩, I.hmk, I.hlt, I.htn, I.hb55, I.hb56, I.hb57, I.hR, I.hr0, I.hr1, I.hr2, I.hr3, I.hRU, I.hik, I.him⟩⟩

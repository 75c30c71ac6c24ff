/-! class and model agree: fault (printed by wip/whole/genag5.py) -/
def agG (N : Nat) (mx mm : AmM) (as : List Value) (hx hm : AmH) : Prop := ∃ (z : Int32) (hx' hm' : AmH) (kx jx km jm : Nat), Rn 100 mx 0 (am_ent (.ref 0 :: as) mx.2.2.2.1) [] hx (some (.int z), hx', kx, jx) ∧ Rn 100 mm 0 (am_ent (.ref 0 :: as) mm.2.2.2.1) [] hm (some (.int z), hm', km, jm) ∧ kx + km ≤ 8 ∧ jx + jm ≤ 2000 ∧ Inv (N + 1) hx' hm'
set_option maxRecDepth 100000 in
set_option maxHeartbeats 4000000 in
theorem agt_fault0 {N : Nat} {z : Nat → Nat → Int} {f : Nat → Int → Int} {C : Nat → CuR} {T : Nat → TsR} {rc : Nat → Nat} {tl : AmH} {zm : Nat → Int} {zl : Nat → Int} {fm fl : Nat → Int → Int} {tx : Nat} {n K pi_ len tr M R ik p0 p1 t : Int} {bs : Int → Int → Int} {Rts : Int → RuT} (hN : N < 64) (I : IV N z f C T rc tl zm zl fm n K pi_ len tr M R ik p0 p1 t bs Rts) : agG N m_X11_fault m_X12_fault [.int (iz 0)] (cxW (Zx z n K pi_ len tr M R (tn p0 p1 t) ik) f C T rc tl) (cmH (Zm zm n K pi_ len tr M R ik) zl fm fl tx) := by
  obtain ⟨rvx, hx, kx, rx, atx, K1x, t0x, t1x, t2x, g1x, rfl, rfl, qx0, qx1, qx2, qx3, qx4, qx5⟩ := x_fault0 94 (Zx z n K pi_ len tr M R (tn p0 p1 t) ik) f C T rc tl n (f 2) (z 1 2) (z 5 1) (z 5 2) (z 5 3) (z 5 4) (f 6) I.hT I.hg6 I.hK5
  obtain ⟨rvm, hm, km, am, fam, Km, gmm, gwm, rfl, rfl, qm0, qm1, qm2, qm3⟩ := m_fault0 97 (Zm zm n K pi_ len tr M R ik) zl fm fl tx n (fm 1) (f 2) I.hT I.hMo
  have hr : fam = rx := qm0.trans qx0.symm
  rw [← hr] at kx
  exact ⟨iz (fam), _, _, 0, 0, 0, 0, kx, km, by omega, by omega, (u2 (u2 (u2 (u2 (u2 z 1 2 atx) 5 1 K1x) 5 2 t0x) 5 3 t1x) 5 4 t2x), (uf f 6 g1x), C, T, rc, tl, (u1 (u1 (u1 (u1 (u1 (u1 zm 0 0) 10 am) 11 fam) 25 Km) 8 0) 9 n), zl, (uf (uf fm 6 gmm) 7 gwm), fl, 1, n, K, pi_, len, tr, M, R, ik, p0, p1, t, bs, Rts, rfl, rfl, ⟨I.hT, I.hMo, qx3, qx2, I.hc7, I.hK, I.hpi, I.hlen, I.htr, I.hw, I.hva, I.hop, I.hM, I.hMK, I.hCA, I.hCB, I.hcm, I.hk0, I.hk1, I.hp1, I.hp0, I.hmt, I.hsv, I.hs0, (bd_n I.hst), I.hS, I.hTs, I.hgv, ⟨I.hmv.1, bd_n I.hmv.2⟩, I.hmk, I.hlt, I.htn, I.hb55, I.hb56, I.hb57, I.hR, I.hr0, I.hr1, I.hr2, I.hr3, I.hRU, I.hik, I.him⟩⟩
set_option maxRecDepth 100000 in
set_option maxHeartbeats 4000000 in
theorem agt_fault1 {N : Nat} {z : Nat → Nat → Int} {f : Nat → Int → Int} {C : Nat → CuR} {T : Nat → TsR} {rc : Nat → Nat} {tl : AmH} {zm : Nat → Int} {zl : Nat → Int} {fm fl : Nat → Int → Int} {tx : Nat} {n K pi_ len tr M R ik p0 p1 t : Int} {bs : Int → Int → Int} {Rts : Int → RuT} (hN : N < 64) (I : IV N z f C T rc tl zm zl fm n K pi_ len tr M R ik p0 p1 t bs Rts) : agG N m_X11_fault m_X12_fault [.int (iz 1)] (cxW (Zx z n K pi_ len tr M R (tn p0 p1 t) ik) f C T rc tl) (cmH (Zm zm n K pi_ len tr M R ik) zl fm fl tx) := by
  obtain ⟨rvx, hx, kx, rx, atx, prx, cox, cgx, rfl, rfl, qx0, qx1, qx2, qx3, qx4⟩ := x_fault1 96 (Zx z n K pi_ len tr M R (tn p0 p1 t) ik) f C T rc tl n (f 2) (z 1 2) K (z 7 0) (z 7 2) (f 8) I.hT I.hK I.hc7
  obtain ⟨rvm, hm, km, am, fam, pum, prrm, rfl, rfl, qm0, qm1, qm2, qm3, qm4, qm5⟩ := m_fault1 97 (Zm zm n K pi_ len tr M R ik) zl fm fl tx n (fm 1) (f 2) K (fm 9) (fm 8) I.hT I.hMo I.hK
  have hr : fam = rx := qm0.trans qx0.symm
  rw [← hr] at kx
  exact ⟨iz (fam), _, _, 0, 0, 0, 0, kx, km, by omega, by omega, (u2 (u2 (u2 z 1 2 atx) 7 0 prx) 7 2 cox), (uf f 8 cgx), C, T, rc, tl, (u1 (u1 (u1 (u1 (u1 zm 0 0) 10 am) 11 fam) 8 0) 9 n), zl, (uf (uf fm 8 prrm) 9 pum), fl, 1, n, K, pi_, len, tr, M, R, ik, p0, p1, t, bs, Rts, rfl, rfl, ⟨I.hT, I.hMo, I.hg6, I.hK5, qx2, I.hK, I.hpi, I.hlen, I.htr, I.hw, I.hva, I.hop, I.hM, I.hMK, (cuA_cg I.hCA (fun c c0 c1 => qm3 c c0 (by have := I.hM; omega)) (fun c k c0 c1 k0 k1 => qm2 (4 * c + k) (by omega) (by have := I.hM; have := I.hK; omega))), (cuB_cg I.hCB (fun c c0 c1 => qm3 c c0 (by have := I.hM; omega)) (fun c k c0 c1 k0 k1 => qm2 (4 * c + k) (by omega) (by have := I.hM; have := I.hK; omega))), (cuM_cg I.hK.1 I.hcm (fun c c0 c1 => qm3 c c0 (by have := I.hM; omega)) (fun c k c0 c1 k0 k1 => qm2 (4 * c + k) (by omega) (by have := I.hM; have := I.hK; omega))), I.hk0, I.hk1, I.hp1, I.hp0, I.hmt, I.hsv, I.hs0, (bd_n I.hst), I.hS, I.hTs, I.hgv, ⟨I.hmv.1, bd_n I.hmv.2⟩, I.hmk, I.hlt, I.htn, I.hb55, I.hb56, I.hb57, I.hR, I.hr0, I.hr1, I.hr2, I.hr3, I.hRU, I.hik, I.him⟩⟩
set_option maxRecDepth 100000 in
set_option maxHeartbeats 4000000 in
theorem agt_fault2 {N : Nat} {z : Nat → Nat → Int} {f : Nat → Int → Int} {C : Nat → CuR} {T : Nat → TsR} {rc : Nat → Nat} {tl : AmH} {zm : Nat → Int} {zl : Nat → Int} {fm fl : Nat → Int → Int} {tx : Nat} {n K pi_ len tr M R ik p0 p1 t : Int} {bs : Int → Int → Int} {Rts : Int → RuT} (hN : N < 64) (I : IV N z f C T rc tl zm zl fm n K pi_ len tr M R ik p0 p1 t bs Rts) : agG N m_X11_fault m_X12_fault [.int (iz 2)] (cxW (Zx z n K pi_ len tr M R (tn p0 p1 t) ik) f C T rc tl) (cmH (Zm zm n K pi_ len tr M R ik) zl fm fl tx) := by
  obtain ⟨Rt, hRt⟩ : ∃ Rt : RuT, Rt = ruleL n (f 2) 161 0 := ⟨_, rfl⟩
  obtain ⟨rvx, hx, kx, rx, atx, szx, cdx, rfl, rfl, qx0, qx1, qx2, qx3, qx4⟩ := x_fault2 65 (Zx z n K pi_ len tr M R (tn p0 p1 t) ik) f C T rc tl n (f 2) (z 1 2) (z 12 1) (f 13) Rt I.hT hRt
  obtain ⟨rvm, hm, km, am, fam, dpm, ansm, worm, rfl, rfl, qm0, qm1⟩ := m_fault2 70 (Zm zm n K pi_ len tr M R ik) zl fm fl tx n (fm 1) (f 2) (fm 4) Rt I.hT I.hMo I.hlt hRt
  have hr : fam = rx := ruF_uq qm0 qx0
  rw [← hr] at kx
  exact ⟨iz (fam), _, _, 0, 0, 0, 0, kx, km, by omega, by omega, (u2 (u2 z 1 2 atx) 12 1 szx), (uf f 13 cdx), C, T, rc, tl, (u1 (u1 (u1 (u1 (u1 (u1 (u1 (u1 (u1 zm 0 0) 10 am) 11 fam) 12 dpm) 13 121) 14 worm) 17 ansm) 8 0) 9 n), zl, fm, fl, 1, n, K, pi_, len, tr, M, R, ik, p0, p1, t, bs, Rts, rfl, rfl, ⟨I.hT, I.hMo, I.hg6, I.hK5, I.hc7, I.hK, I.hpi, I.hlen, I.htr, I.hw, I.hva, I.hop, I.hM, I.hMK, I.hCA, I.hCB, I.hcm, I.hk0, I.hk1, I.hp1, I.hp0, I.hmt, I.hsv, I.hs0, (bd_n I.hst), I.hS, I.hTs, I.hgv, ⟨I.hmv.1, bd_n I.hmv.2⟩, I.hmk, I.hlt, I.htn, I.hb55, I.hb56, I.hb57, I.hR, I.hr0, I.hr1, I.hr2, I.hr3, I.hRU, I.hik, I.him⟩⟩
set_option maxRecDepth 100000 in
set_option maxHeartbeats 4000000 in
theorem agt_faultD {N : Nat} {z : Nat → Nat → Int} {f : Nat → Int → Int} {C : Nat → CuR} {T : Nat → TsR} {rc : Nat → Nat} {tl : AmH} {zm : Nat → Int} {zl : Nat → Int} {fm fl : Nat → Int → Int} {tx : Nat} {n K pi_ len tr M R ik p0 p1 t : Int} {bs : Int → Int → Int} {Rts : Int → RuT} (e1 : Int) (he1 : bI e1) (hN : N < 64) (I : IV N z f C T rc tl zm zl fm n K pi_ len tr M R ik p0 p1 t bs Rts) (q : ¬ (0 ≤ e1 ∧ e1 ≤ 2)) : agG N m_X11_fault m_X12_fault [.int (iz e1)] (cxW (Zx z n K pi_ len tr M R (tn p0 p1 t) ik) f C T rc tl) (cmH (Zm zm n K pi_ len tr M R ik) zl fm fl tx) := by
  obtain ⟨rvx, hx, kx, rfl, rfl⟩ := x_faultD 100 (Zx z n K pi_ len tr M R (tn p0 p1 t) ik) f C T rc tl n (f 2) (z 1 2) e1 he1 q
  obtain ⟨rvm, hm, km, rfl, rfl⟩ := m_faultD 99 (Zm zm n K pi_ len tr M R ik) zl fm fl tx e1 he1 q
  exact ⟨iz ((-2)), _, _, 0, 0, 0, 0, kx, km, by omega, by omega, (u2 z 1 2 0), f, C, T, rc, tl, (u1 zm 0 0), zl, fm, fl, tx, n, K, pi_, len, tr, M, R, ik, p0, p1, t, bs, Rts, rfl, rfl, ⟨I.hT, I.hMo, I.hg6, I.hK5, I.hc7, I.hK, I.hpi, I.hlen, I.htr, I.hw, I.hva, I.hop, I.hM, I.hMK, I.hCA, I.hCB, I.hcm, I.hk0, I.hk1, I.hp1, I.hp0, I.hmt, I.hsv, I.hs0, (bd_n I.hst), I.hS, I.hTs, I.hgv, ⟨I.hmv.1, bd_n I.hmv.2⟩, I.hmk, I.hlt, I.htn, I.hb55, I.hb56, I.hb57, I.hR, I.hr0, I.hr1, I.hr2, I.hr3, I.hRU, I.hik, I.him⟩⟩
set_option maxRecDepth 100000 in
set_option maxHeartbeats 4000000 in
theorem ag_fault (N : Nat) (hN : N < 64) : ∀ y1 : Int32, ln_AgI (Inv N) (Inv (N + 1)) m_X11_fault m_X12_fault [.int (y1)] := by
  intro y1 hx hm hI
  obtain ⟨e1, he1, rfl⟩ := iz_ex y1
  obtain ⟨z, f, C, T, rc, tl, zm, zl, fm, fl, tx, n, K, pi_, len, tr, M, R, ik, p0, p1, t, bs, Rts, rfl, rfl, I⟩ := hI
  rcases (show e1 = 0 ∨ e1 = 1 ∨ e1 = 2 ∨ ¬ (0 ≤ e1 ∧ e1 ≤ 2) by omega) with q | q | q | q
  · subst q
    exact agt_fault0 hN I
  · subst q
    exact agt_fault1 hN I
  · subst q
    exact agt_fault2 hN I
  · exact agt_faultD e1 he1 hN I q

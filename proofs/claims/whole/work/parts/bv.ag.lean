/-! class and model agree: day best mean worst (printed by wip/whole/genag7.py) -/
set_option maxRecDepth 100000 in
set_option maxHeartbeats 4000000 in
theorem ag_day (N : Nat) (hN : N < 64) : ∀ y1 y2 y3 y4 : Int32, ln_AgI (Inv N) (Inv (N + 1)) m_X11_day m_X12_day [.int (y1), .int (y2), .long ((((y3)).toInt64 <<< ((32 : Int32).toInt64 &&& 63)) ||| (((y4)).toInt64 &&& 4294967295))] := by
  intro y1 y2 y3 y4
  generalize ((((y3)).toInt64 <<< ((32 : Int32).toInt64 &&& 63)) ||| (((y4)).toInt64 &&& 4294967295)) = y5
  intro hx hm hI
  obtain ⟨e1, he1, rfl⟩ := iz_ex y1
  obtain ⟨e2, he2, rfl⟩ := iz_ex y2
  obtain ⟨e3, he3, rfl⟩ := jz_ex y5
  obtain ⟨z, f, C, T, rc, tl, zm, zl, fm, fl, tx, n, K, pi_, len, tr, M, R, ik, p0, p1, t, bs, Rts, rfl, rfl, I⟩ := hI
  rcases (show M = 0 ∨ 0 < M by have := I.hM; omega) with hm0 | hm1
  · obtain ⟨rvx, hx, kx, rx, rfl, rfl, qx0⟩ := x_day0 97 (Zx z n K pi_ len tr M R (tn p0 p1 t) ik) f C T rc tl e1 e2 e3 R M he1 he2 hm0 I.hR
    obtain ⟨rvm, hm, km, rm, rfl, rfl, qm0⟩ := m_day0 97 (Zm zm n K pi_ len tr M R ik) zl fm fl tx e1 e2 e3 R M he1 he2 hm0 I.hR
    have hr : rm = rx := by
      rw [qm0, qx0]
    rw [hr] at km
    exact ⟨iz (rx), _, _, 0, 0, 0, 0, kx, km, by omega, by omega, z, f, C, T, rc, tl, (u1 zm 0 0), zl, fm, fl, tx, n, K, pi_, len, tr, M, R, ik, p0, p1, t, bs, Rts, rfl, rfl, ⟨I.hT, I.hMo, I.hg6, I.hK5, I.hc7, I.hK, I.hpi, I.hlen, I.htr, I.hw, I.hva, I.hop, I.hM, I.hMK, I.hCA, I.hCB, I.hcm, I.hk0, I.hk1, I.hp1, I.hp0, I.hmt, I.hsv, I.hs0, (bd_n I.hst), I.hS, I.hTs, I.hgv, ⟨I.hmv.1, bd_n I.hmv.2⟩, I.hmk, I.hlt, I.htn, I.hb55, I.hb56, I.hb57, I.hR, I.hr0, I.hr1, I.hr2, I.hr3, I.hRU, I.hik, I.him⟩⟩
  · obtain ⟨rvx, hx, kx, rx, gx, ltx, skx, tqx, rfl, rfl, qx0⟩ := x_day 93 (Zx z n K pi_ len tr M R (tn p0 p1 t) ik) f C T rc tl e1 e2 e3 R M (tn p0 p1 t) pi_ len (f 4) (f 92) (f 93) (f 94) (z 91 3) (z 36 1) (z 38 1) (z 40 1) (z 42 1) K (fun i => fun L => fnd L (Rts i).2.2.2) he1 he2 I.hw (by have := (I.opK (I.hMK hm1)).2; omega) (I.opX hm1).1 I.hM (I.opX hm1).2.1 I.cuK I.vt I.hR I.hr0 I.hr1 I.hr2 I.hr3
    obtain ⟨rvm, hm, km, rm, ppm, lim, tym, gwm, gmm, bem, tam, y8m, y9m, y10m, y11m, y12m, y13m, y14m, y17m, ltm, txvm, rfl, rfl, qm0, qm1, qm2⟩ := m_day 65 (Zm zm n K pi_ len tr M R ik) zl fm fl tx e1 e2 e3 p0 p1 t (fm 10) (fm 11) (fm 12) (zm 48) (zm 49) (fm 23) (fm 24) (zm 8) (zm 9) (zm 10) (zm 11) (zm 12) (zm 13) (zm 14) (zm 17) (fm 4) tx K pi_ (fm 5) (f 4) len (fm 2) (fm 3) bs Rts (fun i => fun L => fnd L (Rts i).2.2.2) (fm 8) (fm 9) M (fun c => hOf (C c.toNat)) R he1 he2 I.hw I.hva (I.opX hm1).2.1 (by have := (I.opK (I.hMK hm1)).2; omega) (I.opX hm1).1 I.hM I.cuS I.hR I.rU I.hmt I.okS I.hlt
    have hr : rm = rx := by
      rcases qx0 with a | a <;> rcases qm2 with b | b
      · rw [a.2, b.2]
      · exact absurd ⟨b.1, b.2.1, b.2.2.1⟩ a.1
      · exact absurd ⟨a.1, a.2.1, a.2.2.1⟩ b.1
      · rw [a.2.2.2, b.2.2.2]; rfl
    rw [hr] at km
    exact ⟨iz (rx), _, _, 0, 0, 0, 0, kx, km, by omega, by omega, (u2 z 91 3 tqx), (uf (uf (uf f 92 gx) 93 ltx) 94 skx), C, T, rc, tl, (u1 (u1 (u1 (u1 (u1 (u1 (u1 (u1 (u1 (u1 (u1 zm 0 0) 10 y10m) 11 y11m) 12 y12m) 13 y13m) 14 y14m) 17 y17m) 48 gwm) 49 gmm) 8 y8m) 9 y9m), zl, (uf (uf (uf (uf (uf (uf fm 10 ppm) 11 lim) 12 tym) 23 bem) 24 tam) 4 ltm), fl, txvm, n, K, pi_, len, tr, M, R, ik, p0, p1, t, bs, Rts, rfl, rfl, ⟨I.hT, I.hMo, I.hg6, I.hK5, I.hc7, I.hK, I.hpi, I.hlen, I.htr, I.hw, I.hva, I.hop, I.hM, I.hMK, I.hCA, I.hCB, I.hcm, I.hk0, I.hk1, I.hp1, I.hp0, qm0, I.hsv, I.hs0, (bd_n I.hst), I.hS, I.hTs, I.hgv, ⟨I.hmv.1, bd_n I.hmv.2⟩, I.hmk, qm1, I.htn, I.hb55, I.hb56, I.hb57, I.hR, I.hr0, I.hr1, I.hr2, I.hr3, I.hRU, I.hik, I.him⟩⟩
set_option maxRecDepth 100000 in
set_option maxHeartbeats 4000000 in
theorem ag_best (N : Nat) (hN : N < 64) : ∀ y1 y2 y3 y4 : Int32, ln_AgI (Inv N) (Inv (N + 1)) m_X11_best m_X12_best [.int (y1), .int (y2), .long ((((y3)).toInt64 <<< ((32 : Int32).toInt64 &&& 63)) ||| (((y4)).toInt64 &&& 4294967295))] := by
  intro y1 y2 y3 y4
  generalize ((((y3)).toInt64 <<< ((32 : Int32).toInt64 &&& 63)) ||| (((y4)).toInt64 &&& 4294967295)) = y5
  intro hx hm hI
  obtain ⟨e1, he1, rfl⟩ := iz_ex y1
  obtain ⟨e2, he2, rfl⟩ := iz_ex y2
  obtain ⟨e3, he3, rfl⟩ := jz_ex y5
  obtain ⟨z, f, C, T, rc, tl, zm, zl, fm, fl, tx, n, K, pi_, len, tr, M, R, ik, p0, p1, t, bs, Rts, rfl, rfl, I⟩ := hI
  rcases (show M = 0 ∨ 0 < M by have := I.hM; omega) with hm0 | hm1
  · obtain ⟨rvx, hx, kx, rx, oszx, whox, rfl, rfl, qx0⟩ := x_best0 97 (Zx z n K pi_ len tr M R (tn p0 p1 t) ik) f C T rc tl e1 e2 e3 (z 95 1) (f 96) R M he1 he2 hm0 I.hR
    obtain ⟨rvm, hm, km, rm, odm, rfl, rfl, qm0⟩ := m_best0 97 (Zm zm n K pi_ len tr M R ik) zl fm fl tx e1 e2 e3 (fm 22) R M he1 he2 hm0 I.hR
    have hr : rm = rx := by
      rw [qm0, qx0]
    rw [hr] at km
    exact ⟨iz (rx), _, _, 0, 0, 0, 0, kx, km, by omega, by omega, (u2 z 95 1 oszx), (uf f 96 whox), C, T, rc, tl, (u1 zm 0 0), zl, (uf fm 22 odm), fl, tx, n, K, pi_, len, tr, M, R, ik, p0, p1, t, bs, Rts, rfl, rfl, ⟨I.hT, I.hMo, I.hg6, I.hK5, I.hc7, I.hK, I.hpi, I.hlen, I.htr, I.hw, I.hva, I.hop, I.hM, I.hMK, I.hCA, I.hCB, I.hcm, I.hk0, I.hk1, I.hp1, I.hp0, I.hmt, I.hsv, I.hs0, (bd_n I.hst), I.hS, I.hTs, I.hgv, ⟨I.hmv.1, bd_n I.hmv.2⟩, I.hmk, I.hlt, I.htn, I.hb55, I.hb56, I.hb57, I.hR, I.hr0, I.hr1, I.hr2, I.hr3, I.hRU, I.hik, I.him⟩⟩
  · obtain ⟨rvx, hx, kx, rx, oszx, whox, gx, ltx, skx, tqx, rfl, rfl, qx0⟩ := x_best 93 (Zx z n K pi_ len tr M R (tn p0 p1 t) ik) f C T rc tl e1 e2 e3 (z 95 1) (f 96) R M (tn p0 p1 t) pi_ len (f 4) (f 92) (f 93) (f 94) (z 91 3) (z 36 1) (z 38 1) (z 40 1) (z 42 1) K (fun i => fun L => fnd L (Rts i).2.2.2) he1 he2 I.hw (by have := (I.opK (I.hMK hm1)).2; omega) (I.opX hm1).1 I.hM (I.opX hm1).2.1 I.cuK I.vt I.hR I.hr0 I.hr1 I.hr2 I.hr3
    obtain ⟨rvm, hm, km, rm, odm, ppm, lim, tym, gwm, gmm, bem, tam, y8m, y9m, y10m, y11m, y12m, y13m, y14m, y17m, ltm, txvm, rfl, rfl, qm0, qm1, qm2⟩ := m_best 65 (Zm zm n K pi_ len tr M R ik) zl fm fl tx e1 e2 e3 (fm 22) p0 p1 t (fm 10) (fm 11) (fm 12) (zm 48) (zm 49) (fm 23) (fm 24) (zm 8) (zm 9) (zm 10) (zm 11) (zm 12) (zm 13) (zm 14) (zm 17) (fm 4) tx K pi_ (fm 5) (f 4) len (fm 2) (fm 3) bs Rts (fun i => fun L => fnd L (Rts i).2.2.2) (fm 8) (fm 9) M (fun c => hOf (C c.toNat)) R he1 he2 I.hw I.hva (I.opX hm1).2.1 (by have := (I.opK (I.hMK hm1)).2; omega) (I.opX hm1).1 I.hM I.cuS I.hR I.rU I.hmt I.okS I.hlt
    have hr : rm = rx := by
      rcases qx0 with a | a | a <;> rcases qm2 with b | b | b
      · rw [a.2, b.2]
      · exact absurd (Or.inl ⟨b.1, b.2.1⟩) a.1
      · exact absurd (Or.inr ⟨b.1, b.2.1, b.2.2.1⟩) a.1
      · exact absurd (Or.inl ⟨a.1, a.2.1⟩) b.1
      · rw [a.2.2, b.2.2]; rfl
      · exfalso; have h1 := a.1; have h2 := b.2.1.1; omega
      · exact absurd (Or.inr ⟨a.1, a.2.1, a.2.2.1⟩) b.1
      · exfalso; have h1 := b.1; have h2 := a.2.1.1; omega
      · rw [a.2.2.2, b.2.2.2]; rfl
    rw [hr] at km
    exact ⟨iz (rx), _, _, 0, 0, 0, 0, kx, km, by omega, by omega, (u2 (u2 z 91 3 tqx) 95 1 oszx), (uf (uf (uf (uf f 92 gx) 93 ltx) 94 skx) 96 whox), C, T, rc, tl, (u1 (u1 (u1 (u1 (u1 (u1 (u1 (u1 (u1 (u1 (u1 zm 0 0) 10 y10m) 11 y11m) 12 y12m) 13 y13m) 14 y14m) 17 y17m) 48 gwm) 49 gmm) 8 y8m) 9 y9m), zl, (uf (uf (uf (uf (uf (uf (uf fm 10 ppm) 11 lim) 12 tym) 22 odm) 23 bem) 24 tam) 4 ltm), fl, txvm, n, K, pi_, len, tr, M, R, ik, p0, p1, t, bs, Rts, rfl, rfl, ⟨I.hT, I.hMo, I.hg6, I.hK5, I.hc7, I.hK, I.hpi, I.hlen, I.htr, I.hw, I.hva, I.hop, I.hM, I.hMK, I.hCA, I.hCB, I.hcm, I.hk0, I.hk1, I.hp1, I.hp0, qm0, I.hsv, I.hs0, (bd_n I.hst), I.hS, I.hTs, I.hgv, ⟨I.hmv.1, bd_n I.hmv.2⟩, I.hmk, qm1, I.htn, I.hb55, I.hb56, I.hb57, I.hR, I.hr0, I.hr1, I.hr2, I.hr3, I.hRU, I.hik, I.him⟩⟩
set_option maxRecDepth 100000 in
set_option maxHeartbeats 4000000 in
theorem ag_mean (N : Nat) (hN : N < 64) : ∀ y1 y2 y3 y4 : Int32, ln_AgI (Inv N) (Inv (N + 1)) m_X11_mean m_X12_mean [.int (y1), .int (y2), .int (y3), .int (y4)] := by
  intro y1 y2 y3 y4 hx hm hI
  obtain ⟨e1, he1, rfl⟩ := iz_ex y1
  obtain ⟨e2, he2, rfl⟩ := iz_ex y2
  obtain ⟨e3, he3, rfl⟩ := iz_ex y3
  obtain ⟨e4, he4, rfl⟩ := iz_ex y4
  obtain ⟨z, f, C, T, rc, tl, zm, zl, fm, fl, tx, n, K, pi_, len, tr, M, R, ik, p0, p1, t, bs, Rts, rfl, rfl, I⟩ := hI
  rcases (show M = 0 ∨ 0 < M by have := I.hM; omega) with hm0 | hm1
  · obtain ⟨rvx, hx, kx, rx, rfl, rfl, qx0⟩ := x_mean0 97 (Zx z n K pi_ len tr M R (tn p0 p1 t) ik) f C T rc tl e1 e2 e3 e4 R M he1 he2 he3 he4 hm0 I.hR
    obtain ⟨rvm, hm, km, rm, rfl, rfl, qm0⟩ := m_mean0 97 (Zm zm n K pi_ len tr M R ik) zl fm fl tx e1 e2 e3 e4 R M he1 he2 he3 he4 hm0 I.hR
    have hr : rm = rx := by
      rw [qm0, qx0]
    rw [hr] at km
    exact ⟨iz (rx), _, _, 0, 0, 0, 0, kx, km, by omega, by omega, z, f, C, T, rc, tl, (u1 zm 0 0), zl, fm, fl, tx, n, K, pi_, len, tr, M, R, ik, p0, p1, t, bs, Rts, rfl, rfl, ⟨I.hT, I.hMo, I.hg6, I.hK5, I.hc7, I.hK, I.hpi, I.hlen, I.htr, I.hw, I.hva, I.hop, I.hM, I.hMK, I.hCA, I.hCB, I.hcm, I.hk0, I.hk1, I.hp1, I.hp0, I.hmt, I.hsv, I.hs0, (bd_n I.hst), I.hS, I.hTs, I.hgv, ⟨I.hmv.1, bd_n I.hmv.2⟩, I.hmk, I.hlt, I.htn, I.hb55, I.hb56, I.hb57, I.hR, I.hr0, I.hr1, I.hr2, I.hr3, I.hRU, I.hik, I.him⟩⟩
  · obtain ⟨rvx, hx, kx, rx, gx, ltx, skx, tqx, rfl, rfl, qx0⟩ := x_mean 93 (Zx z n K pi_ len tr M R (tn p0 p1 t) ik) f C T rc tl e1 e2 e3 e4 R M (tn p0 p1 t) pi_ len (f 4) (f 92) (f 93) (f 94) (z 91 3) (z 36 1) (z 38 1) (z 40 1) (z 42 1) K (fun i => fun L => fnd L (Rts i).2.2.2) he1 he2 he3 he4 I.hw (by have := (I.opK (I.hMK hm1)).2; omega) (I.opX hm1).1 I.hM (I.opX hm1).2.1 I.cuK I.vt I.hR I.hr0 I.hr1 I.hr2 I.hr3
    obtain ⟨rvm, hm, km, rm, ppm, lim, tym, gwm, gmm, bem, tam, y8m, y9m, y10m, y11m, y12m, y13m, y14m, y17m, ltm, txvm, rfl, rfl, qm0, qm1, qm2⟩ := m_mean 65 (Zm zm n K pi_ len tr M R ik) zl fm fl tx e1 e2 e3 e4 p0 p1 t (fm 10) (fm 11) (fm 12) (zm 48) (zm 49) (fm 23) (fm 24) (zm 8) (zm 9) (zm 10) (zm 11) (zm 12) (zm 13) (zm 14) (zm 17) (fm 4) tx K pi_ (fm 5) (f 4) len (fm 2) (fm 3) bs Rts (fun i => fun L => fnd L (Rts i).2.2.2) (fm 8) (fm 9) M (fun c => hOf (C c.toNat)) R he1 he2 he3 he4 I.hw I.hva (I.opX hm1).2.1 (by have := (I.opK (I.hMK hm1)).2; omega) (I.opX hm1).1 I.hM I.cuS I.hR I.rU I.hmt I.okS I.hlt
    have hr : rm = rx := by
      rcases qx0 with a | ⟨a0, a | a⟩ <;> rcases qm2 with b | ⟨b0, b | b⟩
      · rw [a.2, b.2]
      · exact absurd b0 a.1
      · exact absurd b0 a.1
      · exact absurd a0 b.1
      · rw [a.2, b.2]; rfl
      · exfalso; have h1 := a.1; have h2 := b.1; omega
      · exact absurd a0 b.1
      · exfalso; have h1 := a.1; have h2 := b.1; omega
      · rw [a.2, b.2]; rfl
    rw [hr] at km
    exact ⟨iz (rx), _, _, 0, 0, 0, 0, kx, km, by omega, by omega, (u2 z 91 3 tqx), (uf (uf (uf f 92 gx) 93 ltx) 94 skx), C, T, rc, tl, (u1 (u1 (u1 (u1 (u1 (u1 (u1 (u1 (u1 (u1 (u1 zm 0 0) 10 y10m) 11 y11m) 12 y12m) 13 y13m) 14 y14m) 17 y17m) 48 gwm) 49 gmm) 8 y8m) 9 y9m), zl, (uf (uf (uf (uf (uf (uf fm 10 ppm) 11 lim) 12 tym) 23 bem) 24 tam) 4 ltm), fl, txvm, n, K, pi_, len, tr, M, R, ik, p0, p1, t, bs, Rts, rfl, rfl, ⟨I.hT, I.hMo, I.hg6, I.hK5, I.hc7, I.hK, I.hpi, I.hlen, I.htr, I.hw, I.hva, I.hop, I.hM, I.hMK, I.hCA, I.hCB, I.hcm, I.hk0, I.hk1, I.hp1, I.hp0, qm0, I.hsv, I.hs0, (bd_n I.hst), I.hS, I.hTs, I.hgv, ⟨I.hmv.1, bd_n I.hmv.2⟩, I.hmk, qm1, I.htn, I.hb55, I.hb56, I.hb57, I.hR, I.hr0, I.hr1, I.hr2, I.hr3, I.hRU, I.hik, I.him⟩⟩
set_option maxRecDepth 100000 in
set_option maxHeartbeats 4000000 in
theorem ag_worst (N : Nat) (hN : N < 64) : ∀ y1 y2 : Int32, ln_AgI (Inv N) (Inv (N + 1)) m_X11_worst m_X12_worst [.int (y1), .int (y2)] := by
  intro y1 y2 hx hm hI
  obtain ⟨e1, he1, rfl⟩ := iz_ex y1
  obtain ⟨e2, he2, rfl⟩ := iz_ex y2
  obtain ⟨z, f, C, T, rc, tl, zm, zl, fm, fl, tx, n, K, pi_, len, tr, M, R, ik, p0, p1, t, bs, Rts, rfl, rfl, I⟩ := hI
  rcases (show M = 0 ∨ 0 < M by have := I.hM; omega) with hm0 | hm1
  · obtain ⟨rvx, hx, kx, rx, rfl, rfl, qx0⟩ := x_worst0 97 (Zx z n K pi_ len tr M R (tn p0 p1 t) ik) f C T rc tl e1 e2 R M he1 he2 hm0 I.hR
    obtain ⟨rvm, hm, km, rm, rfl, rfl, qm0⟩ := m_worst0 97 (Zm zm n K pi_ len tr M R ik) zl fm fl tx e1 e2 R M he1 he2 hm0 I.hR
    have hr : rm = rx := by
      rw [qm0, qx0]
    rw [hr] at km
    exact ⟨iz (rx), _, _, 0, 0, 0, 0, kx, km, by omega, by omega, z, f, C, T, rc, tl, (u1 zm 0 0), zl, fm, fl, tx, n, K, pi_, len, tr, M, R, ik, p0, p1, t, bs, Rts, rfl, rfl, ⟨I.hT, I.hMo, I.hg6, I.hK5, I.hc7, I.hK, I.hpi, I.hlen, I.htr, I.hw, I.hva, I.hop, I.hM, I.hMK, I.hCA, I.hCB, I.hcm, I.hk0, I.hk1, I.hp1, I.hp0, I.hmt, I.hsv, I.hs0, (bd_n I.hst), I.hS, I.hTs, I.hgv, ⟨I.hmv.1, bd_n I.hmv.2⟩, I.hmk, I.hlt, I.htn, I.hb55, I.hb56, I.hb57, I.hR, I.hr0, I.hr1, I.hr2, I.hr3, I.hRU, I.hik, I.him⟩⟩
  · obtain ⟨m, hmm⟩ : ∃ m : Nat, M = (m : Int) := ⟨M.toNat, by omega⟩
    subst hmm
    obtain ⟨rvx, hx, kx, rx, oszx, whox, gx, ltx, skx, tqx, rfl, rfl, qx0⟩ := x_worst 92 (Zx z n K pi_ len tr (m : Int) R (tn p0 p1 t) ik) f C T rc tl e1 e2 (z 95 1) (f 96) R m (tn p0 p1 t) pi_ len (f 4) (f 92) (f 93) (f 94) (z 91 3) (z 36 1) (z 38 1) (z 40 1) (z 42 1) K (fun i => fun L => fnd L (Rts i).2.2.2) he1 he2 I.hw (by have := (I.opK (I.hMK hm1)).2; omega) (I.opX hm1).1 I.hM (I.opX hm1).2.1 I.cuK I.vt I.hR I.hr0 I.hr1 I.hr2 I.hr3 ⟨by omega, by have := I.hM; omega⟩
    obtain ⟨rvm, hm, km, rm, odm, ppm, lim, tym, gwm, gmm, bem, tam, y8m, y9m, y10m, y11m, y12m, y13m, y14m, y17m, ltm, txvm, rfl, rfl, qm0, qm1, qm2⟩ := m_worst 65 (Zm zm n K pi_ len tr (m : Int) R ik) zl fm fl tx e1 e2 (fm 22) p0 p1 t (fm 10) (fm 11) (fm 12) (zm 48) (zm 49) (fm 23) (fm 24) (zm 8) (zm 9) (zm 10) (zm 11) (zm 12) (zm 13) (zm 14) (zm 17) (fm 4) tx K pi_ (fm 5) (f 4) len (fm 2) (fm 3) bs Rts (fun i => fun L => fnd L (Rts i).2.2.2) (fm 8) (fm 9) (m : Int) (fun c => hOf (C c.toNat)) R he1 he2 I.hw I.hva (I.opX hm1).2.1 (by have := (I.opK (I.hMK hm1)).2; omega) (I.opX hm1).1 I.hM I.cuS I.hR I.rU I.hmt I.okS I.hlt hm1
    have hr : rm = rx := by
      rw [Int.toNat_natCast] at qm2
      rcases qx0 with a | ⟨a0, a | a⟩ <;> rcases qm2 with b | ⟨b0, b | b⟩
      · rw [a.2, b.2]
      · exact absurd ⟨b0, by have := b.1; omega⟩ a.1
      · exact absurd ⟨b0, by have := b.1; omega⟩ a.1
      · exact absurd ⟨a0, by have := a.1; omega⟩ b.1
      · rw [a.2, b.2]; rfl
      · exfalso; have h1 := a.1; have h2 := b.1; omega
      · exact absurd ⟨a0, by have := a.1; omega⟩ b.1
      · exfalso; have h1 := a.1; have h2 := b.1; omega
      · rw [a.2, b.2]; rfl
    rw [hr] at km
    exact ⟨iz (rx), _, _, 0, 0, 0, 0, kx, km, by omega, by omega, (u2 (u2 z 91 3 tqx) 95 1 oszx), (uf (uf (uf (uf f 92 gx) 93 ltx) 94 skx) 96 whox), C, T, rc, tl, (u1 (u1 (u1 (u1 (u1 (u1 (u1 (u1 (u1 (u1 (u1 zm 0 0) 10 y10m) 11 y11m) 12 y12m) 13 y13m) 14 y14m) 17 y17m) 48 gwm) 49 gmm) 8 y8m) 9 y9m), zl, (uf (uf (uf (uf (uf (uf (uf fm 10 ppm) 11 lim) 12 tym) 22 odm) 23 bem) 24 tam) 4 ltm), fl, txvm, n, K, pi_, len, tr, (m : Int), R, ik, p0, p1, t, bs, Rts, rfl, rfl, ⟨I.hT, I.hMo, I.hg6, I.hK5, I.hc7, I.hK, I.hpi, I.hlen, I.htr, I.hw, I.hva, I.hop, I.hM, I.hMK, I.hCA, I.hCB, I.hcm, I.hk0, I.hk1, I.hp1, I.hp0, qm0, I.hsv, I.hs0, (bd_n I.hst), I.hS, I.hTs, I.hgv, ⟨I.hmv.1, bd_n I.hmv.2⟩, I.hmk, qm1, I.htn, I.hb55, I.hb56, I.hb57, I.hR, I.hr0, I.hr1, I.hr2, I.hr3, I.hRU, I.hik, I.him⟩⟩

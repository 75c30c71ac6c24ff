/-! class and model agree, call by call (printed by wip/whole/genag.py) -/
theorem bd_n {x : Int} {N : Nat} (h : x ≤ 30000000 * (N : Int)) : x ≤ 30000000 * ((N + 1 : Nat) : Int) := by omega
theorem bd_s {x y c : Int} {N : Nat} (h : x ≤ 30000000 * (N : Int)) (hy : y ≤ x + c) (hc : c ≤ 30000000) : y ≤ 30000000 * ((N + 1 : Nat) : Int) := by omega
theorem tsA_5 {T : Nat → TsR} {X : TsR} (h : tsA T) (h5 : tsB 5 X.2.1) : tsA (uT T 5 X) := by
  intro j hj
  by_cases e : j = 5
  · subst e; rw [uT_at]; exact h5
  · rw [uT_ne _ _ e]; exact h j hj
theorem coiR_uq {pi p0 p1 k i r r' : Int} (h : coiR pi p0 p1 k i r) (h' : coiR pi p0 p1 k i r') : r = r' := by
  unfold coiR at h h'
  omega
theorem cvR_uq {K p0 p1 t k r r' : Int} (h : cvR K p0 p1 t k r) (h' : cvR K p0 p1 t k r') : r = r' := by
  rcases h with a | a <;> rcases h' with b | b
  · omega
  · exfalso; omega
  · exfalso; omega
  · rw [a.2.2, b.2.2]
set_option maxRecDepth 100000 in
set_option maxHeartbeats 4000000 in
theorem ag_customer (N : Nat) (hN : N < 64) : ∀ y1 y2 : Int32, ln_AgI (Inv N) (Inv (N + 1)) m_X11_customer m_X12_customer [.int (y1), .int (y2)] := by
  intro y1 y2 hx hm hI
  obtain ⟨e1, he1, rfl⟩ := iz_ex y1
  obtain ⟨e2, he2, rfl⟩ := iz_ex y2
  obtain ⟨z, f, C, T, rc, tl, zm, zl, fm, fl, tx, n, K, pi_, len, tr, M, R, ik, p0, p1, t, bs, Rts, rfl, rfl, I⟩ := hI
  obtain ⟨rvx, hx, kx, rx, rfl, rfl, qx0⟩ := x_customer 99 (Zx z n K pi_ len tr M R (tn p0 p1 t) ik) f C T rc tl e1 e2 K M (f 4) (fm 8) (fun c k => fm 9 (4 * c + k)) he1 he2 I.hK I.hCA I.hCB
  obtain ⟨rvm, hm, km, rm, rfl, rfl, qm0⟩ := m_customer 99 (Zm zm n K pi_ len tr M R ik) zl fm fl tx e1 e2 K M (fm 9) (fm 8) he1 he2 I.hK I.hM
  have hr : rm = rx := by
    rcases qx0 with a | a <;> rcases qm0 with b | b
    · omega
    · (exfalso; omega)
    · (exfalso; omega)
    · (dsimp only at a b; omega)
  rw [hr] at km
  exact ⟨iz (rx), _, _, 0, 0, 0, 0, kx, km, by omega, by omega, z, f, C, T, rc, tl, (u1 zm 0 0), zl, fm, fl, tx, n, K, pi_, len, tr, M, R, ik, p0, p1, t, bs, Rts, rfl, rfl, ⟨I.hT, I.hMo, I.hg6, I.hK5, I.hc7, I.hK, I.hpi, I.hlen, I.htr, I.hw, I.hva, I.hop, I.hM, I.hMK, I.hCA, I.hCB, I.hcm, I.hk0, I.hk1, I.hp1, I.hp0, I.hmt, I.hsv, I.hs0, (bd_n I.hst), I.hS, I.hTs, I.hgv, ⟨I.hmv.1, bd_n I.hmv.2⟩, I.hmk, I.hlt, I.htn, I.hb55, I.hb56, I.hb57, I.hR, I.hr0, I.hr1, I.hr2, I.hr3, I.hRU, I.hik, I.him⟩⟩
set_option maxRecDepth 100000 in
set_option maxHeartbeats 4000000 in
theorem ag_coin (N : Nat) (hN : N < 64) : ∀ y1 y2 : Int32, ln_AgI (Inv N) (Inv (N + 1)) m_X11_coin m_X12_coin [.int (y1), .int (y2)] := by
  intro y1 y2 hx hm hI
  obtain ⟨e1, he1, rfl⟩ := iz_ex y1
  obtain ⟨e2, he2, rfl⟩ := iz_ex y2
  obtain ⟨z, f, C, T, rc, tl, zm, zl, fm, fl, tx, n, K, pi_, len, tr, M, R, ik, p0, p1, t, bs, Rts, rfl, rfl, I⟩ := hI
  obtain ⟨rvx, hx, kx, rx, rfl, rfl, qx0⟩ := x_coin 98 (Zx z n K pi_ len tr M R (tn p0 p1 t) ik) f C T rc tl e1 e2 (tn p0 p1 t) K pi_ len tr p0 p1 t he1 he2 I.hK I.hpi I.hlen I.htr I.b0 I.b1 I.t0 I.t4 rfl
  obtain ⟨rvm, hm, km, rm, rfl, rfl, qm0⟩ := m_coin 99 (Zm zm n K pi_ len tr M R ik) zl fm fl tx e1 e2 K p0 p1 t (fm 10) (fm 11) (fm 12) pi_ len tr he1 he2 I.hmt I.hK I.hpi I.hlen I.htr I.h0 I.h1
  have hr : rm = rx := by
    exact coiR_uq qm0 qx0
  rw [hr] at km
  exact ⟨iz (rx), _, _, 0, 0, 0, 0, kx, km, by omega, by omega, z, f, C, T, rc, tl, (u1 zm 0 0), zl, fm, fl, tx, n, K, pi_, len, tr, M, R, ik, p0, p1, t, bs, Rts, rfl, rfl, ⟨I.hT, I.hMo, I.hg6, I.hK5, I.hc7, I.hK, I.hpi, I.hlen, I.htr, I.hw, I.hva, I.hop, I.hM, I.hMK, I.hCA, I.hCB, I.hcm, I.hk0, I.hk1, I.hp1, I.hp0, I.hmt, I.hsv, I.hs0, (bd_n I.hst), I.hS, I.hTs, I.hgv, ⟨I.hmv.1, bd_n I.hmv.2⟩, I.hmk, I.hlt, I.htn, I.hb55, I.hb56, I.hb57, I.hR, I.hr0, I.hr1, I.hr2, I.hr3, I.hRU, I.hik, I.him⟩⟩
set_option maxRecDepth 100000 in
set_option maxHeartbeats 4000000 in
theorem ag_tray (N : Nat) (hN : N < 64) : ∀ y1 : Int32, ln_AgI (Inv N) (Inv (N + 1)) m_X11_tray m_X12_tray [.int (y1)] := by
  intro y1 hx hm hI
  obtain ⟨e1, he1, rfl⟩ := iz_ex y1
  obtain ⟨z, f, C, T, rc, tl, zm, zl, fm, fl, tx, n, K, pi_, len, tr, M, R, ik, p0, p1, t, bs, Rts, rfl, rfl, I⟩ := hI
  obtain ⟨rvx, hx, kx, rx, rfl, rfl, qx0⟩ := x_tray 99 (Zx z n K pi_ len tr M R (tn p0 p1 t) ik) f C T rc tl e1 (tn p0 p1 t) K pi_ len tr p0 p1 t he1 I.hK I.hpi I.hlen I.htr I.b0 I.b1 I.t0 I.t4 rfl
  obtain ⟨rvm, hm, km, rm, rfl, rfl, qm0⟩ := m_tray 99 (Zm zm n K pi_ len tr M R ik) zl fm fl tx e1 K p0 p1 t (fm 10) (fm 11) (fm 12) pi_ len tr he1 I.hmt I.hK I.hpi I.hlen I.htr I.h0 I.h1
  have hr : rm = rx := by
    rcases qx0 with a | a <;> rcases qm0 with b | b <;> (try (exfalso; omega))
    · rw [a.2.2, b.2.2]
    · omega
  rw [hr] at km
  exact ⟨iz (rx), _, _, 0, 0, 0, 0, kx, km, by omega, by omega, z, f, C, T, rc, tl, (u1 zm 0 0), zl, fm, fl, tx, n, K, pi_, len, tr, M, R, ik, p0, p1, t, bs, Rts, rfl, rfl, ⟨I.hT, I.hMo, I.hg6, I.hK5, I.hc7, I.hK, I.hpi, I.hlen, I.htr, I.hw, I.hva, I.hop, I.hM, I.hMK, I.hCA, I.hCB, I.hcm, I.hk0, I.hk1, I.hp1, I.hp0, I.hmt, I.hsv, I.hs0, (bd_n I.hst), I.hS, I.hTs, I.hgv, ⟨I.hmv.1, bd_n I.hmv.2⟩, I.hmk, I.hlt, I.htn, I.hb55, I.hb56, I.hb57, I.hR, I.hr0, I.hr1, I.hr2, I.hr3, I.hRU, I.hik, I.him⟩⟩
set_option maxRecDepth 100000 in
set_option maxHeartbeats 4000000 in
theorem ag_till (N : Nat) (hN : N < 64) : ln_AgL (Inv N) (Inv (N + 1)) m_X11_till m_X12_till [] := by
  intro hx hm hI
  obtain ⟨z, f, C, T, rc, tl, zm, zl, fm, fl, tx, n, K, pi_, len, tr, M, R, ik, p0, p1, t, bs, Rts, rfl, rfl, I⟩ := hI
  obtain ⟨rvx, hx, kx, rx, rfl, rfl, qx0⟩ := x_till 99 (Zx z n K pi_ len tr M R (tn p0 p1 t) ik) f C T rc tl (tn p0 p1 t) K pi_ len tr p0 p1 t I.hK I.hpi I.hlen I.htr I.b0 I.b1 I.t0 I.t4 rfl
  obtain ⟨rvm, hm, km, rm, rfl, rfl, qm0⟩ := m_till 99 (Zm zm n K pi_ len tr M R ik) zl fm fl tx K p0 p1 t (fm 10) (fm 11) (fm 12) pi_ len tr I.hmt I.hK I.hpi I.hlen I.htr I.h0 I.h1
  have hr : rm = rx := by
    rcases qx0 with a | a <;> rcases qm0 with b | b
    · omega
    · (exfalso; omega)
    · (exfalso; omega)
    · omega
  rw [hr] at km
  exact ⟨jz (rx), _, _, 0, 0, 0, 0, kx, km, by omega, by omega, z, f, C, T, rc, tl, (u1 zm 0 0), zl, fm, fl, tx, n, K, pi_, len, tr, M, R, ik, p0, p1, t, bs, Rts, rfl, rfl, ⟨I.hT, I.hMo, I.hg6, I.hK5, I.hc7, I.hK, I.hpi, I.hlen, I.htr, I.hw, I.hva, I.hop, I.hM, I.hMK, I.hCA, I.hCB, I.hcm, I.hk0, I.hk1, I.hp1, I.hp0, I.hmt, I.hsv, I.hs0, (bd_n I.hst), I.hS, I.hTs, I.hgv, ⟨I.hmv.1, bd_n I.hmv.2⟩, I.hmk, I.hlt, I.htn, I.hb55, I.hb56, I.hb57, I.hR, I.hr0, I.hr1, I.hr2, I.hr3, I.hRU, I.hik, I.him⟩⟩
set_option maxRecDepth 100000 in
set_option maxHeartbeats 4000000 in
theorem ag_steps (N : Nat) (hN : N < 64) : ∀ y1 : Int32, ln_AgI (Inv N) (Inv (N + 1)) m_X11_steps m_X12_steps [.int (y1)] := by
  intro y1 hx hm hI
  obtain ⟨e1, he1, rfl⟩ := iz_ex y1
  obtain ⟨z, f, C, T, rc, tl, zm, zl, fm, fl, tx, n, K, pi_, len, tr, M, R, ik, p0, p1, t, bs, Rts, rfl, rfl, I⟩ := hI
  obtain ⟨rvx, hx, kx, rx, whox, linex, rfl, rfl, qx0⟩ := x_steps 98 (Zx z n K pi_ len tr M R (tn p0 p1 t) ik) f C T rc tl e1 (z 95 1) (f 96) (f 97) M he1 I.hM
  obtain ⟨rvm, hm, km, rm, odm, rfl, rfl, qm0⟩ := m_steps 98 (Zm zm n K pi_ len tr M R ik) zl fm fl tx e1 (fm 22) M he1 I.hM
  have hr : rm = rx := by
    exact stR_uq (by have := I.hM; omega) qm0 qx0
  rw [hr] at km
  exact ⟨iz (rx), _, _, 0, 0, 0, 0, kx, km, by omega, by omega, (u2 z 95 1 M), (uf (uf f 96 whox) 97 linex), C, T, rc, tl, (u1 zm 0 0), zl, (uf fm 22 odm), fl, tx, n, K, pi_, len, tr, M, R, ik, p0, p1, t, bs, Rts, rfl, rfl, ⟨I.hT, I.hMo, I.hg6, I.hK5, I.hc7, I.hK, I.hpi, I.hlen, I.htr, I.hw, I.hva, I.hop, I.hM, I.hMK, I.hCA, I.hCB, I.hcm, I.hk0, I.hk1, I.hp1, I.hp0, I.hmt, I.hsv, I.hs0, (bd_n I.hst), I.hS, I.hTs, I.hgv, ⟨I.hmv.1, bd_n I.hmv.2⟩, I.hmk, I.hlt, I.htn, I.hb55, I.hb56, I.hb57, I.hR, I.hr0, I.hr1, I.hr2, I.hr3, I.hRU, I.hik, I.him⟩⟩
set_option maxRecDepth 100000 in
set_option maxHeartbeats 4000000 in
theorem ag_cover (N : Nat) (hN : N < 64) : ∀ y1 : Int32, ln_AgI (Inv N) (Inv (N + 1)) m_X11_cover m_X12_cover [.int (y1)] := by
  intro y1 hx hm hI
  obtain ⟨e1, he1, rfl⟩ := iz_ex y1
  obtain ⟨z, f, C, T, rc, tl, zm, zl, fm, fl, tx, n, K, pi_, len, tr, M, R, ik, p0, p1, t, bs, Rts, rfl, rfl, I⟩ := hI
  obtain ⟨rvx, hx, kx, rx, rfl, rfl, qx0⟩ := x_cover 99 (Zx z n K pi_ len tr M R (tn p0 p1 t) ik) f C T rc tl e1 (tn p0 p1 t) K pi_ len tr p0 p1 t he1 I.hK I.hpi I.hlen I.htr I.b0 I.b1 I.t0 I.t4 rfl
  obtain ⟨rvm, hm, km, rm, rfl, rfl, qm0⟩ := m_cover 99 (Zm zm n K pi_ len tr M R ik) zl fm fl tx e1 K p0 p1 t (fm 10) (fm 11) (fm 12) pi_ len tr he1 I.hmt I.hK I.hpi I.hlen I.htr I.h0 I.h1 I.hp1 I.hp0
  have hr : rm = rx := by
    exact cvR_uq qm0 qx0
  rw [hr] at km
  exact ⟨iz (rx), _, _, 0, 0, 0, 0, kx, km, by omega, by omega, z, f, C, T, rc, tl, (u1 zm 0 0), zl, fm, fl, tx, n, K, pi_, len, tr, M, R, ik, p0, p1, t, bs, Rts, rfl, rfl, ⟨I.hT, I.hMo, I.hg6, I.hK5, I.hc7, I.hK, I.hpi, I.hlen, I.htr, I.hw, I.hva, I.hop, I.hM, I.hMK, I.hCA, I.hCB, I.hcm, I.hk0, I.hk1, I.hp1, I.hp0, I.hmt, I.hsv, I.hs0, (bd_n I.hst), I.hS, I.hTs, I.hgv, ⟨I.hmv.1, bd_n I.hmv.2⟩, I.hmk, I.hlt, I.htn, I.hb55, I.hb56, I.hb57, I.hR, I.hr0, I.hr1, I.hr2, I.hr3, I.hRU, I.hik, I.him⟩⟩
set_option maxRecDepth 100000 in
set_option maxHeartbeats 4000000 in
theorem ag_result (N : Nat) (hN : N < 64) : ∀ y1 y2 : Int32, ln_AgL (Inv N) (Inv (N + 1)) m_X11_result m_X12_result [.int (y1), .int (y2)] := by
  intro y1 y2 hx hm hI
  obtain ⟨e1, he1, rfl⟩ := iz_ex y1
  obtain ⟨e2, he2, rfl⟩ := iz_ex y2
  obtain ⟨z, f, C, T, rc, tl, zm, zl, fm, fl, tx, n, K, pi_, len, tr, M, R, ik, p0, p1, t, bs, Rts, rfl, rfl, I⟩ := hI
  obtain ⟨rvx, hx, kx, rx, otx, whx, tl_x, qdx, edx, stx, R0x, R1x, K0x, K1x, qx, mox, smx, enx, szx, slx, hox, tix, rfl, rfl, qx0, qx1, qx2, qx3⟩ := x_result 91 (Zx z n K pi_ len tr M R (tn p0 p1 t) ik) f C T rc tl e1 e2 (tn p0 p1 t) (f 4) tr len pi_ K M (fm 8) (fun c k => fm 9 (4 * c + k)) (z 46 3) (z 46 11) (z 46 12) (z 46 5) (z 46 10) (z 46 8) (f 48) (f 49) (f 51) (f 52) (f 53) (f 54) (f 55) (f 56) ((T 5).1) ((T 5).2.1) ((T 5).2.2.1) ((T 5).2.2.2) he1 he2 I.hw I.htr I.hpi I.hCA I.opX I.hS (by have := I.hst; omega) (I.hTs 5 (by decide))
  obtain ⟨rvm, hm, km, rm, ppm, lim, tym, gvm, mkm, mvm, rmm, rsm, rfl, rfl, qm0, qm1, qm2, qm3, qm4⟩ := m_result 49 (Zm zm n K pi_ len tr M R ik) zl fm fl tx e1 e2 M K p0 p1 t (fm 10) (fm 11) (fm 12) (fm 17) (zm 39) (fl 15) len pi_ tr (fm 5) (fm 16) (zm 40) (f 4) (fm 9) (fm 8) he1 he2 I.hw I.htr I.hK.2 I.hva I.hcm I.hmt I.opM I.hgv I.hmv.1 (by have := I.hmv.2; omega) I.hmk
  have hr : rm = rx := by
    rcases qx3 with a | a <;> rcases qm4 with b | b
    · omega
    · (exfalso; omega)
    · (exfalso; omega)
    · exact rsR_uq b.2.2.2 a.2.2.2
  rw [hr] at km
  exact ⟨jz (rx), _, _, 0, 0, 0, 0, kx, km, by omega, by omega, (u2 (u2 (u2 (u2 (u2 (u2 z 46 10 edx) 46 11 whx) 46 12 tl_x) 46 3 otx) 46 5 qdx) 46 8 stx), (uf (uf (uf (uf (uf (uf (uf (uf f 48 R0x) 49 R1x) 51 K0x) 52 K1x) 53 qx) 54 mox) 55 smx) 56 enx), C, (uT T 5 (szx, slx, hox, tix)), rc, tl, (u1 (u1 (u1 zm 0 0) 39 rmm) 40 mvm), zl, (uf (uf (uf (uf (uf fm 10 ppm) 11 lim) 12 tym) 16 mkm) 17 gvm), (uf fl 15 rsm), tx, n, K, pi_, len, tr, M, R, ik, p0, p1, t, bs, Rts, rfl, rfl, ⟨I.hT, I.hMo, I.hg6, I.hK5, I.hc7, I.hK, I.hpi, I.hlen, I.htr, I.hw, I.hva, I.hop, I.hM, I.hMK, I.hCA, I.hCB, I.hcm, I.hk0, I.hk1, I.hp1, I.hp0, qm3, I.hsv, I.hs0, (bd_s I.hst qx1.2 (by decide)), qx0, (tsA_5 I.hTs qx2), qm0, ⟨Int.le_trans I.hmv.1 qm1.1, bd_s I.hmv.2 qm1.2 (by decide)⟩, qm2, I.hlt, I.htn, I.hb55, I.hb56, I.hb57, I.hR, I.hr0, I.hr1, I.hr2, I.hr3, I.hRU, I.hik, I.him⟩⟩
set_option maxRecDepth 100000 in
set_option maxHeartbeats 4000000 in
theorem ag_served (N : Nat) (hN : N < 64) : ∀ y1 : Int32, ln_AgI (Inv N) (Inv (N + 1)) m_X11_served m_X12_served [.int (y1)] := by
  intro y1 hx hm hI
  obtain ⟨e1, he1, rfl⟩ := iz_ex y1
  obtain ⟨z, f, C, T, rc, tl, zm, zl, fm, fl, tx, n, K, pi_, len, tr, M, R, ik, p0, p1, t, bs, Rts, rfl, rfl, I⟩ := hI
  obtain ⟨rvx, hx, kx, rx, rfl, rfl, qx0⟩ := x_served 99 (Zx z n K pi_ len tr M R (tn p0 p1 t) ik) f C T rc tl e1 M (f 44) he1 I.hM
  obtain ⟨rvm, hm, km, rm, rfl, rfl, qm0⟩ := m_served 99 (Zm zm n K pi_ len tr M R ik) zl fm fl tx e1 M (fm 13) he1 I.hM
  have hr : rm = rx := by
    rcases qx0 with a | a <;> rcases qm0 with b | b <;> (try (exfalso; omega))
    · rw [a.2.2, b.2.2]; exact I.hsv _ a.1 a.2.1
    · omega
  rw [hr] at km
  exact ⟨iz (rx), _, _, 0, 0, 0, 0, kx, km, by omega, by omega, z, f, C, T, rc, tl, (u1 zm 0 0), zl, fm, fl, tx, n, K, pi_, len, tr, M, R, ik, p0, p1, t, bs, Rts, rfl, rfl, ⟨I.hT, I.hMo, I.hg6, I.hK5, I.hc7, I.hK, I.hpi, I.hlen, I.htr, I.hw, I.hva, I.hop, I.hM, I.hMK, I.hCA, I.hCB, I.hcm, I.hk0, I.hk1, I.hp1, I.hp0, I.hmt, I.hsv, I.hs0, (bd_n I.hst), I.hS, I.hTs, I.hgv, ⟨I.hmv.1, bd_n I.hmv.2⟩, I.hmk, I.hlt, I.htn, I.hb55, I.hb56, I.hb57, I.hR, I.hr0, I.hr1, I.hr2, I.hr3, I.hRU, I.hik, I.him⟩⟩
set_option maxRecDepth 100000 in
set_option maxHeartbeats 4000000 in
theorem ag_count (N : Nat) (hN : N < 64) : ∀ y1 : Int32, ln_AgI (Inv N) (Inv (N + 1)) m_X11_count m_X12_count [.int (y1)] := by
  intro y1 hx hm hI
  obtain ⟨e1, he1, rfl⟩ := iz_ex y1
  obtain ⟨z, f, C, T, rc, tl, zm, zl, fm, fl, tx, n, K, pi_, len, tr, M, R, ik, p0, p1, t, bs, Rts, rfl, rfl, I⟩ := hI
  obtain ⟨rvx, hx, kx, rx, rfl, rfl, qx0⟩ := x_count 98 (Zx z n K pi_ len tr M R (tn p0 p1 t) ik) f C T rc tl e1 (tn p0 p1 t) K pi_ len tr p0 p1 t M R n he1 I.hK I.hpi I.hlen I.htr I.b0 I.b1 I.t0 I.t4 rfl
  obtain ⟨rvm, hm, km, rm, rfl, rfl, qm0⟩ := m_count 98 (Zm zm n K pi_ len tr M R ik) zl fm fl tx e1 K p0 p1 t (fm 10) (fm 11) (fm 12) pi_ len tr M R n he1 I.hmt I.hK I.hpi I.hlen I.htr I.h0 I.h1
  have hr : rm = rx := by
    first | omega | exact cntR_uq qm0 qx0
  rw [hr] at km
  exact ⟨iz (rx), _, _, 0, 0, 0, 0, kx, km, by omega, by omega, z, f, C, T, rc, tl, (u1 zm 0 0), zl, fm, fl, tx, n, K, pi_, len, tr, M, R, ik, p0, p1, t, bs, Rts, rfl, rfl, ⟨I.hT, I.hMo, I.hg6, I.hK5, I.hc7, I.hK, I.hpi, I.hlen, I.htr, I.hw, I.hva, I.hop, I.hM, I.hMK, I.hCA, I.hCB, I.hcm, I.hk0, I.hk1, I.hp1, I.hp0, I.hmt, I.hsv, I.hs0, (bd_n I.hst), I.hS, I.hTs, I.hgv, ⟨I.hmv.1, bd_n I.hmv.2⟩, I.hmk, I.hlt, I.htn, I.hb55, I.hb56, I.hb57, I.hR, I.hr0, I.hr1, I.hr2, I.hr3, I.hRU, I.hik, I.him⟩⟩
set_option maxRecDepth 100000 in
set_option maxHeartbeats 4000000 in
theorem ag_row (N : Nat) (hN : N < 64) : ∀ y1 : Int32, ln_AgI (Inv N) (Inv (N + 1)) m_X11_row m_X12_row [.int (y1)] := by
  intro y1 hx hm hI
  obtain ⟨e1, he1, rfl⟩ := iz_ex y1
  obtain ⟨z, f, C, T, rc, tl, zm, zl, fm, fl, tx, n, K, pi_, len, tr, M, R, ik, p0, p1, t, bs, Rts, rfl, rfl, I⟩ := hI
  obtain ⟨rvx, hx, kx, rx, Tx, whox, otx, whx, tl_x, qdx, edx, stx, R0x, R1x, K0x, K1x, qx, mox, smx, enx, rfl, rfl, qx0, qx1, qx2, qx3⟩ := x_row 90 (Zx z n K pi_ len tr M R (tn p0 p1 t) ik) f C T rc tl e1 (tn p0 p1 t) (z 95 1) (f 96) (f 4) tr len pi_ K M (fm 8) (fun c k => fm 9 (4 * c + k)) (z 46 3) (z 46 11) (z 46 12) (z 46 5) (z 46 10) (z 46 8) (f 48) (f 49) (f 51) (f 52) (f 53) (f 54) (f 55) (f 56) he1 I.hw I.htr I.hpi I.hCA I.opX I.hTs I.hS (by have := I.hst; omega)
  obtain ⟨rvm, hm, km, rm, odm, ppm, lim, tym, gvm, rmm, rsm, mkm, mvm, tmm, ttm, ctm, tmnm, tlm, cum, rfl, rfl, qm0, qm1, qm2, qm3, qm4, qm5, qm6⟩ := m_row 46 (Zm zm n K pi_ len tr M R ik) zl fm fl tx e1 M p0 p1 t K len pi_ tr (fm 5) (f 4) (fm 9) (fm 8) (fm 22) (zm 46) (fl 18) (fm 20) (fm 10) (fm 11) (fm 12) (fm 17) (zm 39) (fl 15) (fm 16) (zm 40) (zm 47) (fl 19) (fm 21) he1 I.hw I.htr I.hK.2 I.hva I.hcm I.hmt I.opM I.hgv I.hmv.1 I.hmk I.htn (by have := I.hmv.2; omega)
  have hr : rm = rx := by
    rcases qx3 with a | a <;> rcases qm6 with b | b
    · omega
    · exact absurd b.1 a.1
    · exact absurd a.1 b.1
    · exact thR_uq b.2 a.2
  rw [hr] at km
  exact ⟨iz (rx), _, _, 0, 0, 0, 0, kx, km, by omega, by omega, (u2 (u2 (u2 (u2 (u2 (u2 (u2 z 46 10 edx) 46 11 whx) 46 12 tl_x) 46 3 otx) 46 5 qdx) 46 8 stx) 95 1 M), (uf (uf (uf (uf (uf (uf (uf (uf (uf f 48 R0x) 49 R1x) 51 K0x) 52 K1x) 53 qx) 54 mox) 55 smx) 56 enx) 96 whox), C, Tx, rc, tl, (u1 (u1 (u1 (u1 (u1 zm 0 0) 39 rmm) 40 mvm) 46 tmnm) 47 tmm), zl, (uf (uf (uf (uf (uf (uf (uf (uf fm 10 ppm) 11 lim) 12 tym) 16 mkm) 17 gvm) 20 cum) 21 ctm) 22 odm), (uf (uf (uf fl 15 rsm) 18 tlm) 19 ttm), tx, n, K, pi_, len, tr, M, R, ik, p0, p1, t, bs, Rts, rfl, rfl, ⟨I.hT, I.hMo, I.hg6, I.hK5, I.hc7, I.hK, I.hpi, I.hlen, I.htr, I.hw, I.hva, I.hop, I.hM, I.hMK, I.hCA, I.hCB, I.hcm, I.hk0, I.hk1, I.hp1, I.hp0, qm0, I.hsv, I.hs0, (bd_s I.hst qx1.2 (by decide)), qx0, qx2, qm1, ⟨Int.le_trans I.hmv.1 qm5.1, bd_s I.hmv.2 qm5.2 (by decide)⟩, qm3, I.hlt, qm4, I.hb55, I.hb56, I.hb57, I.hR, I.hr0, I.hr1, I.hr2, I.hr3, I.hRU, I.hik, I.him⟩⟩
set_option maxRecDepth 100000 in
set_option maxHeartbeats 4000000 in
theorem ag_left (N : Nat) (hN : N < 64) : ∀ y1 y2 : Int32, ln_AgL (Inv N) (Inv (N + 1)) m_X11_left m_X12_left [.int (y1), .int (y2)] := by
  intro y1 y2 hx hm hI
  obtain ⟨e1, he1, rfl⟩ := iz_ex y1
  obtain ⟨e2, he2, rfl⟩ := iz_ex y2
  obtain ⟨z, f, C, T, rc, tl, zm, zl, fm, fl, tx, n, K, pi_, len, tr, M, R, ik, p0, p1, t, bs, Rts, rfl, rfl, I⟩ := hI
  obtain ⟨rvx, hx, kx, rx, Tx, whox, oszx, otx, whx, tl_x, qdx, edx, stx, R0x, R1x, K0x, K1x, qx, mox, smx, enx, rfl, rfl, qx0, qx1, qx2, qx3⟩ := x_left 90 (Zx z n K pi_ len tr M R (tn p0 p1 t) ik) f C T rc tl e1 e2 (tn p0 p1 t) (z 95 1) (f 96) (f 4) tr len pi_ K M (fm 8) (fun c k => fm 9 (4 * c + k)) (z 46 3) (z 46 11) (z 46 12) (z 46 5) (z 46 10) (z 46 8) (f 48) (f 49) (f 51) (f 52) (f 53) (f 54) (f 55) (f 56) he1 he2 I.hw I.htr I.hpi I.hCA I.opX I.hTs I.hS (by have := I.hst; omega)
  obtain ⟨rvm, hm, km, rm, odm, ppm, lim, tym, gvm, rmm, rsm, mkm, mvm, tmm, ttm, ctm, tmnm, tlm, cum, rfl, rfl, qm0, qm1, qm2, qm3, qm4, qm5, qm6⟩ := m_left 46 (Zm zm n K pi_ len tr M R ik) zl fm fl tx e1 e2 M p0 p1 t K len pi_ tr (fm 5) (f 4) (fm 9) (fm 8) (fm 22) (zm 46) (fl 18) (fm 20) (fm 10) (fm 11) (fm 12) (fm 17) (zm 39) (fl 15) (fm 16) (zm 40) (zm 47) (fl 19) (fm 21) he1 he2 I.hw I.htr I.hK.2 I.hva I.hcm I.hmt I.opM I.hgv I.hmv.1 I.hmk I.htn (by have := I.hmv.2; omega)
  have hr : rm = rx := by
    rcases qx3 with a | a <;> rcases qm6 with b | b
    · omega
    · (exfalso; rcases a.1 with q | q; exact q b.1; omega)
    · (exfalso; rcases b.1 with q | q; exact q a.1; omega)
    · exact leR_uq (fun _ _ => thR_uq) b.2.2 a.2.2
  rw [hr] at km
  exact ⟨jz (rx), _, _, 0, 0, 0, 0, kx, km, by omega, by omega, (u2 (u2 (u2 (u2 (u2 (u2 (u2 z 46 10 edx) 46 11 whx) 46 12 tl_x) 46 3 otx) 46 5 qdx) 46 8 stx) 95 1 oszx), (uf (uf (uf (uf (uf (uf (uf (uf (uf f 48 R0x) 49 R1x) 51 K0x) 52 K1x) 53 qx) 54 mox) 55 smx) 56 enx) 96 whox), C, Tx, rc, tl, (u1 (u1 (u1 (u1 (u1 zm 0 0) 39 rmm) 40 mvm) 46 tmnm) 47 tmm), zl, (uf (uf (uf (uf (uf (uf (uf (uf fm 10 ppm) 11 lim) 12 tym) 16 mkm) 17 gvm) 20 cum) 21 ctm) 22 odm), (uf (uf (uf fl 15 rsm) 18 tlm) 19 ttm), tx, n, K, pi_, len, tr, M, R, ik, p0, p1, t, bs, Rts, rfl, rfl, ⟨I.hT, I.hMo, I.hg6, I.hK5, I.hc7, I.hK, I.hpi, I.hlen, I.htr, I.hw, I.hva, I.hop, I.hM, I.hMK, I.hCA, I.hCB, I.hcm, I.hk0, I.hk1, I.hp1, I.hp0, qm0, I.hsv, I.hs0, (bd_s I.hst qx1.2 (by decide)), qx0, qx2, qm1, ⟨Int.le_trans I.hmv.1 qm5.1, bd_s I.hmv.2 qm5.2 (by decide)⟩, qm3, I.hlt, qm4, I.hb55, I.hb56, I.hb57, I.hR, I.hr0, I.hr1, I.hr2, I.hr3, I.hRU, I.hik, I.him⟩⟩
set_option maxRecDepth 100000 in
set_option maxHeartbeats 4000000 in
theorem ag_aside (N : Nat) (hN : N < 64) : ∀ y1 : Int32, ln_AgI (Inv N) (Inv (N + 1)) m_X11_aside m_X12_aside [.int (y1)] := by
  intro y1 hx hm hI
  obtain ⟨e1, he1, rfl⟩ := iz_ex y1
  obtain ⟨z, f, C, T, rc, tl, zm, zl, fm, fl, tx, n, K, pi_, len, tr, M, R, ik, p0, p1, t, bs, Rts, rfl, rfl, I⟩ := hI
  obtain ⟨rvx, hx, kx, rx, Tx, whox, linex, oszx, otx, whx, tl_x, qdx, edx, stx, R0x, R1x, K0x, K1x, qx, mox, smx, enx, rfl, rfl, qx0, qx1, qx2, qx3⟩ := x_aside 89 (Zx z n K pi_ len tr M R (tn p0 p1 t) ik) f C T rc tl e1 (f 97) (tn p0 p1 t) (z 95 1) (f 96) (f 4) tr len pi_ K M (fm 8) (fun c k => fm 9 (4 * c + k)) (z 46 3) (z 46 11) (z 46 12) (z 46 5) (z 46 10) (z 46 8) (f 48) (f 49) (f 51) (f 52) (f 53) (f 54) (f 55) (f 56) he1 I.hw I.htr I.hpi I.hCA I.opX I.hTs I.hS (by have := I.hst; omega)
  obtain ⟨rvm, hm, km, rm, odm, ppm, lim, tym, gvm, rmm, rsm, mkm, mvm, tmm, ttm, ctm, tmnm, tlm, cum, rfl, rfl, qm0, qm1, qm2, qm3, qm4, qm5, qm6⟩ := m_aside 45 (Zm zm n K pi_ len tr M R ik) zl fm fl tx e1 M p0 p1 t K len pi_ tr (fm 5) (f 4) (fm 9) (fm 8) (fm 22) (zm 46) (fl 18) (fm 20) (fm 10) (fm 11) (fm 12) (fm 17) (zm 39) (fl 15) (fm 16) (zm 40) (zm 47) (fl 19) (fm 21) he1 I.hw I.htr I.hK.2 I.hva I.hcm I.hmt I.opM I.hgv I.hmv.1 I.hmk I.htn (by have := I.hmv.2; omega)
  have hr : rm = rx := by
    rcases qx3 with a | a <;> rcases qm6 with b | b
    · omega
    · (exfalso; omega)
    · (exfalso; omega)
    · (obtain ⟨_, _, _, c1, c2, c3, c4⟩ := a; obtain ⟨_, _, _, d1, d2, d3, d4⟩ := b; obtain ⟨rfl, rfl⟩ := fwR_uq (by intro _ _ _ q1 q2; exact thR_uq q1 q2) c3 d3; rw [c4, d4])
  rw [hr] at km
  exact ⟨iz (rx), _, _, 0, 0, 0, 0, kx, km, by omega, by omega, (u2 (u2 (u2 (u2 (u2 (u2 (u2 z 46 10 edx) 46 11 whx) 46 12 tl_x) 46 3 otx) 46 5 qdx) 46 8 stx) 95 1 oszx), (uf (uf (uf (uf (uf (uf (uf (uf (uf (uf f 48 R0x) 49 R1x) 51 K0x) 52 K1x) 53 qx) 54 mox) 55 smx) 56 enx) 96 whox) 97 linex), C, Tx, rc, tl, (u1 (u1 (u1 (u1 (u1 zm 0 0) 39 rmm) 40 mvm) 46 tmnm) 47 tmm), zl, (uf (uf (uf (uf (uf (uf (uf (uf fm 10 ppm) 11 lim) 12 tym) 16 mkm) 17 gvm) 20 cum) 21 ctm) 22 odm), (uf (uf (uf fl 15 rsm) 18 tlm) 19 ttm), tx, n, K, pi_, len, tr, M, R, ik, p0, p1, t, bs, Rts, rfl, rfl, ⟨I.hT, I.hMo, I.hg6, I.hK5, I.hc7, I.hK, I.hpi, I.hlen, I.htr, I.hw, I.hva, I.hop, I.hM, I.hMK, I.hCA, I.hCB, I.hcm, I.hk0, I.hk1, I.hp1, I.hp0, qm0, I.hsv, I.hs0, (bd_s I.hst qx1.2 (by decide)), qx0, qx2, qm1, ⟨Int.le_trans I.hmv.1 qm5.1, bd_s I.hmv.2 qm5.2 (by decide)⟩, qm3, I.hlt, qm4, I.hb55, I.hb56, I.hb57, I.hR, I.hr0, I.hr1, I.hr2, I.hr3, I.hRU, I.hik, I.him⟩⟩
set_option maxRecDepth 100000 in
set_option maxHeartbeats 4000000 in
theorem ag_most (N : Nat) (hN : N < 64) : ln_AgI (Inv N) (Inv (N + 1)) m_X11_most m_X12_most [] := by
  intro hx hm hI
  obtain ⟨z, f, C, T, rc, tl, zm, zl, fm, fl, tx, n, K, pi_, len, tr, M, R, ik, p0, p1, t, bs, Rts, rfl, rfl, I⟩ := hI
  obtain ⟨rvx, hx, kx, rx, Tx, mk0x, mk1x, otx, whx, tl_x, qdx, edx, stx, R0x, R1x, K0x, K1x, qx, mox, smx, enx, rfl, rfl, qx0, qx1, qx2, qx3⟩ := x_most 90 (Zx z n K pi_ len tr M R (tn p0 p1 t) ik) f C T rc tl (tn p0 p1 t) (f 4) tr len pi_ K M (fm 8) (fun c k => fm 9 (4 * c + k)) (z 46 3) (z 46 11) (z 46 12) (z 46 5) (z 46 10) (z 46 8) (f 48) (f 49) (f 51) (f 52) (f 53) (f 54) (f 55) (f 56) (f 64) (f 65) I.hw I.htr I.hpi I.hCA I.opX I.hTs I.hS (by have := I.hst; omega)
  obtain ⟨rvm, hm, km, rm, odm, ppm, lim, tym, gvm, rmm, rsm, mkm, mvm, tmm, ttm, ctm, tmnm, tlm, cum, rfl, rfl, qm0, qm1, qm2, qm3, qm4, qm5, qm6⟩ := m_most 48 (Zm zm n K pi_ len tr M R ik) zl fm fl tx M p0 p1 t K len pi_ tr (fm 5) (f 4) (fm 9) (fm 8) (fm 22) (zm 46) (fl 18) (fm 20) (fm 10) (fm 11) (fm 12) (fm 17) (zm 39) (fl 15) (fm 16) (zm 40) (zm 47) (fl 19) (fm 21) I.hw I.htr I.hK.2 I.hva I.hcm I.hmt I.opM I.hgv I.hmv.1 I.hmk I.htn (by have := I.hmv.2; omega)
  have hr : rm = rx := by
    rcases qx3 with a | a <;> rcases qm6 with b | b
    · omega
    · (exfalso; omega)
    · (exfalso; omega)
    · exact moR_uq b.2 a.2
  rw [hr] at km
  exact ⟨iz (rx), _, _, 0, 0, 0, 0, kx, km, by omega, by omega, (u2 (u2 (u2 (u2 (u2 (u2 z 46 10 edx) 46 11 whx) 46 12 tl_x) 46 3 otx) 46 5 qdx) 46 8 stx), (uf (uf (uf (uf (uf (uf (uf (uf (uf (uf f 48 R0x) 49 R1x) 51 K0x) 52 K1x) 53 qx) 54 mox) 55 smx) 56 enx) 64 mk0x) 65 mk1x), C, Tx, rc, tl, (u1 (u1 (u1 (u1 (u1 zm 0 0) 39 rmm) 40 mvm) 46 tmnm) 47 tmm), zl, (uf (uf (uf (uf (uf (uf (uf (uf fm 10 ppm) 11 lim) 12 tym) 16 mkm) 17 gvm) 20 cum) 21 ctm) 22 odm), (uf (uf (uf fl 15 rsm) 18 tlm) 19 ttm), tx, n, K, pi_, len, tr, M, R, ik, p0, p1, t, bs, Rts, rfl, rfl, ⟨I.hT, I.hMo, I.hg6, I.hK5, I.hc7, I.hK, I.hpi, I.hlen, I.htr, I.hw, I.hva, I.hop, I.hM, I.hMK, I.hCA, I.hCB, I.hcm, I.hk0, I.hk1, I.hp1, I.hp0, qm0, I.hsv, I.hs0, (bd_s I.hst qx1.2 (by decide)), qx0, qx2, qm1, ⟨Int.le_trans I.hmv.1 qm5.1, bd_s I.hmv.2 qm5.2 (by decide)⟩, qm3, I.hlt, qm4, I.hb55, I.hb56, I.hb57, I.hR, I.hr0, I.hr1, I.hr2, I.hr3, I.hRU, I.hik, I.him⟩⟩
set_option maxRecDepth 100000 in
set_option maxHeartbeats 4000000 in
theorem ag_dawn (N : Nat) (hN : N < 64) : ∀ y1 y2 : Int32, ln_AgL (Inv N) (Inv (N + 1)) m_X11_dawn m_X12_dawn [.int (y1), .int (y2)] := by
  intro y1 y2 hx hm hI
  obtain ⟨e1, he1, rfl⟩ := iz_ex y1
  obtain ⟨e2, he2, rfl⟩ := iz_ex y2
  obtain ⟨z, f, C, T, rc, tl, zm, zl, fm, fl, tx, n, K, pi_, len, tr, M, R, ik, p0, p1, t, bs, Rts, rfl, rfl, I⟩ := hI
  obtain ⟨rvx, hx, kx, rx, oszx, whox, Tx, otx, whx, tl_x, qdx, edx, stx, R0x, R1x, K0x, K1x, qx, mox, smx, enx, rfl, rfl, qx0, qx1, qx2, qx3⟩ := x_dawn 88 (Zx z n K pi_ len tr M R (tn p0 p1 t) ik) f C T rc tl e1 e2 (z 95 1) (f 96) (f 4) tr len pi_ K M (fm 8) (fun c k => fm 9 (4 * c + k)) (z 46 3) (z 46 11) (z 46 12) (z 46 5) (z 46 10) (z 46 8) (f 48) (f 49) (f 51) (f 52) (f 53) (f 54) (f 55) (f 56) he1 he2 I.hw I.htr I.hpi I.hCA I.hTs I.hS I.opX2 (by have := I.hst; omega)
  obtain ⟨rvm, hm, km, rm, odm, ppm, lim, tym, gvm, rmm, rsm, mkm, mvm, tmm, ttm, ctm, tmnm, tlm, cum, rfl, rfl, qm0, qm1, qm2, qm3, qm4, qm5, qm6⟩ := m_dawn 44 (Zm zm n K pi_ len tr M R ik) zl fm fl tx e1 e2 M p0 p1 t K len pi_ tr (fm 5) (f 4) (fm 9) (fm 8) (fm 22) (zm 46) (fl 18) (fm 20) (fm 10) (fm 11) (fm 12) (fm 17) (zm 39) (fl 15) (fm 16) (zm 40) (zm 47) (fl 19) (fm 21) he1 he2 I.hw I.htr I.hK.2 I.hva I.hcm I.hmt I.opM I.hgv I.hmv.1 I.hmk I.htn (by have := I.hmv.2; omega)
  have hr : rm = rx := by
    rcases qx3 with a | a <;> rcases qm6 with b | b
    · omega
    · (exfalso; omega)
    · (exfalso; omega)
    · (obtain ⟨_, _, _, _, _, c1, c2, c3, c4⟩ := a; obtain ⟨_, _, _, _, _, d1, d2, d3, d4⟩ := b; obtain ⟨rfl, rfl⟩ := dwR_uq (by intro _ _ _ q1 q2; exact faR_uq (by intro _ _ _ q3 q4; exact thR_uq q3 q4) q1 q2) c3 d3; rw [c4, d4])
  rw [hr] at km
  exact ⟨jz (rx), _, _, 0, 0, 0, 0, kx, km, by omega, by omega, (u2 (u2 (u2 (u2 (u2 (u2 (u2 z 46 10 edx) 46 11 whx) 46 12 tl_x) 46 3 otx) 46 5 qdx) 46 8 stx) 95 1 oszx), (uf (uf (uf (uf (uf (uf (uf (uf (uf f 48 R0x) 49 R1x) 51 K0x) 52 K1x) 53 qx) 54 mox) 55 smx) 56 enx) 96 whox), C, Tx, rc, tl, (u1 (u1 (u1 (u1 (u1 zm 0 0) 39 rmm) 40 mvm) 46 tmnm) 47 tmm), zl, (uf (uf (uf (uf (uf (uf (uf (uf fm 10 ppm) 11 lim) 12 tym) 16 mkm) 17 gvm) 20 cum) 21 ctm) 22 odm), (uf (uf (uf fl 15 rsm) 18 tlm) 19 ttm), tx, n, K, pi_, len, tr, M, R, ik, p0, p1, t, bs, Rts, rfl, rfl, ⟨I.hT, I.hMo, I.hg6, I.hK5, I.hc7, I.hK, I.hpi, I.hlen, I.htr, I.hw, I.hva, I.hop, I.hM, I.hMK, I.hCA, I.hCB, I.hcm, I.hk0, I.hk1, I.hp1, I.hp0, qm0, I.hsv, I.hs0, (bd_s I.hst qx1.2 (by decide)), qx0, qx2, qm1, ⟨Int.le_trans I.hmv.1 qm5.1, bd_s I.hmv.2 qm5.2 (by decide)⟩, qm3, I.hlt, qm4, I.hb55, I.hb56, I.hb57, I.hR, I.hr0, I.hr1, I.hr2, I.hr3, I.hRU, I.hik, I.him⟩⟩
set_option maxRecDepth 100000 in
set_option maxHeartbeats 4000000 in
theorem ag_breaks (N : Nat) (hN : N < 64) : ∀ y1 : Int32, ln_AgI (Inv N) (Inv (N + 1)) m_X11_breaks m_X12_breaks [.int (y1)] := by
  intro y1 hx hm hI
  obtain ⟨e1, he1, rfl⟩ := iz_ex y1
  obtain ⟨z, f, C, T, rc, tl, zm, zl, fm, fl, tx, n, K, pi_, len, tr, M, R, ik, p0, p1, t, bs, Rts, rfl, rfl, I⟩ := hI
  obtain ⟨rvx, hx, kx, rx, Tx, whox, oszx, otx, whx, tl_x, qdx, edx, stx, R0x, R1x, K0x, K1x, qx, mox, smx, enx, rfl, rfl, qx0, qx1, qx2, qx3⟩ := x_breaks 89 (Zx z n K pi_ len tr M R (tn p0 p1 t) ik) f C T rc tl e1 (tn p0 p1 t) (z 95 1) (f 96) (f 4) tr len pi_ K M (fm 8) (fun c k => fm 9 (4 * c + k)) (z 46 3) (z 46 11) (z 46 12) (z 46 5) (z 46 10) (z 46 8) (f 48) (f 49) (f 51) (f 52) (f 53) (f 54) (f 55) (f 56) he1 I.hw I.htr I.hpi I.hCA I.opX I.hTs I.hS (by have := I.hst; omega)
  obtain ⟨rvm, hm, km, rm, odm, ppm, lim, tym, gvm, rmm, rsm, mkm, mvm, tmm, ttm, ctm, tmnm, tlm, cum, rfl, rfl, qm0, qm1, qm2, qm3, qm4, qm5, qm6⟩ := m_breaks 45 (Zm zm n K pi_ len tr M R ik) zl fm fl tx e1 M p0 p1 t K len pi_ tr (fm 5) (f 4) (fm 9) (fm 8) (fm 22) (zm 46) (fl 18) (fm 20) (fm 10) (fm 11) (fm 12) (fm 17) (zm 39) (fl 15) (fm 16) (zm 40) (zm 47) (fl 19) (fm 21) he1 I.hw I.htr I.hK.2 I.hva I.hcm I.hmt I.opM I.hgv I.hmv.1 I.hmk I.htn (by have := I.hmv.2; omega)
  have hr : rm = rx := by
    rcases qx3 with a | a <;> rcases qm6 with b | b
    · omega
    · (exfalso; omega)
    · (exfalso; omega)
    · exact fuR_uq (by intro _ _ _ q1 q2; exact thR_uq q1 q2) b.2.2 a.2.2
  rw [hr] at km
  exact ⟨iz (rx), _, _, 0, 0, 0, 0, kx, km, by omega, by omega, (u2 (u2 (u2 (u2 (u2 (u2 (u2 z 46 10 edx) 46 11 whx) 46 12 tl_x) 46 3 otx) 46 5 qdx) 46 8 stx) 95 1 oszx), (uf (uf (uf (uf (uf (uf (uf (uf (uf f 48 R0x) 49 R1x) 51 K0x) 52 K1x) 53 qx) 54 mox) 55 smx) 56 enx) 96 whox), C, Tx, rc, tl, (u1 (u1 (u1 (u1 (u1 zm 0 0) 39 rmm) 40 mvm) 46 tmnm) 47 tmm), zl, (uf (uf (uf (uf (uf (uf (uf (uf fm 10 ppm) 11 lim) 12 tym) 16 mkm) 17 gvm) 20 cum) 21 ctm) 22 odm), (uf (uf (uf fl 15 rsm) 18 tlm) 19 ttm), tx, n, K, pi_, len, tr, M, R, ik, p0, p1, t, bs, Rts, rfl, rfl, ⟨I.hT, I.hMo, I.hg6, I.hK5, I.hc7, I.hK, I.hpi, I.hlen, I.htr, I.hw, I.hva, I.hop, I.hM, I.hMK, I.hCA, I.hCB, I.hcm, I.hk0, I.hk1, I.hp1, I.hp0, qm0, I.hsv, I.hs0, (bd_s I.hst qx1.2 (by decide)), qx0, qx2, qm1, ⟨Int.le_trans I.hmv.1 qm5.1, bd_s I.hmv.2 qm5.2 (by decide)⟩, qm3, I.hlt, qm4, I.hb55, I.hb56, I.hb57, I.hR, I.hr0, I.hr1, I.hr2, I.hr3, I.hRU, I.hik, I.him⟩⟩
set_option maxRecDepth 100000 in
set_option maxHeartbeats 4000000 in
theorem ag_gives (N : Nat) (hN : N < 64) : ∀ y1 y2 : Int32, ln_AgI (Inv N) (Inv (N + 1)) m_X11_gives m_X12_gives [.int (y1), .int (y2)] := by
  intro y1 y2 hx hm hI
  obtain ⟨e1, he1, rfl⟩ := iz_ex y1
  obtain ⟨e2, he2, rfl⟩ := iz_ex y2
  obtain ⟨z, f, C, T, rc, tl, zm, zl, fm, fl, tx, n, K, pi_, len, tr, M, R, ik, p0, p1, t, bs, Rts, rfl, rfl, I⟩ := hI
  obtain ⟨rvx, hx, kx, rx, rfl, rfl, qx0⟩ := x_gives 99 (Zx z n K pi_ len tr M R (tn p0 p1 t) ik) f C T rc tl e1 e2 K M (f 4) (fm 8) (fun c k => fm 9 (4 * c + k)) he1 he2 I.hK I.hCA I.hCB
  obtain ⟨rvm, hm, km, rm, gwm, gmm, bem, tam, rfl, rfl, qm0⟩ := m_gives 93 (Zm zm n K pi_ len tr M R ik) zl fm fl tx e1 e2 K M (fm 5) (fm 8) (fm 9) (f 4) (zm 48) (zm 49) (fm 23) (fm 24) he1 he2 I.hK I.hva I.hw I.hcm
  have hr : rm = rx := by
    rcases qx0 with a | a <;> rcases qm0 with b | b
    · omega
    · exfalso; omega
    · exfalso; omega
    · rcases a.2.2.2.2 with ⟨a1, a2⟩ | ⟨h1, a1, a2⟩ <;> rcases b.2.2.2.2 with ⟨b1, b2⟩ | ⟨h2, b1, b2⟩
      · omega
      · exact absurd b1.1 (a1 h2)
      · exact absurd a1.1 (b1 h1)
      · rw [a2, b2, bsH_uq a1 b1]
  rw [hr] at km
  exact ⟨iz (rx), _, _, 0, 0, 0, 0, kx, km, by omega, by omega, z, f, C, T, rc, tl, (u1 (u1 (u1 zm 0 0) 48 gwm) 49 gmm), zl, (uf (uf fm 23 bem) 24 tam), fl, tx, n, K, pi_, len, tr, M, R, ik, p0, p1, t, bs, Rts, rfl, rfl, ⟨I.hT, I.hMo, I.hg6, I.hK5, I.hc7, I.hK, I.hpi, I.hlen, I.htr, I.hw, I.hva, I.hop, I.hM, I.hMK, I.hCA, I.hCB, I.hcm, I.hk0, I.hk1, I.hp1, I.hp0, I.hmt, I.hsv, I.hs0, (bd_n I.hst), I.hS, I.hTs, I.hgv, ⟨I.hmv.1, bd_n I.hmv.2⟩, I.hmk, I.hlt, I.htn, I.hb55, I.hb56, I.hb57, I.hR, I.hr0, I.hr1, I.hr2, I.hr3, I.hRU, I.hik, I.him⟩⟩
set_option maxRecDepth 100000 in
set_option maxHeartbeats 4000000 in
theorem ag_helps (N : Nat) (hN : N < 64) : ∀ y1 : Int32, ln_AgI (Inv N) (Inv (N + 1)) m_X11_helps m_X12_helps [.int (y1)] := by
  intro y1 hx hm hI
  obtain ⟨e1, he1, rfl⟩ := iz_ex y1
  obtain ⟨z, f, C, T, rc, tl, zm, zl, fm, fl, tx, n, K, pi_, len, tr, M, R, ik, p0, p1, t, bs, Rts, rfl, rfl, I⟩ := hI
  obtain ⟨rvx, hx, kx, rx, Tx, otx, whx, tl_x, qdx, edx, stx, R0x, R1x, K0x, K1x, qx, mox, smx, enx, rfl, rfl, qx0, qx1, qx2, qx3⟩ := x_helps 88 (Zx z n K pi_ len tr M R (tn p0 p1 t) ik) f C T rc tl e1 (tn p0 p1 t) (f 4) tr len pi_ K M (fm 8) (fun c k => fm 9 (4 * c + k)) (z 46 3) (z 46 11) (z 46 12) (z 46 5) (z 46 10) (z 46 8) (f 48) (f 49) (f 51) (f 52) (f 53) (f 54) (f 55) (f 56) he1 I.hw I.htr I.hpi I.hCA I.opX I.hTs I.hS (by have := I.hst; omega)
  obtain ⟨rvm, hm, km, rm, atm, omm, owm, ppm, lim, tym, gvm, rmm, rsm, mkm, mvm, rfl, rfl, qm0, qm1, qm2, qm3, qm4, qm5, qm6⟩ := m_helps 45 (Zm zm n K pi_ len tr M R ik) zl fm fl tx e1 (zm 55) (zm 54) (fl 26) M p0 p1 t K len pi_ tr (fm 5) (f 4) (fm 9) (fm 8) (fm 10) (fm 11) (fm 12) (fm 17) (zm 39) (fl 15) (fm 16) (zm 40) he1 I.hw I.htr I.hK.2 I.hva I.hcm I.opM I.hmt I.hgv I.hmv.1 I.hmk I.hb55 (by have := I.hmv.2; omega)
  have hr : rm = rx := by
    rcases qx3 with a | a <;> rcases qm6 with b | b
    · omega
    · (exfalso; omega)
    · (exfalso; omega)
    · exact hpR_uq b.2 a.2
  rw [hr] at km
  exact ⟨iz (rx), _, _, 0, 0, 0, 0, kx, km, by omega, by omega, (u2 (u2 (u2 (u2 (u2 (u2 z 46 10 edx) 46 11 whx) 46 12 tl_x) 46 3 otx) 46 5 qdx) 46 8 stx), (uf (uf (uf (uf (uf (uf (uf (uf f 48 R0x) 49 R1x) 51 K0x) 52 K1x) 53 qx) 54 mox) 55 smx) 56 enx), C, Tx, rc, tl, (u1 (u1 (u1 (u1 (u1 zm 0 0) 39 rmm) 40 mvm) 54 omm) 55 atm), zl, (uf (uf (uf (uf (uf fm 10 ppm) 11 lim) 12 tym) 16 mkm) 17 gvm), (uf (uf fl 15 rsm) 26 owm), tx, n, K, pi_, len, tr, M, R, ik, p0, p1, t, bs, Rts, rfl, rfl, ⟨I.hT, I.hMo, I.hg6, I.hK5, I.hc7, I.hK, I.hpi, I.hlen, I.htr, I.hw, I.hva, I.hop, I.hM, I.hMK, I.hCA, I.hCB, I.hcm, I.hk0, I.hk1, I.hp1, I.hp0, qm0, I.hsv, I.hs0, (bd_s I.hst qx1.2 (by decide)), qx0, qx2, qm1, ⟨Int.le_trans I.hmv.1 qm5.1, bd_s I.hmv.2 qm5.2 (by decide)⟩, qm3, I.hlt, I.htn, qm4, I.hb56, I.hb57, I.hR, I.hr0, I.hr1, I.hr2, I.hr3, I.hRU, I.hik, I.him⟩⟩
set_option maxRecDepth 100000 in
set_option maxHeartbeats 4000000 in
theorem ag_spoils (N : Nat) (hN : N < 64) : ∀ y1 : Int32, ln_AgI (Inv N) (Inv (N + 1)) m_X11_spoils m_X12_spoils [.int (y1)] := by
  intro y1 hx hm hI
  obtain ⟨e1, he1, rfl⟩ := iz_ex y1
  obtain ⟨z, f, C, T, rc, tl, zm, zl, fm, fl, tx, n, K, pi_, len, tr, M, R, ik, p0, p1, t, bs, Rts, rfl, rfl, I⟩ := hI
  obtain ⟨rvx, hx, kx, rx, Tx, otx, whx, tl_x, qdx, edx, stx, R0x, R1x, K0x, K1x, qx, mox, smx, enx, rfl, rfl, qx0, qx1, qx2, qx3⟩ := x_spoils 88 (Zx z n K pi_ len tr M R (tn p0 p1 t) ik) f C T rc tl e1 (tn p0 p1 t) (f 4) tr len pi_ K M (fm 8) (fun c k => fm 9 (4 * c + k)) (z 46 3) (z 46 11) (z 46 12) (z 46 5) (z 46 10) (z 46 8) (f 48) (f 49) (f 51) (f 52) (f 53) (f 54) (f 55) (f 56) he1 I.hw I.htr I.hpi I.hCA I.opX I.hTs I.hS (by have := I.hst; omega)
  obtain ⟨rvm, hm, km, rm, atm, omm, owm, ppm, lim, tym, gvm, rmm, rsm, mkm, mvm, rfl, rfl, qm0, qm1, qm2, qm3, qm4, qm5, qm6⟩ := m_spoils 45 (Zm zm n K pi_ len tr M R ik) zl fm fl tx e1 (zm 55) (zm 54) (fl 26) M p0 p1 t K len pi_ tr (fm 5) (f 4) (fm 9) (fm 8) (fm 10) (fm 11) (fm 12) (fm 17) (zm 39) (fl 15) (fm 16) (zm 40) he1 I.hw I.htr I.hK.2 I.hva I.hcm I.opM I.hmt I.hgv I.hmv.1 I.hmk I.hb55 (by have := I.hmv.2; omega)
  have hr : rm = rx := by
    rcases qx3 with a | a <;> rcases qm6 with b | b
    · omega
    · (exfalso; omega)
    · (exfalso; omega)
    · exact spR_uq b.2 a.2
  rw [hr] at km
  exact ⟨iz (rx), _, _, 0, 0, 0, 0, kx, km, by omega, by omega, (u2 (u2 (u2 (u2 (u2 (u2 z 46 10 edx) 46 11 whx) 46 12 tl_x) 46 3 otx) 46 5 qdx) 46 8 stx), (uf (uf (uf (uf (uf (uf (uf (uf f 48 R0x) 49 R1x) 51 K0x) 52 K1x) 53 qx) 54 mox) 55 smx) 56 enx), C, Tx, rc, tl, (u1 (u1 (u1 (u1 (u1 zm 0 0) 39 rmm) 40 mvm) 54 omm) 55 atm), zl, (uf (uf (uf (uf (uf fm 10 ppm) 11 lim) 12 tym) 16 mkm) 17 gvm), (uf (uf fl 15 rsm) 26 owm), tx, n, K, pi_, len, tr, M, R, ik, p0, p1, t, bs, Rts, rfl, rfl, ⟨I.hT, I.hMo, I.hg6, I.hK5, I.hc7, I.hK, I.hpi, I.hlen, I.htr, I.hw, I.hva, I.hop, I.hM, I.hMK, I.hCA, I.hCB, I.hcm, I.hk0, I.hk1, I.hp1, I.hp0, qm0, I.hsv, I.hs0, (bd_s I.hst qx1.2 (by decide)), qx0, qx2, qm1, ⟨Int.le_trans I.hmv.1 qm5.1, bd_s I.hmv.2 qm5.2 (by decide)⟩, qm3, I.hlt, I.htn, qm4, I.hb56, I.hb57, I.hR, I.hr0, I.hr1, I.hr2, I.hr3, I.hRU, I.hik, I.him⟩⟩
set_option maxRecDepth 100000 in
set_option maxHeartbeats 4000000 in
theorem ag_wise (N : Nat) (hN : N < 64) : ∀ y1 y2 : Int32, ln_AgI (Inv N) (Inv (N + 1)) m_X11_wise m_X12_wise [.int (y1), .int (y2)] := by
  intro y1 y2 hx hm hI
  obtain ⟨e1, he1, rfl⟩ := iz_ex y1
  obtain ⟨e2, he2, rfl⟩ := iz_ex y2
  obtain ⟨z, f, C, T, rc, tl, zm, zl, fm, fl, tx, n, K, pi_, len, tr, M, R, ik, p0, p1, t, bs, Rts, rfl, rfl, I⟩ := hI
  obtain ⟨rvx, hx, kx, rx, Tx, otx, whx, tl_x, qdx, edx, stx, R0x, R1x, K0x, K1x, qx, mox, smx, enx, rfl, rfl, qx0, qx1, qx2, qx3⟩ := x_wise 89 (Zx z n K pi_ len tr M R (tn p0 p1 t) ik) f C T rc tl e1 e2 (tn p0 p1 t) (f 4) tr len pi_ K M (fm 8) (fun c k => fm 9 (4 * c + k)) (z 46 3) (z 46 11) (z 46 12) (z 46 5) (z 46 10) (z 46 8) (f 48) (f 49) (f 51) (f 52) (f 53) (f 54) (f 55) (f 56) he1 he2 I.hw I.htr I.hpi I.hCA I.opX I.hTs I.hS (by have := I.hst; omega)
  obtain ⟨rvm, hm, km, rm, atm, omm, owm, ppm, lim, tym, gvm, rmm, rsm, mkm, mvm, rfl, rfl, qm0, qm1, qm2, qm3, qm4, qm5, qm6⟩ := m_wise 46 (Zm zm n K pi_ len tr M R ik) zl fm fl tx e1 e2 (zm 55) (zm 54) (fl 26) M p0 p1 t K len pi_ tr (fm 5) (f 4) (fm 9) (fm 8) (fm 10) (fm 11) (fm 12) (fm 17) (zm 39) (fl 15) (fm 16) (zm 40) he1 he2 I.hw I.htr I.hK.2 I.hva I.hcm I.opM I.hmt I.hgv I.hmv.1 I.hmk I.hb55 (by have := I.hmv.2; omega)
  have hr : rm = rx := by
    rcases qx3 with a | a <;> rcases qm6 with b | b
    · omega
    · (exfalso; omega)
    · (exfalso; omega)
    · exact wsR_uq b.2.2.2.2 a.2.2.2.2
  rw [hr] at km
  exact ⟨iz (rx), _, _, 0, 0, 0, 0, kx, km, by omega, by omega, (u2 (u2 (u2 (u2 (u2 (u2 z 46 10 edx) 46 11 whx) 46 12 tl_x) 46 3 otx) 46 5 qdx) 46 8 stx), (uf (uf (uf (uf (uf (uf (uf (uf f 48 R0x) 49 R1x) 51 K0x) 52 K1x) 53 qx) 54 mox) 55 smx) 56 enx), C, Tx, rc, tl, (u1 (u1 (u1 (u1 (u1 zm 0 0) 39 rmm) 40 mvm) 54 omm) 55 atm), zl, (uf (uf (uf (uf (uf fm 10 ppm) 11 lim) 12 tym) 16 mkm) 17 gvm), (uf (uf fl 15 rsm) 26 owm), tx, n, K, pi_, len, tr, M, R, ik, p0, p1, t, bs, Rts, rfl, rfl, ⟨I.hT, I.hMo, I.hg6, I.hK5, I.hc7, I.hK, I.hpi, I.hlen, I.htr, I.hw, I.hva, I.hop, I.hM, I.hMK, I.hCA, I.hCB, I.hcm, I.hk0, I.hk1, I.hp1, I.hp0, qm0, I.hsv, I.hs0, (bd_s I.hst qx1.2 (by decide)), qx0, qx2, qm1, ⟨Int.le_trans I.hmv.1 qm5.1, bd_s I.hmv.2 qm5.2 (by decide)⟩, qm3, I.hlt, I.htn, qm4, I.hb56, I.hb57, I.hR, I.hr0, I.hr1, I.hr2, I.hr3, I.hRU, I.hik, I.him⟩⟩
set_option maxRecDepth 100000 in
set_option maxHeartbeats 4000000 in
theorem ag_rich (N : Nat) (hN : N < 64) : ∀ y1 y2 : Int32, ln_AgI (Inv N) (Inv (N + 1)) m_X11_rich m_X12_rich [.int (y1), .int (y2)] := by
  intro y1 y2 hx hm hI
  obtain ⟨e1, he1, rfl⟩ := iz_ex y1
  obtain ⟨e2, he2, rfl⟩ := iz_ex y2
  obtain ⟨z, f, C, T, rc, tl, zm, zl, fm, fl, tx, n, K, pi_, len, tr, M, R, ik, p0, p1, t, bs, Rts, rfl, rfl, I⟩ := hI
  obtain ⟨rvx, hx, kx, rx, Tx, otx, whx, tl_x, qdx, edx, stx, R0x, R1x, K0x, K1x, qx, mox, smx, enx, rfl, rfl, qx0, qx1, qx2, qx3⟩ := x_rich 89 (Zx z n K pi_ len tr M R (tn p0 p1 t) ik) f C T rc tl e1 e2 (tn p0 p1 t) (f 4) tr len pi_ K M (fm 8) (fun c k => fm 9 (4 * c + k)) (z 46 3) (z 46 11) (z 46 12) (z 46 5) (z 46 10) (z 46 8) (f 48) (f 49) (f 51) (f 52) (f 53) (f 54) (f 55) (f 56) he1 he2 I.hw I.htr I.hpi I.hCA I.opX I.hTs I.hS (by have := I.hst; omega)
  obtain ⟨rvm, hm, km, rm, atm, omm, owm, ppm, lim, tym, gvm, rmm, rsm, mkm, mvm, rfl, rfl, qm0, qm1, qm2, qm3, qm4, qm5, qm6⟩ := m_rich 46 (Zm zm n K pi_ len tr M R ik) zl fm fl tx e1 e2 (zm 55) (zm 54) (fl 26) M p0 p1 t K len pi_ tr (fm 5) (f 4) (fm 9) (fm 8) (fm 10) (fm 11) (fm 12) (fm 17) (zm 39) (fl 15) (fm 16) (zm 40) he1 he2 I.hw I.htr I.hK.2 I.hva I.hcm I.opM I.hmt I.hgv I.hmv.1 I.hmk I.hb55 (by have := I.hmv.2; omega)
  have hr : rm = rx := by
    rcases qx3 with a | a <;> rcases qm6 with b | b
    · omega
    · (exfalso; omega)
    · (exfalso; omega)
    · exact rhR_uq b.2.2.2.2 a.2.2.2.2
  rw [hr] at km
  exact ⟨iz (rx), _, _, 0, 0, 0, 0, kx, km, by omega, by omega, (u2 (u2 (u2 (u2 (u2 (u2 z 46 10 edx) 46 11 whx) 46 12 tl_x) 46 3 otx) 46 5 qdx) 46 8 stx), (uf (uf (uf (uf (uf (uf (uf (uf f 48 R0x) 49 R1x) 51 K0x) 52 K1x) 53 qx) 54 mox) 55 smx) 56 enx), C, Tx, rc, tl, (u1 (u1 (u1 (u1 (u1 zm 0 0) 39 rmm) 40 mvm) 54 omm) 55 atm), zl, (uf (uf (uf (uf (uf fm 10 ppm) 11 lim) 12 tym) 16 mkm) 17 gvm), (uf (uf fl 15 rsm) 26 owm), tx, n, K, pi_, len, tr, M, R, ik, p0, p1, t, bs, Rts, rfl, rfl, ⟨I.hT, I.hMo, I.hg6, I.hK5, I.hc7, I.hK, I.hpi, I.hlen, I.htr, I.hw, I.hva, I.hop, I.hM, I.hMK, I.hCA, I.hCB, I.hcm, I.hk0, I.hk1, I.hp1, I.hp0, qm0, I.hsv, I.hs0, (bd_s I.hst qx1.2 (by decide)), qx0, qx2, qm1, ⟨Int.le_trans I.hmv.1 qm5.1, bd_s I.hmv.2 qm5.2 (by decide)⟩, qm3, I.hlt, I.htn, qm4, I.hb56, I.hb57, I.hR, I.hr0, I.hr1, I.hr2, I.hr3, I.hRU, I.hik, I.him⟩⟩
set_option maxRecDepth 100000 in
set_option maxHeartbeats 4000000 in
theorem ag_chain (N : Nat) (hN : N < 64) : ln_AgI (Inv N) (Inv (N + 1)) m_X11_chain m_X12_chain [] := by
  intro hx hm hI
  obtain ⟨z, f, C, T, rc, tl, zm, zl, fm, fl, tx, n, K, pi_, len, tr, M, R, ik, p0, p1, t, bs, Rts, rfl, rfl, I⟩ := hI
  obtain ⟨rvx, hx, kx, rx, Tx, cu_x, gx, otx, whx, tl_x, qdx, edx, stx, R0x, R1x, K0x, K1x, qx, mox, smx, enx, rfl, rfl, qx0, qx1, qx2, qx3⟩ := x_chain 85 (Zx z n K pi_ len tr M R (tn p0 p1 t) ik) f C T rc tl (tn p0 p1 t) (f 4) tr len pi_ K M (fm 8) (fun c k => fm 9 (4 * c + k)) (z 46 3) (z 46 11) (z 46 12) (z 46 5) (z 46 10) (z 46 8) (f 48) (f 49) (f 51) (f 52) (f 53) (f 54) (f 55) (f 56) (z 61 5) (z 61 6) I.hw I.htr I.hpi I.hCA I.opX I.hTs I.hS (by have := I.hst; omega)
  obtain ⟨rvm, hm, km, rm, tom, ham, odm, ppm, lim, tym, gvm, rmm, rsm, mkm, mvm, tmm, ttm, ctm, tmnm, tlm, cum, rfl, rfl, qm0, qm1, qm2, qm3, qm4, qm5, qm6, qm7, qm8⟩ := m_chain 42 (Zm zm n K pi_ len tr M R ik) zl fm fl tx M p0 p1 t K len pi_ tr (fm 5) (f 4) (fm 9) (fm 8) (fm 22) (zm 46) (fl 18) (fm 20) (fm 10) (fm 11) (fm 12) (fm 17) (zm 39) (fl 15) (fm 16) (zm 40) (zm 47) (fl 19) (fm 21) (zm 57) (zm 56) I.hw I.htr I.hK.2 I.hva I.hcm I.hmt I.opM I.hgv I.hmv.1 I.hmk I.htn I.hb57 I.hb56 (by have := I.hmv.2; omega)
  have hr : rm = rx := by
    rcases qx3 with a | a <;> rcases qm8 with b | b
    · omega
    · (exfalso; omega)
    · (exfalso; omega)
    · exact chnR_uq b.2 a.2
  rw [hr] at km
  exact ⟨iz (rx), _, _, 0, 0, 0, 0, kx, km, by omega, by omega, (u2 (u2 (u2 (u2 (u2 (u2 (u2 (u2 z 46 10 edx) 46 11 whx) 46 12 tl_x) 46 3 otx) 46 5 qdx) 46 8 stx) 61 5 cu_x) 61 6 gx), (uf (uf (uf (uf (uf (uf (uf (uf f 48 R0x) 49 R1x) 51 K0x) 52 K1x) 53 qx) 54 mox) 55 smx) 56 enx), C, Tx, rc, tl, (u1 (u1 (u1 (u1 (u1 (u1 (u1 zm 0 0) 39 rmm) 40 mvm) 46 tmnm) 47 tmm) 56 ham) 57 tom), zl, (uf (uf (uf (uf (uf (uf (uf (uf fm 10 ppm) 11 lim) 12 tym) 16 mkm) 17 gvm) 20 cum) 21 ctm) 22 odm), (uf (uf (uf fl 15 rsm) 18 tlm) 19 ttm), tx, n, K, pi_, len, tr, M, R, ik, p0, p1, t, bs, Rts, rfl, rfl, ⟨I.hT, I.hMo, I.hg6, I.hK5, I.hc7, I.hK, I.hpi, I.hlen, I.htr, I.hw, I.hva, I.hop, I.hM, I.hMK, I.hCA, I.hCB, I.hcm, I.hk0, I.hk1, I.hp1, I.hp0, qm0, I.hsv, I.hs0, (bd_s I.hst qx1.2 (by decide)), qx0, qx2, qm1, ⟨Int.le_trans I.hmv.1 qm5.1, bd_s I.hmv.2 qm5.2 (by decide)⟩, qm3, I.hlt, qm4, I.hb55, qm7, qm6, I.hR, I.hr0, I.hr1, I.hr2, I.hr3, I.hRU, I.hik, I.him⟩⟩

/-! class and model agree: by run worst day best mean (printed by wip/whole/genag4.py) -/
section IVbak
variable {N : Nat} {z : Nat → Nat → Int} {f : Nat → Int → Int} {C : Nat → CuR} {T : Nat → TsR} {rc : Nat → Nat} {tl : AmH} {zm : Nat → Int} {zl : Nat → Int} {fm : Nat → Int → Int} {n K pi_ len tr M R ik p0 p1 t : Int} {bs : Int → Int → Int} {Rts : Int → RuT}
theorem IV.cuK (I : IV N z f C T rc tl zm zl fm n K pi_ len tr M R ik p0 p1 t bs Rts) : cuK C K M := by
  intro c c0 c1
  obtain ⟨a1, a2⟩ := I.hCA.2.2 c c0 c1
  obtain ⟨b1, b2⟩ := I.hCB c c0 c1
  have hch : (C c.toNat).2.2.2.2.2.2.2 = -1 ∨ (0 ≤ (C c.toNat).2.2.2.2.2.2.2 ∧ (C c.toNat).2.2.2.2.2.2.2 < (C c.toNat).2.2.2.1) := by
    rcases b1 with q | q
    · exact Or.inl q.1
    · exact Or.inr ⟨q.1, q.2.1⟩
  refine ⟨a1, hch, fun s l h => ?_⟩
  unfold hOf at h
  split at h
  · cases h
  · rename_i hne
    have hc2 := hch.resolve_left hne
    simp only [Option.some.injEq, Prod.mk.injEq] at h
    obtain ⟨rfl, rfl⟩ := h
    have hb := a1.2.2 _ hc2.1 hc2.2
    obtain ⟨gv, g1, g2, g3, g4⟩ := a2.1 _ hc2.1 hc2.2
    refine ⟨⟨hb.2.2.1, hb.2.2.2.1⟩, ?_, ?_⟩
    · show (lsI _ _).length ≤ 4
      rw [lsI_len]; have := hb.2.1; omega
    · intro x hx
      rw [g3] at hx
      have := hG_d hx
      have := I.hK
      omega
theorem IV.cuS (I : IV N z f C T rc tl zm zl fm n K pi_ len tr M R ik p0 p1 t bs Rts) : cuS (f 4) K M (fm 8) (fm 9) (fun c => hOf (C c.toNat)) := by
  intro c c0 c1
  obtain ⟨a1, a2⟩ := I.hCA.2.2 c c0 c1
  obtain ⟨b1, b2⟩ := I.hCB c c0 c1
  obtain ⟨m1, m2, m3, m4⟩ := I.hcm.2.2 c c0 c1
  refine ⟨m1, m4, ?_⟩
  show haM _ _ _ _ (hOf (C c.toNat))
  unfold hOf
  rcases b1 with q | q
  · rw [if_pos q.1]; exact Or.inl ⟨rfl, q.2⟩
  · rw [if_neg (by have := q.1; omega)]
    obtain ⟨gv, g1, g2, g3, g4⟩ := a2.1 _ q.1 q.2.1
    refine Or.inr ⟨_, ?_, q.2.2⟩
    rw [g4, g3, wL_hG (f 4) (k := K.toNat) (fun i i0 i1 => (g1 i i0 (by omega)).1)]
theorem IV.okS (I : IV N z f C T rc tl zm zl fm n K pi_ len tr M R ik p0 p1 t bs Rts) : okS K len pi_ (p0, p1, t, 0) := ⟨I.hk0, I.hk1, I.t0, I.tK, I.q1⟩
theorem IV.rU (I : IV N z f C T rc tl zm zl fm n K pi_ len tr M R ik p0 p1 t bs Rts) : ∀ i : Int, 0 ≤ i → i < R → ruM (fm 2) (fm 3) i (bs i) (Rts i) ∧ (fun i => fun L => fnd L (Rts i).2.2.2) i = (fun L => fnd L (Rts i).2.2.2) ∧ ruV ((fun i => fun L => fnd L (Rts i).2.2.2) i) (Rts i).2.2.1 := fun i i0 i1 => ⟨(I.hRU i i0 i1).1, rfl, (I.hRU i i0 i1).2⟩
end IVbak
set_option maxRecDepth 100000 in
set_option maxHeartbeats 4000000 in
theorem ag_by (N : Nat) (hN : N < 64) : ∀ y1 y2 : Int32, ln_AgI (Inv N) (Inv (N + 1)) m_X11_by m_X12_by [.int (y1), .int (y2)] := by
  intro y1 y2 hx hm hI
  obtain ⟨e1, he1, rfl⟩ := iz_ex y1
  obtain ⟨e2, he2, rfl⟩ := iz_ex y2
  obtain ⟨z, f, C, T, rc, tl, zm, zl, fm, fl, tx, n, K, pi_, len, tr, M, R, ik, p0, p1, t, bs, Rts, rfl, rfl, I⟩ := hI
  rcases (show M = 0 ∨ 0 < M by have := I.hM; omega) with hm0 | hm1
  · obtain ⟨rvx, hx, kx, rx, rfl, rfl, qx0⟩ := x_by0 97 (Zx z n K pi_ len tr M R (tn p0 p1 t) ik) f C T rc tl e1 e2 R M he1 he2 hm0 I.hR
    obtain ⟨rvm, hm, km, rm, rfl, rfl, qm0⟩ := m_by0 97 (Zm zm n K pi_ len tr M R ik) zl fm fl tx e1 e2 R M he1 he2 hm0 I.hR
    have hr : rm = rx := by
      omega
    rw [hr] at km
    exact ⟨iz (rx), _, _, 0, 0, 0, 0, kx, km, by omega, by omega, z, f, C, T, rc, tl, (u1 zm 0 0), zl, fm, fl, tx, n, K, pi_, len, tr, M, R, ik, p0, p1, t, bs, Rts, rfl, rfl, ⟨I.hT, I.hMo, I.hg6, I.hK5, I.hc7, I.hK, I.hpi, I.hlen, I.htr, I.hw, I.hva, I.hop, I.hM, I.hMK, I.hCA, I.hCB, I.hcm, I.hk0, I.hk1, I.hp1, I.hp0, I.hmt, I.hsv, I.hs0, (bd_n I.hst), I.hS, I.hTs, I.hgv, ⟨I.hmv.1, bd_n I.hmv.2⟩, I.hmk, I.hlt, I.htn, I.hb55, I.hb56, I.hb57, I.hR, I.hr0, I.hr1, I.hr2, I.hr3, I.hRU, I.hik, I.him⟩⟩
  · obtain ⟨rvx, hx, kx, rx, vx, svx, gx, ltx, skx, tqx, rfl, rfl, qx0⟩ := x_by 93 (Zx z n K pi_ len tr M R (tn p0 p1 t) ik) f C T rc tl e1 e2 (f 44) R M (tn p0 p1 t) pi_ len (f 4) (f 92) (f 93) (f 94) (z 91 3) (z 36 1) (z 38 1) (z 40 1) (z 42 1) K (fun i => fun L => fnd L (Rts i).2.2.2) he1 he2 I.hw (by have := (I.opK (I.hMK hm1)).2; omega) (I.opX hm1).1 I.hM (I.opX hm1).2.1 I.cuK I.vt I.hR I.hr0 I.hr1 I.hr2 I.hr3
    obtain ⟨rvm, hm, km, rm, q0m, q1m, tm, svm, ppm, lim, tym, gwm, gmm, bem, tam, y8m, y9m, y10m, y11m, y12m, y13m, y14m, y17m, ltm, txvm, rfl, rfl, qm0, qm1, qm2, qm3⟩ := m_by 66 (Zm zm n K pi_ len tr M R ik) zl fm fl tx e1 e2 (fm 13) p0 p1 t (fm 10) (fm 11) (fm 12) (zm 48) (zm 49) (fm 23) (fm 24) (zm 8) (zm 9) (zm 10) (zm 11) (zm 12) (zm 13) (zm 14) (zm 17) (fm 4) tx K pi_ (fm 5) (f 4) len (fm 2) (fm 3) bs Rts (fun i => fun L => fnd L (Rts i).2.2.2) (fm 8) (fm 9) M (fun c => hOf (C c.toNat)) R he1 he2 I.hw I.hva (I.opX hm1).2.1 (by have := (I.opK (I.hMK hm1)).2; omega) (I.opX hm1).1 I.hM I.cuS I.hR I.rU I.hmt I.okS I.hlt
    have hkey : rm = rx ∧ vx = tn q0m q1m tm ∧ (∀ i : Int, 0 ≤ i → i < M → svm i = svx i) ∧ (∀ i : Int, M ≤ i → i < 4 → svx i = 0) := by
      rcases qx0 with ⟨a0, a1, a2, a3⟩ | ⟨a0, a1, a2⟩ <;> rcases qm3 with ⟨b0, b1, b2, b3⟩ | ⟨b0, b1, b2⟩
      · exact ⟨by omega, by rw [a2, b2], by rw [a3, b3]; exact I.hsv, by rw [a3]; exact I.hs0⟩
      · exact absurd ⟨b0, b1⟩ a0
      · exact absurd ⟨a0, a1⟩ b0
      · rcases a2 with ⟨c0, c1, c2, c3⟩ | ⟨c0, c1, c2, c3⟩ <;> rcases b2 with ⟨d0, d1, d2, d3⟩ | ⟨d0, d1, d2, d3⟩
        · exact ⟨by omega, by rw [c2, d2], by rw [c3, d3]; exact I.hsv, by rw [c3]; exact I.hs0⟩
        · exact absurd c0 d0
        · exact absurd d0 c0
        · refine ⟨by omega, by rw [c2, d2]; rfl, fun i i0 i1 => ?_, fun i i0 i1 => ?_⟩
          · rw [c3, d3]; unfold iu; rw [I.hsv e2 a1.1 a1.2, I.hsv i i0 i1]
          · rw [c3, iu_ne _ _ (by omega)]; exact I.hs0 i i0 i1
    obtain ⟨hr0, hv0, hs1, hs2⟩ := hkey
    subst hv0
    obtain ⟨w0, w1, w2, w3, w4⟩ := qm1
    have hpp := (I.opK (I.hMK hm1)).2
    have hr : rm = rx := by
      exact hr0
    rw [hr] at km
    exact ⟨iz (rx), _, _, 0, 0, 0, 0, kx, km, by omega, by omega, (u2 z 91 3 tqx), (uf (uf (uf (uf f 44 svx) 92 gx) 93 ltx) 94 skx), C, T, rc, tl, (u1 (u1 (u1 (u1 (u1 (u1 (u1 (u1 (u1 (u1 (u1 zm 0 0) 10 y10m) 11 y11m) 12 y12m) 13 y13m) 14 y14m) 17 y17m) 48 gwm) 49 gmm) 8 y8m) 9 y9m), zl, (uf (uf (uf (uf (uf (uf (uf fm 10 ppm) 11 lim) 12 tym) 13 svm) 23 bem) 24 tam) 4 ltm), fl, txvm, n, K, pi_, len, tr, M, R, ik, q0m, q1m, tm, bs, Rts, rfl, rfl, ⟨I.hT, I.hMo, I.hg6, I.hK5, I.hc7, I.hK, I.hpi, I.hlen, I.htr, I.hw, I.hva, I.hop, I.hM, I.hMK, I.hCA, I.hCB, I.hcm, w0, w1, (fun q => w4 (by omega)), (fun q => by omega), qm0, hs1, hs2, (bd_n I.hst), I.hS, I.hTs, I.hgv, ⟨I.hmv.1, bd_n I.hmv.2⟩, I.hmk, qm2, I.htn, I.hb55, I.hb56, I.hb57, I.hR, I.hr0, I.hr1, I.hr2, I.hr3, I.hRU, I.hik, I.him⟩⟩
set_option maxRecDepth 100000 in
set_option maxHeartbeats 4000000 in
theorem ag_run (N : Nat) (hN : N < 64) : ∀ y1 y2 : Int32, ln_AgI (Inv N) (Inv (N + 1)) m_X11_run m_X12_run [.int (y1), .int (y2)] := by
  intro y1 y2 hx hm hI
  obtain ⟨e1, he1, rfl⟩ := iz_ex y1
  obtain ⟨e2, he2, rfl⟩ := iz_ex y2
  obtain ⟨z, f, C, T, rc, tl, zm, zl, fm, fl, tx, n, K, pi_, len, tr, M, R, ik, p0, p1, t, bs, Rts, rfl, rfl, I⟩ := hI
  rcases (show M = 0 ∨ 0 < M by have := I.hM; omega) with hm0 | hm1
  · obtain ⟨rvx, hx, kx, rx, oszx, whox, rfl, rfl, qx0⟩ := x_run0 97 (Zx z n K pi_ len tr M R (tn p0 p1 t) ik) f C T rc tl e1 e2 (z 95 1) (f 96) R M he1 he2 hm0 I.hR
    obtain ⟨rvm, hm, km, rm, odm, rfl, rfl, qm0⟩ := m_run0 97 (Zm zm n K pi_ len tr M R ik) zl fm fl tx e1 e2 (fm 22) R M he1 he2 hm0 I.hR
    have hr : rm = rx := by
      omega
    rw [hr] at km
    exact ⟨iz (rx), _, _, 0, 0, 0, 0, kx, km, by omega, by omega, (u2 z 95 1 oszx), (uf f 96 whox), C, T, rc, tl, (u1 zm 0 0), zl, (uf fm 22 odm), fl, tx, n, K, pi_, len, tr, M, R, ik, p0, p1, t, bs, Rts, rfl, rfl, ⟨I.hT, I.hMo, I.hg6, I.hK5, I.hc7, I.hK, I.hpi, I.hlen, I.htr, I.hw, I.hva, I.hop, I.hM, I.hMK, I.hCA, I.hCB, I.hcm, I.hk0, I.hk1, I.hp1, I.hp0, I.hmt, I.hsv, I.hs0, (bd_n I.hst), I.hS, I.hTs, I.hgv, ⟨I.hmv.1, bd_n I.hmv.2⟩, I.hmk, I.hlt, I.htn, I.hb55, I.hb56, I.hb57, I.hR, I.hr0, I.hr1, I.hr2, I.hr3, I.hRU, I.hik, I.him⟩⟩
  · obtain ⟨rvx, hx, kx, rx, oszx, whox, gx, ltx, skx, tqx, rfl, rfl, qx0⟩ := x_run 93 (Zx z n K pi_ len tr M R (tn p0 p1 t) ik) f C T rc tl e1 e2 (z 95 1) (f 96) R M (tn p0 p1 t) pi_ len (f 4) (f 92) (f 93) (f 94) (z 91 3) (z 36 1) (z 38 1) (z 40 1) (z 42 1) K (fun i => fun L => fnd L (Rts i).2.2.2) he1 he2 I.hw (by have := (I.opK (I.hMK hm1)).2; omega) (I.opX hm1).1 I.hM (I.opX hm1).2.1 I.cuK I.vt I.hR I.hr0 I.hr1 I.hr2 I.hr3
    obtain ⟨rvm, hm, km, rm, odm, ppm, lim, tym, gwm, gmm, bem, tam, y8m, y9m, y10m, y11m, y12m, y13m, y14m, y17m, ltm, txvm, rfl, rfl, qm0, qm1, qm2⟩ := m_run 65 (Zm zm n K pi_ len tr M R ik) zl fm fl tx e1 e2 (fm 22) p0 p1 t (fm 10) (fm 11) (fm 12) (zm 48) (zm 49) (fm 23) (fm 24) (zm 8) (zm 9) (zm 10) (zm 11) (zm 12) (zm 13) (zm 14) (zm 17) (fm 4) tx K pi_ (fm 5) (f 4) len (fm 2) (fm 3) bs Rts (fun i => fun L => fnd L (Rts i).2.2.2) (fm 8) (fm 9) M (fun c => hOf (C c.toNat)) R he1 he2 I.hw I.hva (I.opX hm1).2.1 (by have := (I.opK (I.hMK hm1)).2; omega) (I.opX hm1).1 I.hM I.cuS I.hR I.rU I.hmt I.okS I.hlt
    have hr : rm = rx := by
      rcases qx0 with a | a <;> rcases qm2 with b | b
      · omega
      · exact absurd ⟨b.1, b.2.1⟩ a.1
      · exact absurd ⟨a.1, a.2.1⟩ b.1
      · rw [a.2.2, b.2.2]; rfl
    rw [hr] at km
    exact ⟨iz (rx), _, _, 0, 0, 0, 0, kx, km, by omega, by omega, (u2 (u2 z 91 3 tqx) 95 1 oszx), (uf (uf (uf (uf f 92 gx) 93 ltx) 94 skx) 96 whox), C, T, rc, tl, (u1 (u1 (u1 (u1 (u1 (u1 (u1 (u1 (u1 (u1 (u1 zm 0 0) 10 y10m) 11 y11m) 12 y12m) 13 y13m) 14 y14m) 17 y17m) 48 gwm) 49 gmm) 8 y8m) 9 y9m), zl, (uf (uf (uf (uf (uf (uf (uf fm 10 ppm) 11 lim) 12 tym) 22 odm) 23 bem) 24 tam) 4 ltm), fl, txvm, n, K, pi_, len, tr, M, R, ik, p0, p1, t, bs, Rts, rfl, rfl, ⟨I.hT, I.hMo, I.hg6, I.hK5, I.hc7, I.hK, I.hpi, I.hlen, I.htr, I.hw, I.hva, I.hop, I.hM, I.hMK, I.hCA, I.hCB, I.hcm, I.hk0, I.hk1, I.hp1, I.hp0, qm0, I.hsv, I.hs0, (bd_n I.hst), I.hS, I.hTs, I.hgv, ⟨I.hmv.1, bd_n I.hmv.2⟩, I.hmk, qm1, I.htn, I.hb55, I.hb56, I.hb57, I.hR, I.hr0, I.hr1, I.hr2, I.hr3, I.hRU, I.hik, I.him⟩⟩

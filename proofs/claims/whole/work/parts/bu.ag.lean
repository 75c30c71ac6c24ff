/-! class and model agree: text (printed by wip/whole/genag6.py) -/
set_option maxRecDepth 100000 in
set_option maxHeartbeats 4000000 in
theorem agt_text0 {N : Nat} {z : Nat → Nat → Int} {f : Nat → Int → Int} {C : Nat → CuR} {T : Nat → TsR} {rc : Nat → Nat} {tl : AmH} {zm : Nat → Int} {zl : Nat → Int} {fm fl : Nat → Int → Int} {tx : Nat} {n K pi_ len tr M R ik p0 p1 t : Int} {bs : Int → Int → Int} {Rts : Int → RuT} (hN : N < 64) (I : IV N z f C T rc tl zm zl fm n K pi_ len tr M R ik p0 p1 t bs Rts) : agG N m_X11_text m_X12_text [.int (iz 0)] (cxW (Zx z n K pi_ len tr M R (tn p0 p1 t) ik) f C T rc tl) (cmH (Zm zm n K pi_ len tr M R ik) zl fm fl tx) := by
  obtain ⟨rvx, hx, kx, rx, nx, atx, Kx, pi_x, lenx, trx, wx, K1x, t0x, t1x, t2x, g1x, Mx, sdx, ikx, svx, rfl, rfl, qx0, qx1, qx2, qx3⟩ := x_text0 93 (Zx z n K pi_ len tr M R (tn p0 p1 t) ik) f C T rc tl n (f 2) (z 1 2) K pi_ len tr (f 4) (z 5 1) (z 5 2) (z 5 3) (z 5 4) (f 6) M (tn p0 p1 t) ik (f 44) I.hT I.hg6 I.hK5
  obtain ⟨rvm, hm, km, rm, nm, am, fam, K1m, gmm, gwm, Km, vam, pi_m, lenm, trm, Mm, ikm, ppm, lim, tym, rfl, rfl, qm0, qm1⟩ := m_text0 96 (Zm zm n K pi_ len tr M R ik) zl fm fl tx n (fm 1) (f 2) K (fm 5) pi_ len tr M ik (fm 10) (fm 11) (fm 12) I.hT I.hMo
  rcases qx0 with ⟨a0, a1, a2, a3, a4, a5, a6, a7, a8, a9, a10, a11⟩ | ⟨l, a0, a1, a2, a3, a4, a5, a6, a7, a8, a9, a10⟩ <;> rcases qm0 with ⟨b0, b1, b2, b3, b4, b5, b6, b7, b8, b9, b10, b11, b12⟩ | ⟨b0, b1, b2, b3, b4, b5, b6⟩
  · replace a1 := a1.symm; replace a2 := a2.symm; replace a3 := a3.symm; replace a4 := a4.symm; replace a5 := a5.symm; replace a6 := a6.symm; replace a7 := a7.symm; replace a8 := a8.symm; replace a9 := a9.symm; replace a10 := a10.symm; replace a11 := a11.symm; replace b1 := b1.symm; replace b2 := b2.symm; replace b3 := b3.symm; replace b4 := b4.symm; replace b5 := b5.symm; replace b6 := b6.symm; replace b7 := b7.symm; replace b8 := b8.symm; replace b9 := b9.symm; replace b10 := b10.symm; replace b11 := b11.symm; replace b12 := b12.symm; subst a1 a2 a3 a4 a5 a6 a7 a8 a9 a10 a11 b1 b2 b3 b4 b5 b6 b7 b8 b9 b10 b11 b12
    exact ⟨iz ((-1)), _, _, 0, 0, 0, 0, kx, km, by omega, by omega, (u2 (u2 (u2 (u2 (u2 z 1 2 atx) 5 1 K1x) 5 2 t0x) 5 3 t1x) 5 4 t2x), (uf (uf (uf f 4 (f 4)) 44 (f 44)) 6 g1x), C, T, rc, tl, (u1 (u1 (u1 (u1 (u1 (u1 zm 0 0) 10 am) 11 fam) 25 K1m) 8 0) 9 n), zl, (uf (uf (uf (uf (uf (uf fm 10 (fm 10)) 11 (fm 11)) 12 (fm 12)) 5 (fm 5)) 6 gmm) 7 gwm), fl, 1, n, K, pi_, len, tr, M, R, ik, p0, p1, t, bs, Rts, rfl, rfl, ⟨I.hT, I.hMo, qx1, qx2, I.hc7, I.hK, I.hpi, I.hlen, I.htr, I.hw, I.hva, I.hop, I.hM, I.hMK, I.hCA, I.hCB, I.hcm, I.hk0, I.hk1, I.hp1, I.hp0, I.hmt, I.hsv, I.hs0, (bd_n I.hst), I.hS, I.hTs, I.hgv, ⟨I.hmv.1, bd_n I.hmv.2⟩, I.hmk, I.hlt, I.htn, I.hb55, I.hb56, I.hb57, I.hR, I.hr0, I.hr1, I.hr2, I.hr3, I.hRU, I.hik, I.him⟩⟩
  · exact absurd b0 a0
  · exact absurd (congrArg Prod.fst a0) b0
  · obtain ⟨c1, c2, c3⟩ := b5 l (pi_x, lenx, trx) (congrArg Prod.snd a0)
    simp only [Prod.mk.injEq] at c3
    obtain ⟨d1, d2, d3⟩ := c3
    subst d1 d2 d3
    have eK : Kx = Km := a3.trans c1.symm
    subst eK
    have hr : rm = rx := by omega
    have a8 : sdx = tn 0 0 0 := a8.trans tn_000
    obtain ⟨hl4, ⟨v1, v2⟩, ⟨v3, v4⟩, v5, v6⟩ := shP_v I.hT.1 a0
    dsimp only at v1 v2 v3 v4 v5 v6
    have hva1 : ∀ k : Int, 0 ≤ k → k < Kx → vam k = wx (k + 1) := fun k k0 k1 => lst_eq c2 a4 k k0 (by omega)
    have hok : okP Kx lenx 0 := ⟨Int.le_refl 0, 0, Nat.zero_le _, rfl, by omega⟩
    subst hr a6 a7 a8 a9 b2 b3 b4
    exact ⟨iz (rm), _, _, 0, 0, 0, 0, kx, km, by omega, by omega, (u2 (u2 (u2 (u2 (u2 z 1 2 atx) 5 1 K1x) 5 2 t0x) 5 3 t1x) 5 4 t2x), (uf (uf (uf f 4 wx) 44 svx) 6 g1x), C, T, rc, tl, (u1 (u1 (u1 (u1 (u1 (u1 zm 0 0) 10 am) 11 fam) 25 K1m) 8 0) 9 n), zl, (uf (uf (uf (uf (uf (uf fm 10 ppm) 11 lim) 12 tym) 5 vam) 6 gmm) 7 gwm), fl, 1, 0, Kx, pi_x, lenx, trx, 0, R, 0, 0, 0, 0, bs, Rts, rfl, rfl, ⟨⟨Int.le_refl 0, by decide, fun i i0 i1 => absurd i1 (by omega)⟩, ⟨by decide, by decide, fun i i0 i1 => absurd i1 (by omega)⟩, qx1, qx2, I.hc7, ⟨by omega, by omega⟩, ⟨by omega, by omega⟩, ⟨by omega, by omega⟩, ⟨by omega, by omega⟩, a5, hva1, (fun _ => ⟨by omega, by omega⟩), ⟨by decide, by decide⟩, (fun q => absurd q (by omega)), ⟨by decide, by decide, fun c c0 c1 => absurd c1 (by omega)⟩, (fun c c0 c1 => absurd c1 (by omega)), ⟨by decide, by decide, fun c c0 c1 => absurd c1 (by omega)⟩, hok, hok, (fun _ => rfl), (fun _ => rfl), b6, (fun i i0 i1 => absurd i1 (by omega)), a10, (bd_n I.hst), I.hS, I.hTs, I.hgv, ⟨I.hmv.1, bd_n I.hmv.2⟩, I.hmk, I.hlt, I.htn, I.hb55, I.hb56, I.hb57, I.hR, I.hr0, I.hr1, I.hr2, I.hr3, I.hRU, (Or.inl rfl), (fun q => absurd q (by decide))⟩⟩
set_option maxRecDepth 100000 in
set_option maxHeartbeats 4000000 in
theorem agt_text1F {N : Nat} {z : Nat → Nat → Int} {f : Nat → Int → Int} {C : Nat → CuR} {T : Nat → TsR} {rc : Nat → Nat} {tl : AmH} {zm : Nat → Int} {zl : Nat → Int} {fm fl : Nat → Int → Int} {tx : Nat} {n K pi_ len tr M R ik p0 p1 t : Int} {bs : Int → Int → Int} {Rts : Int → RuT} (hN : N < 64) (I : IV N z f C T rc tl zm zl fm n K pi_ len tr M R ik p0 p1 t bs Rts) (u : K = 0 ∨ M = 4) : agG N m_X11_text m_X12_text [.int (iz 1)] (cxW (Zx z n K pi_ len tr M R (tn p0 p1 t) ik) f C T rc tl) (cmH (Zm zm n K pi_ len tr M R ik) zl fm fl tx) := by
  obtain ⟨rvx, hx, kx, atx, prx, cox, cgx, rfl, rfl, qx0, qx1⟩ := x_text1F 95 (Zx z n K pi_ len tr M R (tn p0 p1 t) ik) f C T rc tl n (f 2) (z 1 2) K (z 7 0) (z 7 2) (f 8) M I.hT I.hK I.hM u I.hc7
  obtain ⟨rvm, hm, km, rfl, rfl⟩ := m_text1F 99 (Zm zm n K pi_ len tr M R ik) zl fm fl tx K M I.hK I.hM u
  exact ⟨iz ((-1)), _, _, 0, 0, 0, 0, kx, km, by omega, by omega, (u2 (u2 (u2 z 1 2 atx) 7 0 prx) 7 2 cox), (uf f 8 cgx), C, T, rc, tl, (u1 zm 0 0), zl, fm, fl, tx, n, K, pi_, len, tr, M, R, ik, p0, p1, t, bs, Rts, rfl, rfl, ⟨I.hT, I.hMo, I.hg6, I.hK5, qx0, I.hK, I.hpi, I.hlen, I.htr, I.hw, I.hva, I.hop, I.hM, I.hMK, I.hCA, I.hCB, I.hcm, I.hk0, I.hk1, I.hp1, I.hp0, I.hmt, I.hsv, I.hs0, (bd_n I.hst), I.hS, I.hTs, I.hgv, ⟨I.hmv.1, bd_n I.hmv.2⟩, I.hmk, I.hlt, I.htn, I.hb55, I.hb56, I.hb57, I.hR, I.hr0, I.hr1, I.hr2, I.hr3, I.hRU, I.hik, I.him⟩⟩
set_option maxRecDepth 100000 in
set_option maxHeartbeats 4000000 in
theorem agt_textD {N : Nat} {z : Nat → Nat → Int} {f : Nat → Int → Int} {C : Nat → CuR} {T : Nat → TsR} {rc : Nat → Nat} {tl : AmH} {zm : Nat → Int} {zl : Nat → Int} {fm fl : Nat → Int → Int} {tx : Nat} {n K pi_ len tr M R ik p0 p1 t : Int} {bs : Int → Int → Int} {Rts : Int → RuT} (e1 : Int) (he1 : bI e1) (hN : N < 64) (I : IV N z f C T rc tl zm zl fm n K pi_ len tr M R ik p0 p1 t bs Rts) (q : ¬ (0 ≤ e1 ∧ e1 ≤ 2)) : agG N m_X11_text m_X12_text [.int (iz e1)] (cxW (Zx z n K pi_ len tr M R (tn p0 p1 t) ik) f C T rc tl) (cmH (Zm zm n K pi_ len tr M R ik) zl fm fl tx) := by
  obtain ⟨rvx, hx, kx, rfl, rfl⟩ := x_textD 99 (Zx z n K pi_ len tr M R (tn p0 p1 t) ik) f C T rc tl n (f 2) (z 1 2) e1 he1 q
  obtain ⟨rvm, hm, km, rfl, rfl⟩ := m_textD 99 (Zm zm n K pi_ len tr M R ik) zl fm fl tx e1 he1 q
  exact ⟨iz ((-1)), _, _, 0, 0, 0, 0, kx, km, by omega, by omega, (u2 z 1 2 0), f, C, T, rc, tl, (u1 zm 0 0), zl, fm, fl, tx, n, K, pi_, len, tr, M, R, ik, p0, p1, t, bs, Rts, rfl, rfl, ⟨I.hT, I.hMo, I.hg6, I.hK5, I.hc7, I.hK, I.hpi, I.hlen, I.htr, I.hw, I.hva, I.hop, I.hM, I.hMK, I.hCA, I.hCB, I.hcm, I.hk0, I.hk1, I.hp1, I.hp0, I.hmt, I.hsv, I.hs0, (bd_n I.hst), I.hS, I.hTs, I.hgv, ⟨I.hmv.1, bd_n I.hmv.2⟩, I.hmk, I.hlt, I.htn, I.hb55, I.hb56, I.hb57, I.hR, I.hr0, I.hr1, I.hr2, I.hr3, I.hRU, I.hik, I.him⟩⟩
set_option maxRecDepth 100000 in
set_option maxHeartbeats 4000000 in
theorem agt_text1_0 {N : Nat} {z : Nat → Nat → Int} {f : Nat → Int → Int} {C : Nat → CuR} {T : Nat → TsR} {rc : Nat → Nat} {tl : AmH} {zm : Nat → Int} {zl : Nat → Int} {fm fl : Nat → Int → Int} {tx : Nat} {n K pi_ len tr R ik p0 p1 t : Int} {bs : Int → Int → Int} {Rts : Int → RuT} (hN : N < 64) (I : IV N z f C T rc tl zm zl fm n K pi_ len tr 0 R ik p0 p1 t bs Rts) (u : 1 ≤ K) : agG N m_X11_text m_X12_text [.int (iz 1)] (cxW (Zx z n K pi_ len tr 0 R (tn p0 p1 t) ik) f C T rc tl) (cmH (Zm zm n K pi_ len tr 0 R ik) zl fm fl tx) := by
  obtain ⟨rvx, hx, kx, rx, nx, atx, prx, cox, cgx, Cx, Mx, rfl, rfl, qx0, qx1, qx2⟩ := x_text1_0 95 (Zx z n K pi_ len tr 0 R (tn p0 p1 t) ik) f C T rc tl n (f 2) (z 1 2) K (f 4) (z 7 0) (z 7 2) (f 8) I.hT ⟨u, I.hK.2⟩ I.hw I.hc7
  obtain ⟨rvm, hm, km, rm, nm, am, fam, Mm, pum, prrm, smm, rfl, rfl, qm0, qm1⟩ := m_text1 96 (Zm zm n K pi_ len tr 0 R ik) zl fm fl tx n (fm 1) (f 2) K 0 (fm 9) (fm 8) (fm 13) I.hT I.hMo ⟨u, I.hK.2⟩ ⟨by decide, by decide⟩
  have hK4 := I.hK.2
  rcases qx0 with ⟨a0, a1, a2, a3, a4⟩ | ⟨X, l, a0, a1, a2, a3, a4, a5⟩ <;> rcases qm0 with ⟨b0, b1, b2, b3, b4, b5, b6⟩ | ⟨b0, b1, b2, b3, b4, b5, b6, b7⟩
  · replace a1 := a1.symm; replace a2 := a2.symm; replace a3 := a3.symm; replace a4 := a4.symm; replace b1 := b1.symm; replace b2 := b2.symm; replace b3 := b3.symm; replace b4 := b4.symm; subst a1 a2 a3 a4 b1 b2 b3 b4
    exact ⟨iz ((-1)), _, _, 0, 0, 0, 0, kx, km, by omega, by omega, (u2 (u2 (u2 z 1 2 atx) 7 0 prx) 7 2 cox), (uf f 8 cgx), C, T, rc, tl, (u1 (u1 (u1 (u1 (u1 zm 0 0) 10 am) 11 fam) 8 0) 9 n), zl, (uf (uf (uf fm 13 (fm 13)) 8 prrm) 9 pum), fl, 1, n, K, pi_, len, tr, 0, R, ik, p0, p1, t, bs, Rts, rfl, rfl, ⟨I.hT, I.hMo, I.hg6, I.hK5, qx1, I.hK, I.hpi, I.hlen, I.htr, I.hw, I.hva, I.hop, I.hM, I.hMK, (cuA_cg I.hCA (fun c c0 c1 => b6 c c0 (by omega)) (fun c k c0 c1 k0 k1 => b5 (4 * c + k) (by omega) (by omega))), (cuB_cg I.hCB (fun c c0 c1 => b6 c c0 (by omega)) (fun c k c0 c1 k0 k1 => b5 (4 * c + k) (by omega) (by omega))), (cuM_cg I.hK.1 I.hcm (fun c c0 c1 => b6 c c0 (by omega)) (fun c k c0 c1 k0 k1 => b5 (4 * c + k) (by omega) (by omega))), I.hk0, I.hk1, I.hp1, I.hp0, I.hmt, I.hsv, I.hs0, (bd_n I.hst), I.hS, I.hTs, I.hgv, ⟨I.hmv.1, bd_n I.hmv.2⟩, I.hmk, I.hlt, I.htn, I.hb55, I.hb56, I.hb57, I.hR, I.hr0, I.hr1, I.hr2, I.hr3, I.hRU, I.hik, I.him⟩⟩
  · exact absurd b0 a0
  · exact absurd (congrArg Prod.fst a0) b0
  · obtain ⟨e1, e2⟩ := b4 prx l (congrArg Prod.snd a0)
    obtain ⟨g1, g2, g3, g4⟩ := cuP_in I.hT.1 a0
    have hX := a1 (fun k => pum (4 * 0 + k)) (fun k k0 k1 => e2 k k0 (by omega))
    rw [← e1] at hX
    have hq1 : ∀ c : Int, 0 ≤ c → c < 0 → prrm c = fm 8 c := fun c c0 c1 => b6 c c0 c1
    have hq2 : ∀ c k : Int, 0 ≤ c → c < 0 → 0 ≤ k → k < K → pum (4 * c + k) = fm 9 (4 * c + k) := fun c k c0 c1 k0 k1 => b5 (4 * c + k) (by omega) (by omega)
    have hA1 : cuA (uC C 0 X) (f 4) K (0 + 1) prrm (fun c k => pum (4 * c + k)) := cuA_add rfl (by decide) I.hCA hq1 hq2 ⟨hX.1, hX.2.1⟩
    have hB1 : cuB (uC C 0 X) (f 4) K (0 + 1) prrm (fun c k => pum (4 * c + k)) := cuB_add rfl I.hCB hq1 hq2 ⟨hX.2.2.1, hX.2.2.2⟩
    have hM1 : cuM K (0 + 1) pum prrm := cuM_add u I.hK.2 (by decide) I.hcm hq1 hq2 g1 e2 (by rw [e1]; exact ⟨g3, g4⟩)
    have hsv1 : ∀ i : Int, 0 ≤ i → i < 0 + 1 → iu (fm 13) 0 0 i = f 44 i := by
      intro i i0 i1
      by_cases e : i = 0
      · rw [e, iu_at]; exact (I.hs0 0 (by decide) (by decide)).symm
      · rw [iu_ne _ _ e]; exact I.hsv i i0 (by omega)
    replace a2 := a2.symm; replace a3 := a3.symm; replace a4 := a4.symm; replace a5 := a5.symm; replace b1 := b1.symm; replace b2 := b2.symm; replace b3 := b3.symm; replace b7 := b7.symm; subst a2 a3 a4 a5 b1 b2 b3 b7
    exact ⟨iz (0), _, _, 0, 0, 0, 0, kx, km, by omega, by omega, (u2 (u2 (u2 z 1 2 atx) 7 0 prx) 7 2 cox), (uf f 8 cgx), (uC C 0 X), T, rc, tl, (u1 (u1 (u1 (u1 (u1 zm 0 0) 10 am) 11 fam) 8 0) 9 n), zl, (uf (uf (uf fm 13 (iu (fm 13) 0 0)) 8 prrm) 9 pum), fl, 1, 0, K, pi_, len, tr, 1, R, ik, p0, p1, t, bs, Rts, rfl, rfl, ⟨⟨Int.le_refl 0, by decide, fun i i0 i1 => absurd i1 (by omega)⟩, ⟨by decide, by decide, fun i i0 i1 => absurd i1 (by omega)⟩, I.hg6, I.hK5, qx1, I.hK, I.hpi, I.hlen, I.htr, I.hw, I.hva, I.hop, ⟨by decide, by decide⟩, (fun _ => u), hA1, hB1, hM1, I.hk0, I.hk1, I.hp1, I.hp0, I.hmt, hsv1, (fun i i0 i1 => I.hs0 i (by omega) i1), (bd_n I.hst), I.hS, I.hTs, I.hgv, ⟨I.hmv.1, bd_n I.hmv.2⟩, I.hmk, I.hlt, I.htn, I.hb55, I.hb56, I.hb57, I.hR, I.hr0, I.hr1, I.hr2, I.hr3, I.hRU, I.hik, (fun q => ⟨(I.him q).1, (I.him q).2.1, fun j j0 j1 => (I.him q).2.2 j (by omega) j1⟩)⟩⟩
set_option maxRecDepth 100000 in
set_option maxHeartbeats 4000000 in
theorem agt_text1_1 {N : Nat} {z : Nat → Nat → Int} {f : Nat → Int → Int} {C : Nat → CuR} {T : Nat → TsR} {rc : Nat → Nat} {tl : AmH} {zm : Nat → Int} {zl : Nat → Int} {fm fl : Nat → Int → Int} {tx : Nat} {n K pi_ len tr R ik p0 p1 t : Int} {bs : Int → Int → Int} {Rts : Int → RuT} (hN : N < 64) (I : IV N z f C T rc tl zm zl fm n K pi_ len tr 1 R ik p0 p1 t bs Rts) (u : 1 ≤ K) : agG N m_X11_text m_X12_text [.int (iz 1)] (cxW (Zx z n K pi_ len tr 1 R (tn p0 p1 t) ik) f C T rc tl) (cmH (Zm zm n K pi_ len tr 1 R ik) zl fm fl tx) := by
  obtain ⟨rvx, hx, kx, rx, nx, atx, prx, cox, cgx, Cx, Mx, rfl, rfl, qx0, qx1, qx2⟩ := x_text1_1 95 (Zx z n K pi_ len tr 1 R (tn p0 p1 t) ik) f C T rc tl n (f 2) (z 1 2) K (f 4) (z 7 0) (z 7 2) (f 8) I.hT ⟨u, I.hK.2⟩ I.hw I.hc7
  obtain ⟨rvm, hm, km, rm, nm, am, fam, Mm, pum, prrm, smm, rfl, rfl, qm0, qm1⟩ := m_text1 96 (Zm zm n K pi_ len tr 1 R ik) zl fm fl tx n (fm 1) (f 2) K 1 (fm 9) (fm 8) (fm 13) I.hT I.hMo ⟨u, I.hK.2⟩ ⟨by decide, by decide⟩
  have hK4 := I.hK.2
  rcases qx0 with ⟨a0, a1, a2, a3, a4⟩ | ⟨X, l, a0, a1, a2, a3, a4, a5⟩ <;> rcases qm0 with ⟨b0, b1, b2, b3, b4, b5, b6⟩ | ⟨b0, b1, b2, b3, b4, b5, b6, b7⟩
  · replace a1 := a1.symm; replace a2 := a2.symm; replace a3 := a3.symm; replace a4 := a4.symm; replace b1 := b1.symm; replace b2 := b2.symm; replace b3 := b3.symm; replace b4 := b4.symm; subst a1 a2 a3 a4 b1 b2 b3 b4
    exact ⟨iz ((-1)), _, _, 0, 0, 0, 0, kx, km, by omega, by omega, (u2 (u2 (u2 z 1 2 atx) 7 0 prx) 7 2 cox), (uf f 8 cgx), C, T, rc, tl, (u1 (u1 (u1 (u1 (u1 zm 0 0) 10 am) 11 fam) 8 0) 9 n), zl, (uf (uf (uf fm 13 (fm 13)) 8 prrm) 9 pum), fl, 1, n, K, pi_, len, tr, 1, R, ik, p0, p1, t, bs, Rts, rfl, rfl, ⟨I.hT, I.hMo, I.hg6, I.hK5, qx1, I.hK, I.hpi, I.hlen, I.htr, I.hw, I.hva, I.hop, I.hM, I.hMK, (cuA_cg I.hCA (fun c c0 c1 => b6 c c0 (by omega)) (fun c k c0 c1 k0 k1 => b5 (4 * c + k) (by omega) (by omega))), (cuB_cg I.hCB (fun c c0 c1 => b6 c c0 (by omega)) (fun c k c0 c1 k0 k1 => b5 (4 * c + k) (by omega) (by omega))), (cuM_cg I.hK.1 I.hcm (fun c c0 c1 => b6 c c0 (by omega)) (fun c k c0 c1 k0 k1 => b5 (4 * c + k) (by omega) (by omega))), I.hk0, I.hk1, I.hp1, I.hp0, I.hmt, I.hsv, I.hs0, (bd_n I.hst), I.hS, I.hTs, I.hgv, ⟨I.hmv.1, bd_n I.hmv.2⟩, I.hmk, I.hlt, I.htn, I.hb55, I.hb56, I.hb57, I.hR, I.hr0, I.hr1, I.hr2, I.hr3, I.hRU, I.hik, I.him⟩⟩
  · exact absurd b0 a0
  · exact absurd (congrArg Prod.fst a0) b0
  · obtain ⟨e1, e2⟩ := b4 prx l (congrArg Prod.snd a0)
    obtain ⟨g1, g2, g3, g4⟩ := cuP_in I.hT.1 a0
    have hX := a1 (fun k => pum (4 * 1 + k)) (fun k k0 k1 => e2 k k0 (by omega))
    rw [← e1] at hX
    have hq1 : ∀ c : Int, 0 ≤ c → c < 1 → prrm c = fm 8 c := fun c c0 c1 => b6 c c0 c1
    have hq2 : ∀ c k : Int, 0 ≤ c → c < 1 → 0 ≤ k → k < K → pum (4 * c + k) = fm 9 (4 * c + k) := fun c k c0 c1 k0 k1 => b5 (4 * c + k) (by omega) (by omega)
    have hA1 : cuA (uC C 1 X) (f 4) K (1 + 1) prrm (fun c k => pum (4 * c + k)) := cuA_add rfl (by decide) I.hCA hq1 hq2 ⟨hX.1, hX.2.1⟩
    have hB1 : cuB (uC C 1 X) (f 4) K (1 + 1) prrm (fun c k => pum (4 * c + k)) := cuB_add rfl I.hCB hq1 hq2 ⟨hX.2.2.1, hX.2.2.2⟩
    have hM1 : cuM K (1 + 1) pum prrm := cuM_add u I.hK.2 (by decide) I.hcm hq1 hq2 g1 e2 (by rw [e1]; exact ⟨g3, g4⟩)
    have hsv1 : ∀ i : Int, 0 ≤ i → i < 1 + 1 → iu (fm 13) 1 0 i = f 44 i := by
      intro i i0 i1
      by_cases e : i = 1
      · rw [e, iu_at]; exact (I.hs0 1 (by decide) (by decide)).symm
      · rw [iu_ne _ _ e]; exact I.hsv i i0 (by omega)
    replace a2 := a2.symm; replace a3 := a3.symm; replace a4 := a4.symm; replace a5 := a5.symm; replace b1 := b1.symm; replace b2 := b2.symm; replace b3 := b3.symm; replace b7 := b7.symm; subst a2 a3 a4 a5 b1 b2 b3 b7
    exact ⟨iz (1), _, _, 0, 0, 0, 0, kx, km, by omega, by omega, (u2 (u2 (u2 z 1 2 atx) 7 0 prx) 7 2 cox), (uf f 8 cgx), (uC C 1 X), T, rc, tl, (u1 (u1 (u1 (u1 (u1 zm 0 0) 10 am) 11 fam) 8 0) 9 n), zl, (uf (uf (uf fm 13 (iu (fm 13) 1 0)) 8 prrm) 9 pum), fl, 1, 0, K, pi_, len, tr, 2, R, ik, p0, p1, t, bs, Rts, rfl, rfl, ⟨⟨Int.le_refl 0, by decide, fun i i0 i1 => absurd i1 (by omega)⟩, ⟨by decide, by decide, fun i i0 i1 => absurd i1 (by omega)⟩, I.hg6, I.hK5, qx1, I.hK, I.hpi, I.hlen, I.htr, I.hw, I.hva, I.hop, ⟨by decide, by decide⟩, (fun _ => u), hA1, hB1, hM1, I.hk0, I.hk1, I.hp1, I.hp0, I.hmt, hsv1, (fun i i0 i1 => I.hs0 i (by omega) i1), (bd_n I.hst), I.hS, I.hTs, I.hgv, ⟨I.hmv.1, bd_n I.hmv.2⟩, I.hmk, I.hlt, I.htn, I.hb55, I.hb56, I.hb57, I.hR, I.hr0, I.hr1, I.hr2, I.hr3, I.hRU, I.hik, (fun q => ⟨(I.him q).1, (I.him q).2.1, fun j j0 j1 => (I.him q).2.2 j (by omega) j1⟩)⟩⟩
set_option maxRecDepth 100000 in
set_option maxHeartbeats 4000000 in
theorem agt_text1_2 {N : Nat} {z : Nat → Nat → Int} {f : Nat → Int → Int} {C : Nat → CuR} {T : Nat → TsR} {rc : Nat → Nat} {tl : AmH} {zm : Nat → Int} {zl : Nat → Int} {fm fl : Nat → Int → Int} {tx : Nat} {n K pi_ len tr R ik p0 p1 t : Int} {bs : Int → Int → Int} {Rts : Int → RuT} (hN : N < 64) (I : IV N z f C T rc tl zm zl fm n K pi_ len tr 2 R ik p0 p1 t bs Rts) (u : 1 ≤ K) : agG N m_X11_text m_X12_text [.int (iz 1)] (cxW (Zx z n K pi_ len tr 2 R (tn p0 p1 t) ik) f C T rc tl) (cmH (Zm zm n K pi_ len tr 2 R ik) zl fm fl tx) := by
  obtain ⟨rvx, hx, kx, rx, nx, atx, prx, cox, cgx, Cx, Mx, rfl, rfl, qx0, qx1, qx2⟩ := x_text1_2 95 (Zx z n K pi_ len tr 2 R (tn p0 p1 t) ik) f C T rc tl n (f 2) (z 1 2) K (f 4) (z 7 0) (z 7 2) (f 8) I.hT ⟨u, I.hK.2⟩ I.hw I.hc7
  obtain ⟨rvm, hm, km, rm, nm, am, fam, Mm, pum, prrm, smm, rfl, rfl, qm0, qm1⟩ := m_text1 96 (Zm zm n K pi_ len tr 2 R ik) zl fm fl tx n (fm 1) (f 2) K 2 (fm 9) (fm 8) (fm 13) I.hT I.hMo ⟨u, I.hK.2⟩ ⟨by decide, by decide⟩
  have hK4 := I.hK.2
  rcases qx0 with ⟨a0, a1, a2, a3, a4⟩ | ⟨X, l, a0, a1, a2, a3, a4, a5⟩ <;> rcases qm0 with ⟨b0, b1, b2, b3, b4, b5, b6⟩ | ⟨b0, b1, b2, b3, b4, b5, b6, b7⟩
  · replace a1 := a1.symm; replace a2 := a2.symm; replace a3 := a3.symm; replace a4 := a4.symm; replace b1 := b1.symm; replace b2 := b2.symm; replace b3 := b3.symm; replace b4 := b4.symm; subst a1 a2 a3 a4 b1 b2 b3 b4
    exact ⟨iz ((-1)), _, _, 0, 0, 0, 0, kx, km, by omega, by omega, (u2 (u2 (u2 z 1 2 atx) 7 0 prx) 7 2 cox), (uf f 8 cgx), C, T, rc, tl, (u1 (u1 (u1 (u1 (u1 zm 0 0) 10 am) 11 fam) 8 0) 9 n), zl, (uf (uf (uf fm 13 (fm 13)) 8 prrm) 9 pum), fl, 1, n, K, pi_, len, tr, 2, R, ik, p0, p1, t, bs, Rts, rfl, rfl, ⟨I.hT, I.hMo, I.hg6, I.hK5, qx1, I.hK, I.hpi, I.hlen, I.htr, I.hw, I.hva, I.hop, I.hM, I.hMK, (cuA_cg I.hCA (fun c c0 c1 => b6 c c0 (by omega)) (fun c k c0 c1 k0 k1 => b5 (4 * c + k) (by omega) (by omega))), (cuB_cg I.hCB (fun c c0 c1 => b6 c c0 (by omega)) (fun c k c0 c1 k0 k1 => b5 (4 * c + k) (by omega) (by omega))), (cuM_cg I.hK.1 I.hcm (fun c c0 c1 => b6 c c0 (by omega)) (fun c k c0 c1 k0 k1 => b5 (4 * c + k) (by omega) (by omega))), I.hk0, I.hk1, I.hp1, I.hp0, I.hmt, I.hsv, I.hs0, (bd_n I.hst), I.hS, I.hTs, I.hgv, ⟨I.hmv.1, bd_n I.hmv.2⟩, I.hmk, I.hlt, I.htn, I.hb55, I.hb56, I.hb57, I.hR, I.hr0, I.hr1, I.hr2, I.hr3, I.hRU, I.hik, I.him⟩⟩
  · exact absurd b0 a0
  · exact absurd (congrArg Prod.fst a0) b0
  · obtain ⟨e1, e2⟩ := b4 prx l (congrArg Prod.snd a0)
    obtain ⟨g1, g2, g3, g4⟩ := cuP_in I.hT.1 a0
    have hX := a1 (fun k => pum (4 * 2 + k)) (fun k k0 k1 => e2 k k0 (by omega))
    rw [← e1] at hX
    have hq1 : ∀ c : Int, 0 ≤ c → c < 2 → prrm c = fm 8 c := fun c c0 c1 => b6 c c0 c1
    have hq2 : ∀ c k : Int, 0 ≤ c → c < 2 → 0 ≤ k → k < K → pum (4 * c + k) = fm 9 (4 * c + k) := fun c k c0 c1 k0 k1 => b5 (4 * c + k) (by omega) (by omega)
    have hA1 : cuA (uC C 2 X) (f 4) K (2 + 1) prrm (fun c k => pum (4 * c + k)) := cuA_add rfl (by decide) I.hCA hq1 hq2 ⟨hX.1, hX.2.1⟩
    have hB1 : cuB (uC C 2 X) (f 4) K (2 + 1) prrm (fun c k => pum (4 * c + k)) := cuB_add rfl I.hCB hq1 hq2 ⟨hX.2.2.1, hX.2.2.2⟩
    have hM1 : cuM K (2 + 1) pum prrm := cuM_add u I.hK.2 (by decide) I.hcm hq1 hq2 g1 e2 (by rw [e1]; exact ⟨g3, g4⟩)
    have hsv1 : ∀ i : Int, 0 ≤ i → i < 2 + 1 → iu (fm 13) 2 0 i = f 44 i := by
      intro i i0 i1
      by_cases e : i = 2
      · rw [e, iu_at]; exact (I.hs0 2 (by decide) (by decide)).symm
      · rw [iu_ne _ _ e]; exact I.hsv i i0 (by omega)
    replace a2 := a2.symm; replace a3 := a3.symm; replace a4 := a4.symm; replace a5 := a5.symm; replace b1 := b1.symm; replace b2 := b2.symm; replace b3 := b3.symm; replace b7 := b7.symm; subst a2 a3 a4 a5 b1 b2 b3 b7
    exact ⟨iz (2), _, _, 0, 0, 0, 0, kx, km, by omega, by omega, (u2 (u2 (u2 z 1 2 atx) 7 0 prx) 7 2 cox), (uf f 8 cgx), (uC C 2 X), T, rc, tl, (u1 (u1 (u1 (u1 (u1 zm 0 0) 10 am) 11 fam) 8 0) 9 n), zl, (uf (uf (uf fm 13 (iu (fm 13) 2 0)) 8 prrm) 9 pum), fl, 1, 0, K, pi_, len, tr, 3, R, ik, p0, p1, t, bs, Rts, rfl, rfl, ⟨⟨Int.le_refl 0, by decide, fun i i0 i1 => absurd i1 (by omega)⟩, ⟨by decide, by decide, fun i i0 i1 => absurd i1 (by omega)⟩, I.hg6, I.hK5, qx1, I.hK, I.hpi, I.hlen, I.htr, I.hw, I.hva, I.hop, ⟨by decide, by decide⟩, (fun _ => u), hA1, hB1, hM1, I.hk0, I.hk1, I.hp1, I.hp0, I.hmt, hsv1, (fun i i0 i1 => I.hs0 i (by omega) i1), (bd_n I.hst), I.hS, I.hTs, I.hgv, ⟨I.hmv.1, bd_n I.hmv.2⟩, I.hmk, I.hlt, I.htn, I.hb55, I.hb56, I.hb57, I.hR, I.hr0, I.hr1, I.hr2, I.hr3, I.hRU, I.hik, (fun q => ⟨(I.him q).1, (I.him q).2.1, fun j j0 j1 => (I.him q).2.2 j (by omega) j1⟩)⟩⟩
set_option maxRecDepth 100000 in
set_option maxHeartbeats 4000000 in
theorem agt_text1_3 {N : Nat} {z : Nat → Nat → Int} {f : Nat → Int → Int} {C : Nat → CuR} {T : Nat → TsR} {rc : Nat → Nat} {tl : AmH} {zm : Nat → Int} {zl : Nat → Int} {fm fl : Nat → Int → Int} {tx : Nat} {n K pi_ len tr R ik p0 p1 t : Int} {bs : Int → Int → Int} {Rts : Int → RuT} (hN : N < 64) (I : IV N z f C T rc tl zm zl fm n K pi_ len tr 3 R ik p0 p1 t bs Rts) (u : 1 ≤ K) : agG N m_X11_text m_X12_text [.int (iz 1)] (cxW (Zx z n K pi_ len tr 3 R (tn p0 p1 t) ik) f C T rc tl) (cmH (Zm zm n K pi_ len tr 3 R ik) zl fm fl tx) := by
  obtain ⟨rvx, hx, kx, rx, nx, atx, prx, cox, cgx, Cx, Mx, rfl, rfl, qx0, qx1, qx2⟩ := x_text1_3 95 (Zx z n K pi_ len tr 3 R (tn p0 p1 t) ik) f C T rc tl n (f 2) (z 1 2) K (f 4) (z 7 0) (z 7 2) (f 8) I.hT ⟨u, I.hK.2⟩ I.hw I.hc7
  obtain ⟨rvm, hm, km, rm, nm, am, fam, Mm, pum, prrm, smm, rfl, rfl, qm0, qm1⟩ := m_text1 96 (Zm zm n K pi_ len tr 3 R ik) zl fm fl tx n (fm 1) (f 2) K 3 (fm 9) (fm 8) (fm 13) I.hT I.hMo ⟨u, I.hK.2⟩ ⟨by decide, by decide⟩
  have hK4 := I.hK.2
  rcases qx0 with ⟨a0, a1, a2, a3, a4⟩ | ⟨X, l, a0, a1, a2, a3, a4, a5⟩ <;> rcases qm0 with ⟨b0, b1, b2, b3, b4, b5, b6⟩ | ⟨b0, b1, b2, b3, b4, b5, b6, b7⟩
  · replace a1 := a1.symm; replace a2 := a2.symm; replace a3 := a3.symm; replace a4 := a4.symm; replace b1 := b1.symm; replace b2 := b2.symm; replace b3 := b3.symm; replace b4 := b4.symm; subst a1 a2 a3 a4 b1 b2 b3 b4
    exact ⟨iz ((-1)), _, _, 0, 0, 0, 0, kx, km, by omega, by omega, (u2 (u2 (u2 z 1 2 atx) 7 0 prx) 7 2 cox), (uf f 8 cgx), C, T, rc, tl, (u1 (u1 (u1 (u1 (u1 zm 0 0) 10 am) 11 fam) 8 0) 9 n), zl, (uf (uf (uf fm 13 (fm 13)) 8 prrm) 9 pum), fl, 1, n, K, pi_, len, tr, 3, R, ik, p0, p1, t, bs, Rts, rfl, rfl, ⟨I.hT, I.hMo, I.hg6, I.hK5, qx1, I.hK, I.hpi, I.hlen, I.htr, I.hw, I.hva, I.hop, I.hM, I.hMK, (cuA_cg I.hCA (fun c c0 c1 => b6 c c0 (by omega)) (fun c k c0 c1 k0 k1 => b5 (4 * c + k) (by omega) (by omega))), (cuB_cg I.hCB (fun c c0 c1 => b6 c c0 (by omega)) (fun c k c0 c1 k0 k1 => b5 (4 * c + k) (by omega) (by omega))), (cuM_cg I.hK.1 I.hcm (fun c c0 c1 => b6 c c0 (by omega)) (fun c k c0 c1 k0 k1 => b5 (4 * c + k) (by omega) (by omega))), I.hk0, I.hk1, I.hp1, I.hp0, I.hmt, I.hsv, I.hs0, (bd_n I.hst), I.hS, I.hTs, I.hgv, ⟨I.hmv.1, bd_n I.hmv.2⟩, I.hmk, I.hlt, I.htn, I.hb55, I.hb56, I.hb57, I.hR, I.hr0, I.hr1, I.hr2, I.hr3, I.hRU, I.hik, I.him⟩⟩
  · exact absurd b0 a0
  · exact absurd (congrArg Prod.fst a0) b0
  · obtain ⟨e1, e2⟩ := b4 prx l (congrArg Prod.snd a0)
    obtain ⟨g1, g2, g3, g4⟩ := cuP_in I.hT.1 a0
    have hX := a1 (fun k => pum (4 * 3 + k)) (fun k k0 k1 => e2 k k0 (by omega))
    rw [← e1] at hX
    have hq1 : ∀ c : Int, 0 ≤ c → c < 3 → prrm c = fm 8 c := fun c c0 c1 => b6 c c0 c1
    have hq2 : ∀ c k : Int, 0 ≤ c → c < 3 → 0 ≤ k → k < K → pum (4 * c + k) = fm 9 (4 * c + k) := fun c k c0 c1 k0 k1 => b5 (4 * c + k) (by omega) (by omega)
    have hA1 : cuA (uC C 3 X) (f 4) K (3 + 1) prrm (fun c k => pum (4 * c + k)) := cuA_add rfl (by decide) I.hCA hq1 hq2 ⟨hX.1, hX.2.1⟩
    have hB1 : cuB (uC C 3 X) (f 4) K (3 + 1) prrm (fun c k => pum (4 * c + k)) := cuB_add rfl I.hCB hq1 hq2 ⟨hX.2.2.1, hX.2.2.2⟩
    have hM1 : cuM K (3 + 1) pum prrm := cuM_add u I.hK.2 (by decide) I.hcm hq1 hq2 g1 e2 (by rw [e1]; exact ⟨g3, g4⟩)
    have hsv1 : ∀ i : Int, 0 ≤ i → i < 3 + 1 → iu (fm 13) 3 0 i = f 44 i := by
      intro i i0 i1
      by_cases e : i = 3
      · rw [e, iu_at]; exact (I.hs0 3 (by decide) (by decide)).symm
      · rw [iu_ne _ _ e]; exact I.hsv i i0 (by omega)
    replace a2 := a2.symm; replace a3 := a3.symm; replace a4 := a4.symm; replace a5 := a5.symm; replace b1 := b1.symm; replace b2 := b2.symm; replace b3 := b3.symm; replace b7 := b7.symm; subst a2 a3 a4 a5 b1 b2 b3 b7
    exact ⟨iz (3), _, _, 0, 0, 0, 0, kx, km, by omega, by omega, (u2 (u2 (u2 z 1 2 atx) 7 0 prx) 7 2 cox), (uf f 8 cgx), (uC C 3 X), T, rc, tl, (u1 (u1 (u1 (u1 (u1 zm 0 0) 10 am) 11 fam) 8 0) 9 n), zl, (uf (uf (uf fm 13 (iu (fm 13) 3 0)) 8 prrm) 9 pum), fl, 1, 0, K, pi_, len, tr, 4, R, ik, p0, p1, t, bs, Rts, rfl, rfl, ⟨⟨Int.le_refl 0, by decide, fun i i0 i1 => absurd i1 (by omega)⟩, ⟨by decide, by decide, fun i i0 i1 => absurd i1 (by omega)⟩, I.hg6, I.hK5, qx1, I.hK, I.hpi, I.hlen, I.htr, I.hw, I.hva, I.hop, ⟨by decide, by decide⟩, (fun _ => u), hA1, hB1, hM1, I.hk0, I.hk1, I.hp1, I.hp0, I.hmt, hsv1, (fun i i0 i1 => I.hs0 i (by omega) i1), (bd_n I.hst), I.hS, I.hTs, I.hgv, ⟨I.hmv.1, bd_n I.hmv.2⟩, I.hmk, I.hlt, I.htn, I.hb55, I.hb56, I.hb57, I.hR, I.hr0, I.hr1, I.hr2, I.hr3, I.hRU, I.hik, (fun q => ⟨(I.him q).1, (I.him q).2.1, fun j j0 j1 => (I.him q).2.2 j (by omega) j1⟩)⟩⟩
set_option maxRecDepth 100000 in
set_option maxHeartbeats 4000000 in
theorem agt_text2F {N : Nat} {z : Nat → Nat → Int} {f : Nat → Int → Int} {C : Nat → CuR} {T : Nat → TsR} {rc : Nat → Nat} {tl : AmH} {zm : Nat → Int} {zl : Nat → Int} {fm fl : Nat → Int → Int} {tx : Nat} {n K pi_ len tr M ik p0 p1 t : Int} {bs : Int → Int → Int} {Rts : Int → RuT} (hN : N < 64) (I : IV N z f C T rc tl zm zl fm n K pi_ len tr M 4 ik p0 p1 t bs Rts) (Rt : RuT) (hRt : Rt = ruleL n (f 2) 161 0) : agG N m_X11_text m_X12_text [.int (iz 2)] (cxW (Zx z n K pi_ len tr M 4 (tn p0 p1 t) ik) f C T rc tl) (cmH (Zm zm n K pi_ len tr M 4 ik) zl fm fl tx) := by
  obtain ⟨rvx, hx, kx, atx, szx, cdx, rfl, rfl, qx0⟩ := x_text2F 64 (Zx z n K pi_ len tr M 4 (tn p0 p1 t) ik) f C T rc tl n (f 2) (z 1 2) (z 12 1) (f 13) Rt I.hT hRt
  obtain ⟨rvm, hm, km, rfl, rfl⟩ := m_text2F 99 (Zm zm n K pi_ len tr M 4 ik) zl fm fl tx  
  exact ⟨iz ((-1)), _, _, 0, 0, 0, 0, kx, km, by omega, by omega, (u2 (u2 z 1 2 atx) 12 1 szx), (uf f 13 cdx), C, T, rc, tl, (u1 zm 0 0), zl, fm, fl, tx, n, K, pi_, len, tr, M, 4, ik, p0, p1, t, bs, Rts, rfl, rfl, ⟨I.hT, I.hMo, I.hg6, I.hK5, I.hc7, I.hK, I.hpi, I.hlen, I.htr, I.hw, I.hva, I.hop, I.hM, I.hMK, I.hCA, I.hCB, I.hcm, I.hk0, I.hk1, I.hp1, I.hp0, I.hmt, I.hsv, I.hs0, (bd_n I.hst), I.hS, I.hTs, I.hgv, ⟨I.hmv.1, bd_n I.hmv.2⟩, I.hmk, I.hlt, I.htn, I.hb55, I.hb56, I.hb57, I.hR, I.hr0, I.hr1, I.hr2, I.hr3, I.hRU, I.hik, I.him⟩⟩
set_option maxRecDepth 100000 in
set_option maxHeartbeats 4000000 in
theorem agt_text2N {N : Nat} {z : Nat → Nat → Int} {f : Nat → Int → Int} {C : Nat → CuR} {T : Nat → TsR} {rc : Nat → Nat} {tl : AmH} {zm : Nat → Int} {zl : Nat → Int} {fm fl : Nat → Int → Int} {tx : Nat} {n K pi_ len tr M R ik p0 p1 t : Int} {bs : Int → Int → Int} {Rts : Int → RuT} (hN : N < 64) (I : IV N z f C T rc tl zm zl fm n K pi_ len tr M R ik p0 p1 t bs Rts) (Rt : RuT) (hRt : Rt = ruleL n (f 2) 161 0) (hY : ¬ (Rt.1 = true ∧ sg n (f 2) Rt.2.1 = -1)) (hR4 : R < 4) : agG N m_X11_text m_X12_text [.int (iz 2)] (cxW (Zx z n K pi_ len tr M R (tn p0 p1 t) ik) f C T rc tl) (cmH (Zm zm n K pi_ len tr M R ik) zl fm fl tx) := by
  obtain ⟨rvx, hx, kx, atx, szx, cdx, rfl, rfl, qx0⟩ := x_text2N 64 (Zx z n K pi_ len tr M R (tn p0 p1 t) ik) f C T rc tl n (f 2) (z 1 2) (z 12 1) (f 13) Rt I.hT hRt hY
  obtain ⟨rvm, hm, km, rm, nm, am, fam, dpm, ansm, worm, Rm, tx2m, tlsm, rfl, rfl, qm0, qm1⟩ := m_text2 69 (Zm zm n K pi_ len tr M R ik) zl fm fl tx n (fm 1) (f 2) R (fm 2) (fm 3) (fm 4) Rt I.hT I.hMo I.hlt hRt ⟨I.hR.1, hR4⟩
  rcases qm0 with ⟨b0, b1, b2, b3, b4, b5⟩ | ⟨b0, -⟩
  · replace b1 := b1.symm; replace b2 := b2.symm; replace b3 := b3.symm; replace b4 := b4.symm; replace b5 := b5.symm; subst b1 b2 b3 b4 b5
    exact ⟨iz ((-1)), _, _, 0, 0, 0, 0, kx, km, by omega, by omega, (u2 (u2 z 1 2 atx) 12 1 szx), (uf f 13 cdx), C, T, rc, tl, (u1 (u1 (u1 (u1 (u1 (u1 (u1 (u1 (u1 zm 0 0) 10 am) 11 fam) 12 dpm) 13 121) 14 worm) 17 ansm) 8 0) 9 n), zl, (uf (uf fm 2 (fm 2)) 3 (fm 3)), fl, 1, n, K, pi_, len, tr, M, R, ik, p0, p1, t, bs, Rts, rfl, rfl, ⟨I.hT, I.hMo, I.hg6, I.hK5, I.hc7, I.hK, I.hpi, I.hlen, I.htr, I.hw, I.hva, I.hop, I.hM, I.hMK, I.hCA, I.hCB, I.hcm, I.hk0, I.hk1, I.hp1, I.hp0, I.hmt, I.hsv, I.hs0, (bd_n I.hst), I.hS, I.hTs, I.hgv, ⟨I.hmv.1, bd_n I.hmv.2⟩, I.hmk, I.hlt, I.htn, I.hb55, I.hb56, I.hb57, I.hR, I.hr0, I.hr1, I.hr2, I.hr3, I.hRU, I.hik, I.him⟩⟩
  · exact absurd b0 hY
set_option maxRecDepth 100000 in
set_option maxHeartbeats 4000000 in
theorem agt_text2T_0 {N : Nat} {z : Nat → Nat → Int} {f : Nat → Int → Int} {C : Nat → CuR} {T : Nat → TsR} {rc : Nat → Nat} {tl : AmH} {zm : Nat → Int} {zl : Nat → Int} {fm fl : Nat → Int → Int} {tx : Nat} {n K pi_ len tr M ik p0 p1 t : Int} {bs : Int → Int → Int} {Rts : Int → RuT} (hN : N < 64) (I : IV N z f C T rc tl zm zl fm n K pi_ len tr M 0 ik p0 p1 t bs Rts) (Rt : RuT) (hRt : Rt = ruleL n (f 2) 161 0) (hY : Rt.1 = true ∧ sg n (f 2) Rt.2.1 = -1) : agG N m_X11_text m_X12_text [.int (iz 2)] (cxW (Zx z n K pi_ len tr M 0 (tn p0 p1 t) ik) f C T rc tl) (cmH (Zm zm n K pi_ len tr M 0 ik) zl fm fl tx) := by
  obtain ⟨atx, szx, cdx, t1, t2, t3, t4, kx⟩ := x_text2T0 63 (Zx z n K pi_ len tr M 0 (tn p0 p1 t) ik) f C T rc tl n (f 2) (z 1 2) (z 12 1) (f 13) Rt I.hT hRt hY
  obtain ⟨rvm, hm, km, rm, nm, am, fam, dpm, ansm, worm, Rm, tx2m, tlsm, rfl, rfl, qm0, qm1⟩ := m_text2 69 (Zm zm n K pi_ len tr M 0 ik) zl fm fl tx n (fm 1) (f 2) 0 (fm 2) (fm 3) (fm 4) Rt I.hT I.hMo I.hlt hRt ⟨by decide, by decide⟩
  rcases qm0 with ⟨b0, -⟩ | ⟨b0, b1, b2, b3, b4, b5, b6⟩
  · exact absurd hY b0
  · have hRU1 : ∀ i : Int, 0 ≤ i → i < 1 → ruM tx2m (iu (fm 3) 0 n) i (uQ bs 0 (f 2) i) (uQ Rts 0 Rt i) ∧ ruV (fun L => fnd L (uQ Rts 0 Rt i).2.2.2) (uQ Rts 0 Rt i).2.2.1 := by
      intro i i0 i1
      by_cases e : i = 0
      · subst e
        rw [uQ_at, uQ_at]
        exact ⟨ruM_new I.hT b4 hRt hY, by rw [hRt]; exact ruleL_V (by rw [← hRt]; exact hY.1)⟩
      · rw [uQ_ne _ _ e, uQ_ne _ _ e]
        exact ⟨ruM_old (I.hRU i i0 (by omega)).1 i0 (by omega) b5, (I.hRU i i0 (by omega)).2⟩
    replace b1 := b1.symm; replace b2 := b2.symm; replace b3 := b3.symm; replace b6 := b6.symm; subst b1 b2 b3 b6
    exact ⟨iz (0), _, _, 1, szx.toNat, 0, 0, kx, km, by omega, by omega, (u2 (u2 (u2 z 1 2 atx) 12 1 szx) 36 1 szx), (uf f 13 cdx), C, T, (ur rc 36 (tl.length + 98)), (tl ++ [.inl (.int, szx.toNat, .inl (av (cpI cdx (fun _ => 0) szx.toNat)))]), (u1 (u1 (u1 (u1 (u1 (u1 (u1 (u1 (u1 zm 0 0) 10 am) 11 fam) 12 dpm) 13 121) 14 worm) 17 ansm) 8 0) 9 n), zl, (uf (uf fm 2 tx2m) 3 (iu (fm 3) 0 n)), fl, 1, 0, K, pi_, len, tr, M, 1, ik, p0, p1, t, (uQ bs 0 (f 2)), (uQ Rts 0 Rt), rfl, rfl, ⟨⟨Int.le_refl 0, by decide, fun i i0 i1 => absurd i1 (by omega)⟩, ⟨by decide, by decide, fun i i0 i1 => absurd i1 (by omega)⟩, I.hg6, I.hK5, I.hc7, I.hK, I.hpi, I.hlen, I.htr, I.hw, I.hva, I.hop, I.hM, I.hMK, I.hCA, I.hCB, I.hcm, I.hk0, I.hk1, I.hp1, I.hp0, I.hmt, I.hsv, I.hs0, (bd_n I.hst), I.hS, I.hTs, I.hgv, ⟨I.hmv.1, bd_n I.hmv.2⟩, I.hmk, I.hlt, I.htn, I.hb55, I.hb56, I.hb57, ⟨by decide, by decide⟩, (fun _ => by rw [uQ_at]; exact ruC_new hRt hY.1 t2.1 t2.2 t3 t4), (fun q => absurd q (by decide)), (fun q => absurd q (by decide)), (fun q => absurd q (by decide)), hRU1, I.hik, I.him⟩⟩
set_option maxRecDepth 100000 in
set_option maxHeartbeats 4000000 in
theorem agt_text2T_1 {N : Nat} {z : Nat → Nat → Int} {f : Nat → Int → Int} {C : Nat → CuR} {T : Nat → TsR} {rc : Nat → Nat} {tl : AmH} {zm : Nat → Int} {zl : Nat → Int} {fm fl : Nat → Int → Int} {tx : Nat} {n K pi_ len tr M ik p0 p1 t : Int} {bs : Int → Int → Int} {Rts : Int → RuT} (hN : N < 64) (I : IV N z f C T rc tl zm zl fm n K pi_ len tr M 1 ik p0 p1 t bs Rts) (Rt : RuT) (hRt : Rt = ruleL n (f 2) 161 0) (hY : Rt.1 = true ∧ sg n (f 2) Rt.2.1 = -1) : agG N m_X11_text m_X12_text [.int (iz 2)] (cxW (Zx z n K pi_ len tr M 1 (tn p0 p1 t) ik) f C T rc tl) (cmH (Zm zm n K pi_ len tr M 1 ik) zl fm fl tx) := by
  obtain ⟨atx, szx, cdx, t1, t2, t3, t4, kx⟩ := x_text2T1 63 (Zx z n K pi_ len tr M 1 (tn p0 p1 t) ik) f C T rc tl n (f 2) (z 1 2) (z 12 1) (f 13) Rt I.hT hRt hY
  obtain ⟨rvm, hm, km, rm, nm, am, fam, dpm, ansm, worm, Rm, tx2m, tlsm, rfl, rfl, qm0, qm1⟩ := m_text2 69 (Zm zm n K pi_ len tr M 1 ik) zl fm fl tx n (fm 1) (f 2) 1 (fm 2) (fm 3) (fm 4) Rt I.hT I.hMo I.hlt hRt ⟨by decide, by decide⟩
  rcases qm0 with ⟨b0, -⟩ | ⟨b0, b1, b2, b3, b4, b5, b6⟩
  · exact absurd hY b0
  · have hRU1 : ∀ i : Int, 0 ≤ i → i < 2 → ruM tx2m (iu (fm 3) 1 n) i (uQ bs 1 (f 2) i) (uQ Rts 1 Rt i) ∧ ruV (fun L => fnd L (uQ Rts 1 Rt i).2.2.2) (uQ Rts 1 Rt i).2.2.1 := by
      intro i i0 i1
      by_cases e : i = 1
      · subst e
        rw [uQ_at, uQ_at]
        exact ⟨ruM_new I.hT b4 hRt hY, by rw [hRt]; exact ruleL_V (by rw [← hRt]; exact hY.1)⟩
      · rw [uQ_ne _ _ e, uQ_ne _ _ e]
        exact ⟨ruM_old (I.hRU i i0 (by omega)).1 i0 (by omega) b5, (I.hRU i i0 (by omega)).2⟩
    replace b1 := b1.symm; replace b2 := b2.symm; replace b3 := b3.symm; replace b6 := b6.symm; subst b1 b2 b3 b6
    exact ⟨iz (1), _, _, 1, szx.toNat, 0, 0, kx, km, by omega, by omega, (u2 (u2 (u2 z 1 2 atx) 12 1 szx) 38 1 szx), (uf f 13 cdx), C, T, (ur rc 38 (tl.length + 98)), (tl ++ [.inl (.int, szx.toNat, .inl (av (cpI cdx (fun _ => 0) szx.toNat)))]), (u1 (u1 (u1 (u1 (u1 (u1 (u1 (u1 (u1 zm 0 0) 10 am) 11 fam) 12 dpm) 13 121) 14 worm) 17 ansm) 8 0) 9 n), zl, (uf (uf fm 2 tx2m) 3 (iu (fm 3) 1 n)), fl, 1, 0, K, pi_, len, tr, M, 2, ik, p0, p1, t, (uQ bs 1 (f 2)), (uQ Rts 1 Rt), rfl, rfl, ⟨⟨Int.le_refl 0, by decide, fun i i0 i1 => absurd i1 (by omega)⟩, ⟨by decide, by decide, fun i i0 i1 => absurd i1 (by omega)⟩, I.hg6, I.hK5, I.hc7, I.hK, I.hpi, I.hlen, I.htr, I.hw, I.hva, I.hop, I.hM, I.hMK, I.hCA, I.hCB, I.hcm, I.hk0, I.hk1, I.hp1, I.hp0, I.hmt, I.hsv, I.hs0, (bd_n I.hst), I.hS, I.hTs, I.hgv, ⟨I.hmv.1, bd_n I.hmv.2⟩, I.hmk, I.hlt, I.htn, I.hb55, I.hb56, I.hb57, ⟨by decide, by decide⟩, (fun _ => by rw [uQ_ne _ _ (by decide)]; exact ruC_app _ (I.hr0 (by decide))), (fun _ => by rw [uQ_at]; exact ruC_new hRt hY.1 t2.1 t2.2 t3 t4), (fun q => absurd q (by decide)), (fun q => absurd q (by decide)), hRU1, I.hik, I.him⟩⟩
set_option maxRecDepth 100000 in
set_option maxHeartbeats 4000000 in
theorem agt_text2T_2 {N : Nat} {z : Nat → Nat → Int} {f : Nat → Int → Int} {C : Nat → CuR} {T : Nat → TsR} {rc : Nat → Nat} {tl : AmH} {zm : Nat → Int} {zl : Nat → Int} {fm fl : Nat → Int → Int} {tx : Nat} {n K pi_ len tr M ik p0 p1 t : Int} {bs : Int → Int → Int} {Rts : Int → RuT} (hN : N < 64) (I : IV N z f C T rc tl zm zl fm n K pi_ len tr M 2 ik p0 p1 t bs Rts) (Rt : RuT) (hRt : Rt = ruleL n (f 2) 161 0) (hY : Rt.1 = true ∧ sg n (f 2) Rt.2.1 = -1) : agG N m_X11_text m_X12_text [.int (iz 2)] (cxW (Zx z n K pi_ len tr M 2 (tn p0 p1 t) ik) f C T rc tl) (cmH (Zm zm n K pi_ len tr M 2 ik) zl fm fl tx) := by
  obtain ⟨atx, szx, cdx, t1, t2, t3, t4, kx⟩ := x_text2T2 63 (Zx z n K pi_ len tr M 2 (tn p0 p1 t) ik) f C T rc tl n (f 2) (z 1 2) (z 12 1) (f 13) Rt I.hT hRt hY
  obtain ⟨rvm, hm, km, rm, nm, am, fam, dpm, ansm, worm, Rm, tx2m, tlsm, rfl, rfl, qm0, qm1⟩ := m_text2 69 (Zm zm n K pi_ len tr M 2 ik) zl fm fl tx n (fm 1) (f 2) 2 (fm 2) (fm 3) (fm 4) Rt I.hT I.hMo I.hlt hRt ⟨by decide, by decide⟩
  rcases qm0 with ⟨b0, -⟩ | ⟨b0, b1, b2, b3, b4, b5, b6⟩
  · exact absurd hY b0
  · have hRU1 : ∀ i : Int, 0 ≤ i → i < 3 → ruM tx2m (iu (fm 3) 2 n) i (uQ bs 2 (f 2) i) (uQ Rts 2 Rt i) ∧ ruV (fun L => fnd L (uQ Rts 2 Rt i).2.2.2) (uQ Rts 2 Rt i).2.2.1 := by
      intro i i0 i1
      by_cases e : i = 2
      · subst e
        rw [uQ_at, uQ_at]
        exact ⟨ruM_new I.hT b4 hRt hY, by rw [hRt]; exact ruleL_V (by rw [← hRt]; exact hY.1)⟩
      · rw [uQ_ne _ _ e, uQ_ne _ _ e]
        exact ⟨ruM_old (I.hRU i i0 (by omega)).1 i0 (by omega) b5, (I.hRU i i0 (by omega)).2⟩
    replace b1 := b1.symm; replace b2 := b2.symm; replace b3 := b3.symm; replace b6 := b6.symm; subst b1 b2 b3 b6
    exact ⟨iz (2), _, _, 1, szx.toNat, 0, 0, kx, km, by omega, by omega, (u2 (u2 (u2 z 1 2 atx) 12 1 szx) 40 1 szx), (uf f 13 cdx), C, T, (ur rc 40 (tl.length + 98)), (tl ++ [.inl (.int, szx.toNat, .inl (av (cpI cdx (fun _ => 0) szx.toNat)))]), (u1 (u1 (u1 (u1 (u1 (u1 (u1 (u1 (u1 zm 0 0) 10 am) 11 fam) 12 dpm) 13 121) 14 worm) 17 ansm) 8 0) 9 n), zl, (uf (uf fm 2 tx2m) 3 (iu (fm 3) 2 n)), fl, 1, 0, K, pi_, len, tr, M, 3, ik, p0, p1, t, (uQ bs 2 (f 2)), (uQ Rts 2 Rt), rfl, rfl, ⟨⟨Int.le_refl 0, by decide, fun i i0 i1 => absurd i1 (by omega)⟩, ⟨by decide, by decide, fun i i0 i1 => absurd i1 (by omega)⟩, I.hg6, I.hK5, I.hc7, I.hK, I.hpi, I.hlen, I.htr, I.hw, I.hva, I.hop, I.hM, I.hMK, I.hCA, I.hCB, I.hcm, I.hk0, I.hk1, I.hp1, I.hp0, I.hmt, I.hsv, I.hs0, (bd_n I.hst), I.hS, I.hTs, I.hgv, ⟨I.hmv.1, bd_n I.hmv.2⟩, I.hmk, I.hlt, I.htn, I.hb55, I.hb56, I.hb57, ⟨by decide, by decide⟩, (fun _ => by rw [uQ_ne _ _ (by decide)]; exact ruC_app _ (I.hr0 (by decide))), (fun _ => by rw [uQ_ne _ _ (by decide)]; exact ruC_app _ (I.hr1 (by decide))), (fun _ => by rw [uQ_at]; exact ruC_new hRt hY.1 t2.1 t2.2 t3 t4), (fun q => absurd q (by decide)), hRU1, I.hik, I.him⟩⟩
set_option maxRecDepth 100000 in
set_option maxHeartbeats 4000000 in
theorem agt_text2T_3 {N : Nat} {z : Nat → Nat → Int} {f : Nat → Int → Int} {C : Nat → CuR} {T : Nat → TsR} {rc : Nat → Nat} {tl : AmH} {zm : Nat → Int} {zl : Nat → Int} {fm fl : Nat → Int → Int} {tx : Nat} {n K pi_ len tr M ik p0 p1 t : Int} {bs : Int → Int → Int} {Rts : Int → RuT} (hN : N < 64) (I : IV N z f C T rc tl zm zl fm n K pi_ len tr M 3 ik p0 p1 t bs Rts) (Rt : RuT) (hRt : Rt = ruleL n (f 2) 161 0) (hY : Rt.1 = true ∧ sg n (f 2) Rt.2.1 = -1) : agG N m_X11_text m_X12_text [.int (iz 2)] (cxW (Zx z n K pi_ len tr M 3 (tn p0 p1 t) ik) f C T rc tl) (cmH (Zm zm n K pi_ len tr M 3 ik) zl fm fl tx) := by
  obtain ⟨atx, szx, cdx, t1, t2, t3, t4, kx⟩ := x_text2T3 63 (Zx z n K pi_ len tr M 3 (tn p0 p1 t) ik) f C T rc tl n (f 2) (z 1 2) (z 12 1) (f 13) Rt I.hT hRt hY
  obtain ⟨rvm, hm, km, rm, nm, am, fam, dpm, ansm, worm, Rm, tx2m, tlsm, rfl, rfl, qm0, qm1⟩ := m_text2 69 (Zm zm n K pi_ len tr M 3 ik) zl fm fl tx n (fm 1) (f 2) 3 (fm 2) (fm 3) (fm 4) Rt I.hT I.hMo I.hlt hRt ⟨by decide, by decide⟩
  rcases qm0 with ⟨b0, -⟩ | ⟨b0, b1, b2, b3, b4, b5, b6⟩
  · exact absurd hY b0
  · have hRU1 : ∀ i : Int, 0 ≤ i → i < 4 → ruM tx2m (iu (fm 3) 3 n) i (uQ bs 3 (f 2) i) (uQ Rts 3 Rt i) ∧ ruV (fun L => fnd L (uQ Rts 3 Rt i).2.2.2) (uQ Rts 3 Rt i).2.2.1 := by
      intro i i0 i1
      by_cases e : i = 3
      · subst e
        rw [uQ_at, uQ_at]
        exact ⟨ruM_new I.hT b4 hRt hY, by rw [hRt]; exact ruleL_V (by rw [← hRt]; exact hY.1)⟩
      · rw [uQ_ne _ _ e, uQ_ne _ _ e]
        exact ⟨ruM_old (I.hRU i i0 (by omega)).1 i0 (by omega) b5, (I.hRU i i0 (by omega)).2⟩
    replace b1 := b1.symm; replace b2 := b2.symm; replace b3 := b3.symm; replace b6 := b6.symm; subst b1 b2 b3 b6
    exact ⟨iz (3), _, _, 1, szx.toNat, 0, 0, kx, km, by omega, by omega, (u2 (u2 (u2 z 1 2 atx) 12 1 szx) 42 1 szx), (uf f 13 cdx), C, T, (ur rc 42 (tl.length + 98)), (tl ++ [.inl (.int, szx.toNat, .inl (av (cpI cdx (fun _ => 0) szx.toNat)))]), (u1 (u1 (u1 (u1 (u1 (u1 (u1 (u1 (u1 zm 0 0) 10 am) 11 fam) 12 dpm) 13 121) 14 worm) 17 ansm) 8 0) 9 n), zl, (uf (uf fm 2 tx2m) 3 (iu (fm 3) 3 n)), fl, 1, 0, K, pi_, len, tr, M, 4, ik, p0, p1, t, (uQ bs 3 (f 2)), (uQ Rts 3 Rt), rfl, rfl, ⟨⟨Int.le_refl 0, by decide, fun i i0 i1 => absurd i1 (by omega)⟩, ⟨by decide, by decide, fun i i0 i1 => absurd i1 (by omega)⟩, I.hg6, I.hK5, I.hc7, I.hK, I.hpi, I.hlen, I.htr, I.hw, I.hva, I.hop, I.hM, I.hMK, I.hCA, I.hCB, I.hcm, I.hk0, I.hk1, I.hp1, I.hp0, I.hmt, I.hsv, I.hs0, (bd_n I.hst), I.hS, I.hTs, I.hgv, ⟨I.hmv.1, bd_n I.hmv.2⟩, I.hmk, I.hlt, I.htn, I.hb55, I.hb56, I.hb57, ⟨by decide, by decide⟩, (fun _ => by rw [uQ_ne _ _ (by decide)]; exact ruC_app _ (I.hr0 (by decide))), (fun _ => by rw [uQ_ne _ _ (by decide)]; exact ruC_app _ (I.hr1 (by decide))), (fun _ => by rw [uQ_ne _ _ (by decide)]; exact ruC_app _ (I.hr2 (by decide))), (fun _ => by rw [uQ_at]; exact ruC_new hRt hY.1 t2.1 t2.2 t3 t4), hRU1, I.hik, I.him⟩⟩
set_option maxRecDepth 100000 in
set_option maxHeartbeats 4000000 in
theorem ag_text (N : Nat) (hN : N < 64) : ∀ y1 : Int32, ln_AgI (Inv N) (Inv (N + 1)) m_X11_text m_X12_text [.int (y1)] := by
  intro y1 hx hm hI
  obtain ⟨e1, he1, rfl⟩ := iz_ex y1
  obtain ⟨z, f, C, T, rc, tl, zm, zl, fm, fl, tx, n, K, pi_, len, tr, M, R, ik, p0, p1, t, bs, Rts, rfl, rfl, I⟩ := hI
  rcases (show e1 = 0 ∨ e1 = 1 ∨ e1 = 2 ∨ ¬ (0 ≤ e1 ∧ e1 ≤ 2) by omega) with q | q | q | q
  · subst q
    exact agt_text0 hN I
  · subst q
    rcases (show (K = 0 ∨ M = 4) ∨ (1 ≤ K ∧ (M = 0 ∨ M = 1 ∨ M = 2 ∨ M = 3)) by have := I.hK; have := I.hM; omega) with u | ⟨u, v | v | v | v⟩
    · exact agt_text1F hN I u
    · subst v; exact agt_text1_0 hN I u
    · subst v; exact agt_text1_1 hN I u
    · subst v; exact agt_text1_2 hN I u
    · subst v; exact agt_text1_3 hN I u
  · subst q
    obtain ⟨Rt, hRt⟩ : ∃ Rt : RuT, Rt = ruleL n (f 2) 161 0 := ⟨_, rfl⟩
    rcases (show R = 4 ∨ R < 4 by have := I.hR; omega) with v | v
    · subst v; exact agt_text2F hN I Rt hRt
    · by_cases hY : Rt.1 = true ∧ sg n (f 2) Rt.2.1 = -1
      · rcases (show R = 0 ∨ R = 1 ∨ R = 2 ∨ R = 3 by have := I.hR; omega) with v | v | v | v
        · subst v; exact agt_text2T_0 hN I Rt hRt hY
        · subst v; exact agt_text2T_1 hN I Rt hRt hY
        · subst v; exact agt_text2T_2 hN I Rt hRt hY
        · subst v; exact agt_text2T_3 hN I Rt hRt hY
      · exact agt_text2N hN I Rt hRt hY v
  · exact agt_textD e1 he1 hN I q

/-! class and model agree: lay, lift, serve, image, back, change, amounts, end, feed (printed by wip/whole/genag2.py) -/
theorem layR_uq {K pi len tr p0 p1 t k wh r q0 q1 s r' q0' q1' s' : Int} (h : layR K pi len tr p0 p1 t k wh r q0 q1 s) (h' : layR K pi len tr p0 p1 t k wh r' q0' q1' s') : r' = r ∧ q0 = q0' ∧ q1 = q1' ∧ s = s' := by
  unfold layR at h h'
  omega
theorem layR_ok {K pi len tr p0 p1 t k wh r q0 q1 s : Int} (h : layR K pi len tr p0 p1 t k wh r q0 q1 s) (hK : K ≤ 4) (h5 : len ≤ 5) (h0 : okP K len p0) (h1 : okP K len p1) (hp1 : pi ≤ 1 → p1 = 0) (hp0 : pi ≤ 0 → p0 = 0) : okP K len q0 ∧ okP K len q1 ∧ (pi ≤ 1 → q1 = 0) ∧ (pi ≤ 0 → q0 = 0) := by
  rcases h with ⟨-, k0, k1, h⟩ | ⟨-, rfl, rfl, rfl, -⟩
  · rcases h with ⟨-, -, -, rfl, rfl, rfl⟩ | ⟨-, b1, b2, rfl, rfl, rfl⟩ | ⟨-, b1, b2, rfl, rfl, rfl⟩
    · exact ⟨h0, h1, hp1, hp0⟩
    · exact ⟨okP_push h0 b2 h5 (by omega) (by omega) hK, h1, hp1, fun q => by omega⟩
    · exact ⟨h0, okP_push h1 b2 h5 (by omega) (by omega) hK, fun q => by omega, hp0⟩
  · exact ⟨h0, h1, hp1, hp0⟩
theorem lifR_uq {pi p0 p1 k r q0 q1 r' q0' q1' : Int} (h : lifR pi p0 p1 k r q0 q1) (h' : lifR pi p0 p1 k r' q0' q1') : r' = r ∧ q0 = q0' ∧ q1 = q1' := by
  unfold lifR at h h'
  omega
theorem okP_div {K len p : Int} (h : okP K len p) : okP K len (p / 5) := by
  obtain ⟨h0, m, h5, h1, h2⟩ := h
  cases m with
  | zero => rw [show p = 0 from h1]; exact ⟨by omega, 0, by omega, rfl, by omega⟩
  | succ m => exact ⟨by omega, m, by omega, h1.2.2, by omega⟩
theorem lifR_ok {K len pi p0 p1 k r q0 q1 : Int} (h : lifR pi p0 p1 k r q0 q1) (h0 : okP K len p0) (h1 : okP K len p1) (hp1 : pi ≤ 1 → p1 = 0) (hp0 : pi ≤ 0 → p0 = 0) : okP K len q0 ∧ okP K len q1 ∧ (pi ≤ 1 → q1 = 0) ∧ (pi ≤ 0 → q0 = 0) := by
  rcases h with ⟨_, b1, b2, _, rfl, rfl⟩ | ⟨_, b1, b2, _, rfl, rfl⟩ | ⟨_, _, rfl, rfl⟩
  · exact ⟨okP_div h0, h1, hp1, fun q => by omega⟩
  · exact ⟨h0, okP_div h1, fun q => by omega, hp0⟩
  · exact ⟨h0, h1, hp1, hp0⟩
theorem tn_inj {p0 p1 t q0 q1 s : Int} (e : tn p0 p1 t = tn q0 q1 s) (a0 : 0 ≤ p1 ∧ p1 < 3125) (a1 : 0 ≤ t ∧ t ≤ 4) (b0 : 0 ≤ q1 ∧ q1 < 3125) (b1 : 0 ≤ s ∧ s ≤ 4) : p0 = q0 ∧ p1 = q1 := by
  have x := tn_0 (p0 := p0) a0.1 a0.2 a1.1 a1.2
  have y := tn_0 (p0 := q0) b0.1 b0.2 b1.1 b1.2
  rw [e] at x
  exact ⟨x.1.symm.trans y.1, x.2.1.symm.trans y.2.1⟩
theorem vT_ok {K len pi p0 p1 t : Int} (hK : K ≤ 4) (h : vT K len pi (tn p0 p1 t)) (a0 : 0 ≤ p1 ∧ p1 < 3125) (a1 : 0 ≤ t ∧ t ≤ 4) : okP K len p0 ∧ okP K len p1 ∧ (pi = 1 → p1 = 0) := by
  obtain ⟨q0, q1, s, e, k0, k1, s0, s1, hp⟩ := h
  have b := okP_b k1
  obtain ⟨rfl, rfl⟩ := tn_inj e a0 a1 ⟨b.1, b.2.1⟩ ⟨s0, by omega⟩
  exact ⟨k0, k1, hp⟩
theorem srN_noM {R : Int → Prop} {n : Int} {g : Int → Int} (h : srN R n g) : ¬ tooM 1000 R := tooM_no (S := lsI n.toNat g) (fun v hv => (h.2.2.2 v).mpr hv) (by rw [lsI_len]; have := h.2.1; omega)
set_option maxRecDepth 100000 in
set_option maxHeartbeats 4000000 in
theorem ag_lay (N : Nat) (hN : N < 64) : ∀ y1 y2 : Int32, ln_AgI (Inv N) (Inv (N + 1)) m_X11_lay m_X12_lay [.int (y1), .int (y2)] := by
  intro y1 y2 hx hm hI
  obtain ⟨e1, he1, rfl⟩ := iz_ex y1
  obtain ⟨e2, he2, rfl⟩ := iz_ex y2
  obtain ⟨z, f, C, T, rc, tl, zm, zl, fm, fl, tx, n, K, pi_, len, tr, M, R, ik, p0, p1, t, bs, Rts, rfl, rfl, I⟩ := hI
  obtain ⟨rvx, hx, kx, rx, sdx, q0x, q1x, sx, rfl, rfl, qx0, qx1⟩ := x_lay 98 (Zx z n K pi_ len tr M R (tn p0 p1 t) ik) f C T rc tl e1 e2 (tn p0 p1 t) K pi_ len tr p0 p1 t he1 he2 I.hK I.hpi I.hlen I.htr I.b0 I.b1 I.t0 I.t4 rfl
  obtain ⟨rvm, hm, km, rm, ppm, lim, tym, q0m, q1m, sm, rfl, rfl, qm0, qm1⟩ := m_lay 99 (Zm zm n K pi_ len tr M R ik) zl fm fl tx e1 e2 K p0 p1 t (fm 10) (fm 11) (fm 12) pi_ len tr he1 he2 I.hmt I.hK I.hpi I.hlen I.htr I.h0 I.h1
  obtain ⟨hr0, hq0, hq1, hq2⟩ := layR_uq qx1 qm1
  subst hq0
  subst hq1
  subst hq2
  obtain ⟨w0, w1, w2, w3⟩ := layR_ok qx1 I.hK.2 I.hlen.2 I.hk0 I.hk1 I.hp1 I.hp0
  subst qx0
  have hr : rm = rx := by
    exact hr0
  rw [hr] at km
  exact ⟨iz (rx), _, _, 0, 0, 0, 0, kx, km, by omega, by omega, z, f, C, T, rc, tl, (u1 zm 0 0), zl, (uf (uf (uf fm 10 ppm) 11 lim) 12 tym), fl, tx, n, K, pi_, len, tr, M, R, ik, q0x, q1x, sx, bs, Rts, rfl, rfl, ⟨I.hT, I.hMo, I.hg6, I.hK5, I.hc7, I.hK, I.hpi, I.hlen, I.htr, I.hw, I.hva, I.hop, I.hM, I.hMK, I.hCA, I.hCB, I.hcm, w0, w1, w2, w3, qm0, I.hsv, I.hs0, (bd_n I.hst), I.hS, I.hTs, I.hgv, ⟨I.hmv.1, bd_n I.hmv.2⟩, I.hmk, I.hlt, I.htn, I.hb55, I.hb56, I.hb57, I.hR, I.hr0, I.hr1, I.hr2, I.hr3, I.hRU, I.hik, I.him⟩⟩
set_option maxRecDepth 100000 in
set_option maxHeartbeats 4000000 in
theorem ag_lift (N : Nat) (hN : N < 64) : ∀ y1 : Int32, ln_AgI (Inv N) (Inv (N + 1)) m_X11_lift m_X12_lift [.int (y1)] := by
  intro y1 hx hm hI
  obtain ⟨e1, he1, rfl⟩ := iz_ex y1
  obtain ⟨z, f, C, T, rc, tl, zm, zl, fm, fl, tx, n, K, pi_, len, tr, M, R, ik, p0, p1, t, bs, Rts, rfl, rfl, I⟩ := hI
  obtain ⟨rvx, hx, kx, rx, sdx, q0x, q1x, rfl, rfl, qx0, qx1⟩ := x_lift 98 (Zx z n K pi_ len tr M R (tn p0 p1 t) ik) f C T rc tl e1 (tn p0 p1 t) K pi_ len tr p0 p1 t he1 I.hK I.hpi I.hlen I.htr I.b0 I.b1 I.t0 I.t4 rfl
  obtain ⟨rvm, hm, km, rm, lim, q0m, q1m, rfl, rfl, qm0, qm1⟩ := m_lift 99 (Zm zm n K pi_ len tr M R ik) zl fm fl tx e1 K p0 p1 t (fm 10) (fm 11) (fm 12) pi_ len tr he1 I.hmt I.hK I.hpi I.hlen I.htr I.h0 I.h1
  obtain ⟨hr0, hq0, hq1⟩ := lifR_uq qx1 qm1
  subst hq0
  subst hq1
  obtain ⟨w0, w1, w2, w3⟩ := lifR_ok qx1 I.hk0 I.hk1 I.hp1 I.hp0
  subst qx0
  have hr : rm = rx := by
    exact hr0
  rw [hr] at km
  exact ⟨iz (rx), _, _, 0, 0, 0, 0, kx, km, by omega, by omega, z, f, C, T, rc, tl, (u1 zm 0 0), zl, (uf fm 11 lim), fl, tx, n, K, pi_, len, tr, M, R, ik, q0x, q1x, t, bs, Rts, rfl, rfl, ⟨I.hT, I.hMo, I.hg6, I.hK5, I.hc7, I.hK, I.hpi, I.hlen, I.htr, I.hw, I.hva, I.hop, I.hM, I.hMK, I.hCA, I.hCB, I.hcm, w0, w1, w2, w3, qm0, I.hsv, I.hs0, (bd_n I.hst), I.hS, I.hTs, I.hgv, ⟨I.hmv.1, bd_n I.hmv.2⟩, I.hmk, I.hlt, I.htn, I.hb55, I.hb56, I.hb57, I.hR, I.hr0, I.hr1, I.hr2, I.hr3, I.hRU, I.hik, I.him⟩⟩
theorem okP_K0 {K len p : Int} (h : K = 0) (hp : okP K len p) : p = 0 := by
  obtain ⟨h0, m, h5, h1, h2⟩ := hp
  cases m with
  | zero => exact h1
  | succ m => have := h1.1; have := h1.2.1; omega
set_option maxRecDepth 100000 in
set_option maxHeartbeats 4000000 in
theorem ag_serve (N : Nat) (hN : N < 64) : ∀ y1 y2 : Int32, ln_AgI (Inv N) (Inv (N + 1)) m_X11_serve m_X12_serve [.int (y1), .int (y2)] := by
  intro y1 y2 hx hm hI
  obtain ⟨e1, he1, rfl⟩ := iz_ex y1
  obtain ⟨e2, he2, rfl⟩ := iz_ex y2
  obtain ⟨z, f, C, T, rc, tl, zm, zl, fm, fl, tx, n, K, pi_, len, tr, M, R, ik, p0, p1, t, bs, Rts, rfl, rfl, I⟩ := hI
  obtain ⟨rvx, hx, kx, rx, tillx, svx, otx, whx, tl_x, qdx, edx, stx, R0x, R1x, K0x, K1x, qx, mox, smx, enx, szx, slx, hox, tix, rfl, rfl, qx0, qx1, qx2, qx3⟩ := x_serve 91 (Zx z n K pi_ len tr M R (tn p0 p1 t) ik) f C T rc tl e1 e2 (tn p0 p1 t) (f 44) (f 4) tr len pi_ K M (fm 8) (fun c k => fm 9 (4 * c + k)) (z 46 3) (z 46 11) (z 46 12) (z 46 5) (z 46 10) (z 46 8) (f 48) (f 49) (f 51) (f 52) (f 53) (f 54) (f 55) (f 56) ((T 5).1) ((T 5).2.1) ((T 5).2.2.1) ((T 5).2.2.2) he1 he2 I.hw I.htr I.hpi I.hCA I.opX I.hS (by have := I.hst; omega) (I.hTs 5 (by decide))
  obtain ⟨rvm, hm, km, rm, svm, tvm, q0m, q1m, s_m, ppm, lim, tym, gvm, mkm, mvm, rmm, rsm, rfl, rfl, qm0, qm1, qm2, qm3, qm4, qm5⟩ := m_serve 49 (Zm zm n K pi_ len tr M R ik) zl fm fl tx e1 e2 M K p0 p1 t (fm 10) (fm 11) (fm 12) (fm 17) (zm 39) (fl 15) len pi_ tr (fm 5) (fm 16) (zm 40) (f 4) (fm 9) (fm 8) (fm 13) he1 he2 I.hw I.htr I.hK.2 I.hva I.hcm I.hmt I.opM I.hgv I.hmv.1 (by have := I.hmv.2; omega) I.hmk
  have hkey : rm = rx ∧ tillx = tvm ∧ vT K len pi_ tvm ∧ (∀ i : Int, 0 ≤ i → i < M → svm i = svx i) ∧ (∀ i : Int, M ≤ i → i < 4 → svx i = 0) := by
    rcases qx3 with ⟨a0, a1, a2, a3⟩ | ⟨a0, a1, a2, nx, gx, a3, a4, a5, a6, a7⟩ <;> rcases qm5 with ⟨b0, b1, b2, b3⟩ | ⟨b0, b1, b2, ny, gy, b3, b4, b5, b6, b7⟩
    · exact ⟨by omega, by rw [a2, b2], by rw [b2]; exact I.vt, by rw [a3, b3]; exact I.hsv, by rw [a3]; exact I.hs0⟩
    · exfalso; rcases a0 with q | q | q | ⟨n1, g1, q1, q2⟩; (exact q ⟨b0, b1⟩); omega; (exact srN_noM b3 q); (have := (srN_uq q1 b3).1; omega)
    · exfalso; rcases b0 with q | q | q | ⟨n1, g1, q1, q2⟩; (exact q ⟨a0, a1⟩); omega; (exact srN_noM a3 q); (have := (srN_uq q1 a3).1; omega)
    · have hq := srN_uq a3 b3
      have hg : gx e2 = gy e2 := hq.2 e2 a2 (by omega)
      have hres := (b3.2.2.2 (gy e2)).mp (by unfold lsI; refine List.mem_map.mpr ⟨e2.toNat, List.mem_range.mpr (by omega), ?_⟩; rw [show ((e2.toNat : Nat) : Int) = e2 by omega])
      refine ⟨by rw [a7, b7, I.hsv e1 a0 a1], by rw [a5, b5, hg], by rw [b5]; exact resN_vT I.hK.1 I.hK.2 I.hlen.2 I.vt hres, fun i i0 i1 => ?_, fun i i0 i1 => ?_⟩
      · rw [a6, b6]; unfold iu; rw [I.hsv e1 a0 a1, I.hsv i i0 i1]
      · rw [a6, iu_ne _ _ (by omega)]; exact I.hs0 i i0 i1
  obtain ⟨hr0, hti, hvt, hs1, hs2⟩ := hkey
  subst hti
  have hmb := mtI_b qm3
  subst qm4
  have hK4 := I.hK
  obtain ⟨w0, w1, w2⟩ := vT_ok I.hK.2 hvt ⟨hmb.2.1.1, hmb.2.1.2.1⟩ ⟨hmb.2.2.1, by omega⟩
  have w3 : pi_ ≤ 1 → q1m = 0 := by intro q; rcases (show pi_ = 1 ∨ pi_ = 0 by have := I.hpi; omega) with z1 | z1; exact w2 z1; (rcases (show K = 0 ∨ 0 < K by omega) with z2 | z2; (have := okP_K0 z2 w1; exact this); (have := (I.hop z2).2; omega))
  have w4 : pi_ ≤ 0 → q0m = 0 := by intro q; rcases (show K = 0 ∨ 0 < K by omega) with z2 | z2; (exact okP_K0 z2 w0); (have := (I.hop z2).2; omega)
  have hr : rm = rx := by
    exact hr0
  rw [hr] at km
  exact ⟨iz (rx), _, _, 0, 0, 0, 0, kx, km, by omega, by omega, (u2 (u2 (u2 (u2 (u2 (u2 z 46 10 edx) 46 11 whx) 46 12 tl_x) 46 3 otx) 46 5 qdx) 46 8 stx), (uf (uf (uf (uf (uf (uf (uf (uf (uf f 44 svx) 48 R0x) 49 R1x) 51 K0x) 52 K1x) 53 qx) 54 mox) 55 smx) 56 enx), C, (uT T 5 (szx, slx, hox, tix)), rc, tl, (u1 (u1 (u1 zm 0 0) 39 rmm) 40 mvm), zl, (uf (uf (uf (uf (uf (uf fm 10 ppm) 11 lim) 12 tym) 13 svm) 16 mkm) 17 gvm), (uf fl 15 rsm), tx, n, K, pi_, len, tr, M, R, ik, q0m, q1m, s_m, bs, Rts, rfl, rfl, ⟨I.hT, I.hMo, I.hg6, I.hK5, I.hc7, I.hK, I.hpi, I.hlen, I.htr, I.hw, I.hva, I.hop, I.hM, I.hMK, I.hCA, I.hCB, I.hcm, w0, w1, w3, w4, qm3, hs1, hs2, (bd_s I.hst qx1.2 (by decide)), qx0, (tsA_5 I.hTs qx2), qm0, ⟨Int.le_trans I.hmv.1 qm1.1, bd_s I.hmv.2 qm1.2 (by decide)⟩, qm2, I.hlt, I.htn, I.hb55, I.hb56, I.hb57, I.hR, I.hr0, I.hr1, I.hr2, I.hr3, I.hRU, I.hik, I.him⟩⟩
set_option maxRecDepth 100000 in
set_option maxHeartbeats 4000000 in
theorem ag_image (N : Nat) (hN : N < 64) : ln_AgI (Inv N) (Inv (N + 1)) m_X11_image m_X12_image [] := by
  intro hx hm hI
  obtain ⟨z, f, C, T, rc, tl, zm, zl, fm, fl, tx, n, K, pi_, len, tr, M, R, ik, p0, p1, t, bs, Rts, rfl, rfl, I⟩ := hI
  obtain ⟨rvx, hx, kx, rx, ikx, itx, ivx, rfl, rfl, qx0⟩ := x_image 98 (Zx z n K pi_ len tr M R (tn p0 p1 t) ik) f C T rc tl (tn p0 p1 t) K pi_ len tr p0 p1 t ik (z 0 12) (f 44) (f 45) I.hK I.hpi I.hlen I.htr I.b0 I.b1 I.t0 I.t4 rfl
  obtain ⟨rvm, hm, km, rm, hi_m, itm, ivm, rfl, rfl, qm0⟩ := m_image 98 (Zm zm n K pi_ len tr M R ik) zl fm fl tx K p0 p1 t (fm 10) (fm 11) (fm 12) pi_ len tr M ik (zl 34) (fm 13) (fm 14) I.hmt I.hK I.hpi I.hlen I.htr I.h0 I.h1 I.hM
  have hkey : rm = rx ∧ ikx = hi_m ∧ (hi_m = 0 ∨ hi_m = 1) ∧ (hi_m = 1 → (∃ i0 i1 i2, itx = tn i0 i1 i2 ∧ itm = tn i0 i1 i2 ∧ okP K len i0 ∧ okP K len i1 ∧ 0 ≤ i2 ∧ i2 ≤ K ∧ (pi_ ≤ 1 → i1 = 0) ∧ (pi_ ≤ 0 → i0 = 0)) ∧ (∀ j : Int, 0 ≤ j → j < 4 → ivm j = ivx j) ∧ ∀ j : Int, M ≤ j → j < 4 → ivx j = 0) := by
    rcases qx0 with ⟨a0, a1, a2, a3, a4⟩ | ⟨a0, a1, a2, a3, a4, a5, a6, a7⟩ <;> rcases qm0 with ⟨b0, b1, b2, b3, b4⟩ | ⟨b0, b1, b2, b3, b4⟩
    · subst a2; subst b2; subst a3; subst b3; subst a4; subst b4; exact ⟨by omega, rfl, I.hik, I.him⟩
    · exfalso; omega
    · exfalso; omega
    · refine ⟨by rw [a1, b1], by rw [a2, b2], Or.inr b2, fun _ => ⟨⟨p0, p1, t, a3, b3, I.hk0, I.hk1, I.t0, I.tK, I.hp1, I.hp0⟩, ?_, ?_⟩⟩
      · intro j j0 j1; rw [b4 j j0 j1]; have hx : ivx j = f 44 j := by rcases (show j = 0 ∨ j = 1 ∨ j = 2 ∨ j = 3 by omega) with q | q | q | q <;> subst q <;> assumption
        rw [hx]; split; (exact I.hsv j j0 (by omega)); exact (I.hs0 j (by omega) j1).symm
      · intro j j0 j1; have hM := I.hM; have hx : ivx j = f 44 j := by rcases (show j = 0 ∨ j = 1 ∨ j = 2 ∨ j = 3 by omega) with q | q | q | q <;> subst q <;> assumption
        rw [hx]; exact I.hs0 j j0 j1
  obtain ⟨hr0, hi0, hi1, hi2⟩ := hkey
  subst hi0
  have hr : rm = rx := by
    exact hr0
  rw [hr] at km
  exact ⟨iz (rx), _, _, 0, 0, 0, 0, kx, km, by omega, by omega, (u2 z 0 12 itx), (uf f 45 ivx), C, T, rc, tl, (u1 zm 0 0), (u1 zl 34 itm), (uf fm 14 ivm), fl, tx, n, K, pi_, len, tr, M, R, ikx, p0, p1, t, bs, Rts, rfl, rfl, ⟨I.hT, I.hMo, I.hg6, I.hK5, I.hc7, I.hK, I.hpi, I.hlen, I.htr, I.hw, I.hva, I.hop, I.hM, I.hMK, I.hCA, I.hCB, I.hcm, I.hk0, I.hk1, I.hp1, I.hp0, I.hmt, I.hsv, I.hs0, (bd_n I.hst), I.hS, I.hTs, I.hgv, ⟨I.hmv.1, bd_n I.hmv.2⟩, I.hmk, I.hlt, I.htn, I.hb55, I.hb56, I.hb57, I.hR, I.hr0, I.hr1, I.hr2, I.hr3, I.hRU, hi1, hi2⟩⟩

/-! the invariant of class and model (printed by wip/whole/geninv.py) -/
def Zx (z : Nat → Nat → Int) (n K pi_ len tr M R sd ik : Int) : Nat → Nat → Int := u2 (u2 (u2 (u2 (u2 (u2 (u2 (u2 (u2 z 0 6 M) 0 8 R) 0 9 sd) 0 11 ik) 1 1 n) 3 1 K) 3 2 pi_) 3 3 len) 3 4 tr
def Zm (z : Nat → Int) (n K pi_ len tr M R ik : Int) : Nat → Int := u1 (u1 (u1 (u1 (u1 (u1 (u1 (u1 z 6 n) 7 R) 21 K) 22 pi_) 23 len) 24 tr) 28 M) 35 ik
/-- class and model stand alike, N calls behind them -/
def IV (N : Nat) (z : Nat → Nat → Int) (f : Nat → Int → Int) (C : Nat → CuR) (T : Nat → TsR) (rc : Nat → Nat) (tl : AmH) (zm : Nat → Int) (zl : Nat → Int) (fm : Nat → Int → Int) (n K pi_ len tr M R ik p0 p1 t : Int) (bs : Int → Int → Int) (Rts : Int → RuT) : Prop := (tOK n (f 2)) ∧ (mOK n 0 160 (fm 1) (f 2)) ∧ (shI (f 6)) ∧ (0 ≤ z 5 1 ∧ z 5 1 ≤ 4) ∧ (0 ≤ z 7 2 ∧ z 7 2 ≤ 4) ∧ (0 ≤ K ∧ K ≤ 4) ∧ (0 ≤ pi_ ∧ pi_ ≤ 2) ∧ (0 ≤ len ∧ len ≤ 5) ∧ (0 ≤ tr ∧ tr ≤ 1) ∧ (wOK (f 4)) ∧ (∀ k : Int, 0 ≤ k → k < K → fm 5 k = f 4 (k + 1)) ∧ (0 < K → 1 ≤ len ∧ 1 ≤ pi_) ∧ (0 ≤ M ∧ M ≤ 4) ∧ (0 < M → 0 < K) ∧ (cuA C (f 4) K M (fm 8) (fun c k => fm 9 (4 * c + k))) ∧ (cuB C (f 4) K M (fm 8) (fun c k => fm 9 (4 * c + k))) ∧ (cuM K M (fm 9) (fm 8)) ∧ (okP K len p0) ∧ (okP K len p1) ∧ (pi_ ≤ 1 → p1 = 0) ∧ (pi_ ≤ 0 → p0 = 0) ∧ (mtI K (fm 10) (fm 11) (fm 12) p0 p1 t) ∧ (∀ i : Int, 0 ≤ i → i < M → fm 13 i = f 44 i) ∧ (∀ i : Int, M ≤ i → i < 4 → f 44 i = 0) ∧ (z 46 8 ≤ 30000000 * (N : Int)) ∧ (pyS (z 46 8) (f 55)) ∧ (tsA T) ∧ (∀ k : Int, 0 ≤ k → k < 4 → 0 ≤ fm 17 k ∧ fm 17 k ≤ 4) ∧ (0 ≤ zm 40 ∧ zm 40 ≤ 30000000 * (N : Int)) ∧ (∀ j : Int, 0 ≤ j → j < 72000 → 0 ≤ fm 16 j ∧ fm 16 j ≤ zm 40) ∧ (ltb6 (fm 4)) ∧ (0 ≤ zm 46 ∧ zm 46 ≤ 200) ∧ (zm 55 = 0 ∨ zm 55 = 1) ∧ (zm 56 = 0 ∨ zm 56 = 1) ∧ (zm 57 = 0 ∨ zm 57 = 1) ∧ (0 ≤ R ∧ R ≤ 4) ∧ (0 < R → ruC tl (rc 36) (z 36 1) (fun L => fnd L (Rts 0).2.2.2)) ∧ (1 < R → ruC tl (rc 38) (z 38 1) (fun L => fnd L (Rts 1).2.2.2)) ∧ (2 < R → ruC tl (rc 40) (z 40 1) (fun L => fnd L (Rts 2).2.2.2)) ∧ (3 < R → ruC tl (rc 42) (z 42 1) (fun L => fnd L (Rts 3).2.2.2)) ∧ (∀ i : Int, 0 ≤ i → i < R → ruM (fm 2) (fm 3) i (bs i) (Rts i) ∧ ruV (fun L => fnd L (Rts i).2.2.2) (Rts i).2.2.1) ∧ (ik = 0 ∨ ik = 1) ∧ (ik = 1 → (∃ i0 i1 i2, z 0 12 = tn i0 i1 i2 ∧ zl 34 = tn i0 i1 i2 ∧ okP K len i0 ∧ okP K len i1 ∧ 0 ≤ i2 ∧ i2 ≤ K ∧ (pi_ ≤ 1 → i1 = 0) ∧ (pi_ ≤ 0 → i0 = 0)) ∧ (∀ j : Int, 0 ≤ j → j < 4 → fm 14 j = f 45 j) ∧ ∀ j : Int, M ≤ j → j < 4 → f 45 j = 0)
section IVprj
variable {N : Nat} {z : Nat → Nat → Int} {f : Nat → Int → Int} {C : Nat → CuR} {T : Nat → TsR} {rc : Nat → Nat} {tl : AmH} {zm : Nat → Int} {zl : Nat → Int} {fm : Nat → Int → Int} {n K pi_ len tr M R ik p0 p1 t : Int} {bs : Int → Int → Int} {Rts : Int → RuT}
theorem IV.hT (I : IV N z f C T rc tl zm zl fm n K pi_ len tr M R ik p0 p1 t bs Rts) : tOK n (f 2) := I.1
theorem IV.hMo (I : IV N z f C T rc tl zm zl fm n K pi_ len tr M R ik p0 p1 t bs Rts) : mOK n 0 160 (fm 1) (f 2) := I.2.1
theorem IV.hg6 (I : IV N z f C T rc tl zm zl fm n K pi_ len tr M R ik p0 p1 t bs Rts) : shI (f 6) := I.2.2.1
theorem IV.hK5 (I : IV N z f C T rc tl zm zl fm n K pi_ len tr M R ik p0 p1 t bs Rts) : 0 ≤ z 5 1 ∧ z 5 1 ≤ 4 := I.2.2.2.1
theorem IV.hc7 (I : IV N z f C T rc tl zm zl fm n K pi_ len tr M R ik p0 p1 t bs Rts) : 0 ≤ z 7 2 ∧ z 7 2 ≤ 4 := I.2.2.2.2.1
theorem IV.hK (I : IV N z f C T rc tl zm zl fm n K pi_ len tr M R ik p0 p1 t bs Rts) : 0 ≤ K ∧ K ≤ 4 := I.2.2.2.2.2.1
theorem IV.hpi (I : IV N z f C T rc tl zm zl fm n K pi_ len tr M R ik p0 p1 t bs Rts) : 0 ≤ pi_ ∧ pi_ ≤ 2 := I.2.2.2.2.2.2.1
theorem IV.hlen (I : IV N z f C T rc tl zm zl fm n K pi_ len tr M R ik p0 p1 t bs Rts) : 0 ≤ len ∧ len ≤ 5 := I.2.2.2.2.2.2.2.1
theorem IV.htr (I : IV N z f C T rc tl zm zl fm n K pi_ len tr M R ik p0 p1 t bs Rts) : 0 ≤ tr ∧ tr ≤ 1 := I.2.2.2.2.2.2.2.2.1
theorem IV.hw (I : IV N z f C T rc tl zm zl fm n K pi_ len tr M R ik p0 p1 t bs Rts) : wOK (f 4) := I.2.2.2.2.2.2.2.2.2.1
theorem IV.hva (I : IV N z f C T rc tl zm zl fm n K pi_ len tr M R ik p0 p1 t bs Rts) : ∀ k : Int, 0 ≤ k → k < K → fm 5 k = f 4 (k + 1) := I.2.2.2.2.2.2.2.2.2.2.1
theorem IV.hop (I : IV N z f C T rc tl zm zl fm n K pi_ len tr M R ik p0 p1 t bs Rts) : 0 < K → 1 ≤ len ∧ 1 ≤ pi_ := I.2.2.2.2.2.2.2.2.2.2.2.1
theorem IV.hM (I : IV N z f C T rc tl zm zl fm n K pi_ len tr M R ik p0 p1 t bs Rts) : 0 ≤ M ∧ M ≤ 4 := I.2.2.2.2.2.2.2.2.2.2.2.2.1
theorem IV.hMK (I : IV N z f C T rc tl zm zl fm n K pi_ len tr M R ik p0 p1 t bs Rts) : 0 < M → 0 < K := I.2.2.2.2.2.2.2.2.2.2.2.2.2.1
theorem IV.hCA (I : IV N z f C T rc tl zm zl fm n K pi_ len tr M R ik p0 p1 t bs Rts) : cuA C (f 4) K M (fm 8) (fun c k => fm 9 (4 * c + k)) := I.2.2.2.2.2.2.2.2.2.2.2.2.2.2.1
theorem IV.hCB (I : IV N z f C T rc tl zm zl fm n K pi_ len tr M R ik p0 p1 t bs Rts) : cuB C (f 4) K M (fm 8) (fun c k => fm 9 (4 * c + k)) := I.2.2.2.2.2.2.2.2.2.2.2.2.2.2.2.1
theorem IV.hcm (I : IV N z f C T rc tl zm zl fm n K pi_ len tr M R ik p0 p1 t bs Rts) : cuM K M (fm 9) (fm 8) := I.2.2.2.2.2.2.2.2.2.2.2.2.2.2.2.2.1
theorem IV.hk0 (I : IV N z f C T rc tl zm zl fm n K pi_ len tr M R ik p0 p1 t bs Rts) : okP K len p0 := I.2.2.2.2.2.2.2.2.2.2.2.2.2.2.2.2.2.1
theorem IV.hk1 (I : IV N z f C T rc tl zm zl fm n K pi_ len tr M R ik p0 p1 t bs Rts) : okP K len p1 := I.2.2.2.2.2.2.2.2.2.2.2.2.2.2.2.2.2.2.1
theorem IV.hp1 (I : IV N z f C T rc tl zm zl fm n K pi_ len tr M R ik p0 p1 t bs Rts) : pi_ ≤ 1 → p1 = 0 := I.2.2.2.2.2.2.2.2.2.2.2.2.2.2.2.2.2.2.2.1
theorem IV.hp0 (I : IV N z f C T rc tl zm zl fm n K pi_ len tr M R ik p0 p1 t bs Rts) : pi_ ≤ 0 → p0 = 0 := I.2.2.2.2.2.2.2.2.2.2.2.2.2.2.2.2.2.2.2.2.1
theorem IV.hmt (I : IV N z f C T rc tl zm zl fm n K pi_ len tr M R ik p0 p1 t bs Rts) : mtI K (fm 10) (fm 11) (fm 12) p0 p1 t := I.2.2.2.2.2.2.2.2.2.2.2.2.2.2.2.2.2.2.2.2.2.1
theorem IV.hsv (I : IV N z f C T rc tl zm zl fm n K pi_ len tr M R ik p0 p1 t bs Rts) : ∀ i : Int, 0 ≤ i → i < M → fm 13 i = f 44 i := I.2.2.2.2.2.2.2.2.2.2.2.2.2.2.2.2.2.2.2.2.2.2.1
theorem IV.hs0 (I : IV N z f C T rc tl zm zl fm n K pi_ len tr M R ik p0 p1 t bs Rts) : ∀ i : Int, M ≤ i → i < 4 → f 44 i = 0 := I.2.2.2.2.2.2.2.2.2.2.2.2.2.2.2.2.2.2.2.2.2.2.2.1
theorem IV.hst (I : IV N z f C T rc tl zm zl fm n K pi_ len tr M R ik p0 p1 t bs Rts) : z 46 8 ≤ 30000000 * (N : Int) := I.2.2.2.2.2.2.2.2.2.2.2.2.2.2.2.2.2.2.2.2.2.2.2.2.1
theorem IV.hS (I : IV N z f C T rc tl zm zl fm n K pi_ len tr M R ik p0 p1 t bs Rts) : pyS (z 46 8) (f 55) := I.2.2.2.2.2.2.2.2.2.2.2.2.2.2.2.2.2.2.2.2.2.2.2.2.2.1
theorem IV.hTs (I : IV N z f C T rc tl zm zl fm n K pi_ len tr M R ik p0 p1 t bs Rts) : tsA T := I.2.2.2.2.2.2.2.2.2.2.2.2.2.2.2.2.2.2.2.2.2.2.2.2.2.2.1
theorem IV.hgv (I : IV N z f C T rc tl zm zl fm n K pi_ len tr M R ik p0 p1 t bs Rts) : ∀ k : Int, 0 ≤ k → k < 4 → 0 ≤ fm 17 k ∧ fm 17 k ≤ 4 := I.2.2.2.2.2.2.2.2.2.2.2.2.2.2.2.2.2.2.2.2.2.2.2.2.2.2.2.1
theorem IV.hmv (I : IV N z f C T rc tl zm zl fm n K pi_ len tr M R ik p0 p1 t bs Rts) : 0 ≤ zm 40 ∧ zm 40 ≤ 30000000 * (N : Int) := I.2.2.2.2.2.2.2.2.2.2.2.2.2.2.2.2.2.2.2.2.2.2.2.2.2.2.2.2.1
theorem IV.hmk (I : IV N z f C T rc tl zm zl fm n K pi_ len tr M R ik p0 p1 t bs Rts) : ∀ j : Int, 0 ≤ j → j < 72000 → 0 ≤ fm 16 j ∧ fm 16 j ≤ zm 40 := I.2.2.2.2.2.2.2.2.2.2.2.2.2.2.2.2.2.2.2.2.2.2.2.2.2.2.2.2.2.1
theorem IV.hlt (I : IV N z f C T rc tl zm zl fm n K pi_ len tr M R ik p0 p1 t bs Rts) : ltb6 (fm 4) := I.2.2.2.2.2.2.2.2.2.2.2.2.2.2.2.2.2.2.2.2.2.2.2.2.2.2.2.2.2.2.1
theorem IV.htn (I : IV N z f C T rc tl zm zl fm n K pi_ len tr M R ik p0 p1 t bs Rts) : 0 ≤ zm 46 ∧ zm 46 ≤ 200 := I.2.2.2.2.2.2.2.2.2.2.2.2.2.2.2.2.2.2.2.2.2.2.2.2.2.2.2.2.2.2.2.1
theorem IV.hb55 (I : IV N z f C T rc tl zm zl fm n K pi_ len tr M R ik p0 p1 t bs Rts) : zm 55 = 0 ∨ zm 55 = 1 := I.2.2.2.2.2.2.2.2.2.2.2.2.2.2.2.2.2.2.2.2.2.2.2.2.2.2.2.2.2.2.2.2.1
theorem IV.hb56 (I : IV N z f C T rc tl zm zl fm n K pi_ len tr M R ik p0 p1 t bs Rts) : zm 56 = 0 ∨ zm 56 = 1 := I.2.2.2.2.2.2.2.2.2.2.2.2.2.2.2.2.2.2.2.2.2.2.2.2.2.2.2.2.2.2.2.2.2.1
theorem IV.hb57 (I : IV N z f C T rc tl zm zl fm n K pi_ len tr M R ik p0 p1 t bs Rts) : zm 57 = 0 ∨ zm 57 = 1 := I.2.2.2.2.2.2.2.2.2.2.2.2.2.2.2.2.2.2.2.2.2.2.2.2.2.2.2.2.2.2.2.2.2.2.1
theorem IV.hR (I : IV N z f C T rc tl zm zl fm n K pi_ len tr M R ik p0 p1 t bs Rts) : 0 ≤ R ∧ R ≤ 4 := I.2.2.2.2.2.2.2.2.2.2.2.2.2.2.2.2.2.2.2.2.2.2.2.2.2.2.2.2.2.2.2.2.2.2.2.1
theorem IV.hr0 (I : IV N z f C T rc tl zm zl fm n K pi_ len tr M R ik p0 p1 t bs Rts) : 0 < R → ruC tl (rc 36) (z 36 1) (fun L => fnd L (Rts 0).2.2.2) := I.2.2.2.2.2.2.2.2.2.2.2.2.2.2.2.2.2.2.2.2.2.2.2.2.2.2.2.2.2.2.2.2.2.2.2.2.1
theorem IV.hr1 (I : IV N z f C T rc tl zm zl fm n K pi_ len tr M R ik p0 p1 t bs Rts) : 1 < R → ruC tl (rc 38) (z 38 1) (fun L => fnd L (Rts 1).2.2.2) := I.2.2.2.2.2.2.2.2.2.2.2.2.2.2.2.2.2.2.2.2.2.2.2.2.2.2.2.2.2.2.2.2.2.2.2.2.2.1
theorem IV.hr2 (I : IV N z f C T rc tl zm zl fm n K pi_ len tr M R ik p0 p1 t bs Rts) : 2 < R → ruC tl (rc 40) (z 40 1) (fun L => fnd L (Rts 2).2.2.2) := I.2.2.2.2.2.2.2.2.2.2.2.2.2.2.2.2.2.2.2.2.2.2.2.2.2.2.2.2.2.2.2.2.2.2.2.2.2.2.1
theorem IV.hr3 (I : IV N z f C T rc tl zm zl fm n K pi_ len tr M R ik p0 p1 t bs Rts) : 3 < R → ruC tl (rc 42) (z 42 1) (fun L => fnd L (Rts 3).2.2.2) := I.2.2.2.2.2.2.2.2.2.2.2.2.2.2.2.2.2.2.2.2.2.2.2.2.2.2.2.2.2.2.2.2.2.2.2.2.2.2.2.1
theorem IV.hRU (I : IV N z f C T rc tl zm zl fm n K pi_ len tr M R ik p0 p1 t bs Rts) : ∀ i : Int, 0 ≤ i → i < R → ruM (fm 2) (fm 3) i (bs i) (Rts i) ∧ ruV (fun L => fnd L (Rts i).2.2.2) (Rts i).2.2.1 := I.2.2.2.2.2.2.2.2.2.2.2.2.2.2.2.2.2.2.2.2.2.2.2.2.2.2.2.2.2.2.2.2.2.2.2.2.2.2.2.2.1
theorem IV.hik (I : IV N z f C T rc tl zm zl fm n K pi_ len tr M R ik p0 p1 t bs Rts) : ik = 0 ∨ ik = 1 := I.2.2.2.2.2.2.2.2.2.2.2.2.2.2.2.2.2.2.2.2.2.2.2.2.2.2.2.2.2.2.2.2.2.2.2.2.2.2.2.2.2.1
theorem IV.him (I : IV N z f C T rc tl zm zl fm n K pi_ len tr M R ik p0 p1 t bs Rts) : ik = 1 → (∃ i0 i1 i2, z 0 12 = tn i0 i1 i2 ∧ zl 34 = tn i0 i1 i2 ∧ okP K len i0 ∧ okP K len i1 ∧ 0 ≤ i2 ∧ i2 ≤ K ∧ (pi_ ≤ 1 → i1 = 0) ∧ (pi_ ≤ 0 → i0 = 0)) ∧ (∀ j : Int, 0 ≤ j → j < 4 → fm 14 j = f 45 j) ∧ ∀ j : Int, M ≤ j → j < 4 → f 45 j = 0 := I.2.2.2.2.2.2.2.2.2.2.2.2.2.2.2.2.2.2.2.2.2.2.2.2.2.2.2.2.2.2.2.2.2.2.2.2.2.2.2.2.2.2
end IVprj
def Inv (N : Nat) (hx hm : AmH) : Prop := ∃ (z : Nat → Nat → Int) (f : Nat → Int → Int) (C : Nat → CuR) (T : Nat → TsR) (rc : Nat → Nat) (tl : AmH) (zm : Nat → Int) (zl : Nat → Int) (fm : Nat → Int → Int) (fl : Nat → Int → Int) (tx : Nat) (n K pi_ len tr M R ik p0 p1 t : Int) (bs : Int → Int → Int) (Rts : Int → RuT), hx = cxW (Zx z n K pi_ len tr M R (tn p0 p1 t) ik) f C T rc tl ∧ hm = cmH (Zm zm n K pi_ len tr M R ik) zl fm fl tx ∧ IV N z f C T rc tl zm zl fm n K pi_ len tr M R ik p0 p1 t bs Rts
section IVlem
variable {N : Nat} {z : Nat → Nat → Int} {f : Nat → Int → Int} {C : Nat → CuR} {T : Nat → TsR} {rc : Nat → Nat} {tl : AmH} {zm : Nat → Int} {zl : Nat → Int} {fm : Nat → Int → Int} {n K pi_ len tr M R ik p0 p1 t : Int} {bs : Int → Int → Int} {Rts : Int → RuT}
theorem IV.b0 (I : IV N z f C T rc tl zm zl fm n K pi_ len tr M R ik p0 p1 t bs Rts) : 0 ≤ p0 ∧ p0 < 3125 := ⟨(mtI_b I.hmt).1.1, (mtI_b I.hmt).1.2.1⟩
theorem IV.b1 (I : IV N z f C T rc tl zm zl fm n K pi_ len tr M R ik p0 p1 t bs Rts) : 0 ≤ p1 ∧ p1 < 3125 := ⟨(mtI_b I.hmt).2.1.1, (mtI_b I.hmt).2.1.2.1⟩
theorem IV.t0 (I : IV N z f C T rc tl zm zl fm n K pi_ len tr M R ik p0 p1 t bs Rts) : 0 ≤ t := (mtI_b I.hmt).2.2.1
theorem IV.tK (I : IV N z f C T rc tl zm zl fm n K pi_ len tr M R ik p0 p1 t bs Rts) : t ≤ K := (mtI_b I.hmt).2.2.2.1
theorem IV.t4 (I : IV N z f C T rc tl zm zl fm n K pi_ len tr M R ik p0 p1 t bs Rts) : t ≤ 4 := Int.le_trans I.tK I.hK.2
theorem okP_h {K len p : Int} (h : okP K len p) : ht p ≤ len := by
  obtain ⟨h0, m, h5, h1, h2⟩ := h
  rw [(okN_ht h0 h1 h5).1]; exact h2
theorem IV.h0 (I : IV N z f C T rc tl zm zl fm n K pi_ len tr M R ik p0 p1 t bs Rts) : ht p0 ≤ len := okP_h I.hk0
theorem IV.h1 (I : IV N z f C T rc tl zm zl fm n K pi_ len tr M R ik p0 p1 t bs Rts) : ht p1 ≤ len := okP_h I.hk1
theorem IV.q1 (I : IV N z f C T rc tl zm zl fm n K pi_ len tr M R ik p0 p1 t bs Rts) : pi_ = 1 → p1 = 0 := fun q => I.hp1 (by omega)
theorem IV.vt (I : IV N z f C T rc tl zm zl fm n K pi_ len tr M R ik p0 p1 t bs Rts) : vT K len pi_ (tn p0 p1 t) := ⟨p0, p1, t, rfl, I.hk0, I.hk1, I.t0, I.tK, I.q1⟩
theorem IV.opX (I : IV N z f C T rc tl zm zl fm n K pi_ len tr M R ik p0 p1 t bs Rts) : 0 < M → (1 ≤ len ∧ len ≤ 5) ∧ (1 ≤ K ∧ K ≤ 4) ∧ vT K len pi_ (tn p0 p1 t) := fun q => ⟨⟨(I.hop (I.hMK q)).1, I.hlen.2⟩, ⟨I.hMK q, I.hK.2⟩, I.vt⟩
theorem IV.opX2 (I : IV N z f C T rc tl zm zl fm n K pi_ len tr M R ik p0 p1 t bs Rts) : 0 < M → (1 ≤ len ∧ len ≤ 5) ∧ (1 ≤ K ∧ K ≤ 4) := fun q => ⟨(I.opX q).1, (I.opX q).2.1⟩
theorem IV.opK (I : IV N z f C T rc tl zm zl fm n K pi_ len tr M R ik p0 p1 t bs Rts) : 0 < K → (1 ≤ len ∧ len ≤ 5) ∧ (1 ≤ pi_ ∧ pi_ ≤ 2) := fun q => ⟨⟨(I.hop q).1, I.hlen.2⟩, (I.hop q).2, I.hpi.2⟩
theorem IV.opM (I : IV N z f C T rc tl zm zl fm n K pi_ len tr M R ik p0 p1 t bs Rts) : 0 < M → (1 ≤ len ∧ len ≤ 5) ∧ 1 ≤ K ∧ (1 ≤ pi_ ∧ pi_ ≤ 2) ∧ okP K len p0 ∧ okP K len p1 ∧ (pi_ = 1 → p1 = 0) := fun q => ⟨(I.opX q).1, I.hMK q, (I.opK (I.hMK q)).2, I.hk0, I.hk1, I.q1⟩
end IVlem
theorem Inv_mono (N : Nat) (hx hm : AmH) (h : Inv N hx hm) : Inv (N + 1) hx hm := by
  obtain ⟨z, f, C, T, rc, tl, zm, zl, fm, fl, tx, n, K, pi_, len, tr, M, R, ik, p0, p1, t, bs, Rts, e1, e2, I⟩ := h
  exact ⟨z, f, C, T, rc, tl, zm, zl, fm, fl, tx, n, K, pi_, len, tr, M, R, ik, p0, p1, t, bs, Rts, e1, e2, ⟨I.hT, I.hMo, I.hg6, I.hK5, I.hc7, I.hK, I.hpi, I.hlen, I.htr, I.hw, I.hva, I.hop, I.hM, I.hMK, I.hCA, I.hCB, I.hcm, I.hk0, I.hk1, I.hp1, I.hp0, I.hmt, I.hsv, I.hs0, (by have := I.hst; omega), I.hS, I.hTs, I.hgv, (by have := I.hmv; omega), I.hmk, I.hlt, I.htn, I.hb55, I.hb56, I.hb57, I.hR, I.hr0, I.hr1, I.hr2, I.hr3, I.hRU, I.hik, I.him⟩⟩
theorem Inv_Sh (N : Nat) : lw_Sh (Inv N) := by
  intro hx hm h
  obtain ⟨z, f, C, T, rc, tl, zm, zl, fm, fl, tx, n, K, pi_, len, tr, M, R, ik, p0, p1, t, bs, Rts, rfl, rfl, I⟩ := h
  exact ⟨⟨_, rfl⟩, ⟨_, rfl⟩⟩

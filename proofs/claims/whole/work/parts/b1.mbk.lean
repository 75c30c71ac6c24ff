/-! the baker of the model: coins handed back, all of it (printed by wip/whole/genmbk.py) -/
theorem ht_pos {p : Int} (h : 1 ≤ p) : 1 ≤ ht p := by have := ht_c p; omega
theorem ht_nn (p : Int) : 0 ≤ ht p := by have := ht_c p; omega
theorem gb_step {w va : Int → Int} {K p0 p1 t l fr kd : Int} {k : Nat} (hw : wOK w) (hva : ∀ k : Int, 0 ≤ k → k < K → va k = w (k + 1)) (h0 : 0 ≤ p0) (h1 : p0 < 3125) (h2 : 0 ≤ p1) (h3 : p1 < 3125) (h4 : 0 ≤ t) (h5 : t ≤ 4) (hK : K ≤ 4) (hl : ¬ l ≤ 0) (hT : bkT w p0 p1 t l fr kd) (hk0 : kd ≠ -1) (hk1 : -1 ≤ kd) (hk2 : kd < K) (hke : ht p0 + ht p1 + (if t = 0 then 0 else 1) ≤ (k : Int)) : (0 ≤ va kd ∧ va kd ≤ 99 ∧ va kd ≤ l) ∧ ∃ k2 : Nat, k = k2 + 1 ∧ ((fr = 0 ∧ 1 ≤ ht p0 ∧ hbk w (k2 + 1) p0 p1 t l = hbk w k2 (p0 / 5) p1 t (l - va kd) ∧ ht (p0 / 5) + ht p1 + (if t = 0 then 0 else 1) ≤ (k2 : Int)) ∨ (fr = 1 ∧ 1 ≤ ht p1 ∧ hbk w (k2 + 1) p0 p1 t l = hbk w k2 p0 (p1 / 5) t (l - va kd) ∧ ht p0 + ht (p1 / 5) + (if t = 0 then 0 else 1) ≤ (k2 : Int)) ∨ (fr = 2 ∧ t = kd + 1 ∧ hbk w (k2 + 1) p0 p1 t l = hbk w k2 p0 p1 0 (l - va kd) ∧ ht p0 + ht p1 + (if (0 : Int) = 0 then 0 else 1) ≤ (k2 : Int))) := by
  obtain ⟨t1, t2⟩ := hT
  have hg : bkG w p0 p1 t l ≠ 0 := by omega
  have hgw := bkG_w (w := w) (l := l) h0 h2 h4 h5 hg
  have hx := hva kd (by omega) hk2
  have hy := hw.2 (kd + 1) (by omega) (by omega)
  have hxx : va kd = w (bkG w p0 p1 t l) := by rw [hx, t1]
  have n0 := ht_nn p0
  have n1 := ht_nn p1
  refine ⟨⟨by omega, by omega, by omega⟩, ?_⟩
  rcases t2 with z | ⟨-, z2, z3⟩ | ⟨-, z2, z3, z4⟩ | ⟨-, z2, z3, z4, z5⟩
  · exact absurd z hk0
  · have p1' : 1 ≤ p0 := by
      rcases (show p0 = 0 ∨ 1 ≤ p0 by omega) with y | y
      · rw [y] at z3
        have : bkF w 0 l = kd + 1 := z3
        rw [bkF_0 hw] at this
        omega
      · exact y
    have hp := ht_pos p1'
    have hd := ht_div p1' h1
    have hk : 1 ≤ k := by split at hke <;> omega
    refine ⟨k - 1, by omega, Or.inl ⟨z2, hp, ?_, by split at hke <;> simp_all <;> omega⟩⟩
    rw [hbk_a hl hg (by omega), hxx]
  · have p1' : 1 ≤ p1 := by
      rcases (show p1 = 0 ∨ 1 ≤ p1 by omega) with y | y
      · rw [y] at z4
        have : bkF w 0 l = kd + 1 := z4
        rw [bkF_0 hw] at this
        omega
      · exact y
    have hp := ht_pos p1'
    have hd := ht_div p1' h3
    have hk : 1 ≤ k := by split at hke <;> omega
    refine ⟨k - 1, by omega, Or.inr (Or.inl ⟨z2, hp, ?_, by split at hke <;> simp_all <;> omega⟩)⟩
    rw [hbk_b hl hg (by omega) (by omega), hxx]
  · rw [if_neg (by omega)] at hke
    refine ⟨k - 1, by omega, Or.inr (Or.inr ⟨z2, z5, ?_, by rw [if_pos rfl]; omega⟩)⟩
    rw [hbk_c hl hg (by omega) (by omega), hxx]
set_option maxRecDepth 100000 in
set_option maxHeartbeats 4000000 in
theorem m_gback_l (d : Nat) (z : Nat → Int) (zl : Nat → Int) (f : Nat → Int → Int) (fl : Nat → Int → Int) (tx : Nat)  (due : Int) (pp : Int → Int) (K : Int) (pi : Int) (va : Int → Int) (w : Int → Int) (Rz : Int × Int × Int × Int) (hw : wOK w) (hva : ∀ k : Int, 0 ≤ k → k < K → va k = w (k + 1)) (hK : 1 ≤ K ∧ K ≤ 4) (hpi : pi = 1 ∨ pi = 2) (P : Option Value → AmH → Prop) (hx0 : ∀ (r : Int) (li' : Int → Int) (ty' : Int → Int), (r = Rz.1 ∧ mtI K pp li' ty' Rz.2.1 Rz.2.2.1 Rz.2.2.2) → (r = 0 ∨ r = 1) → (pi = 1 → Rz.2.2.1 = 0) → P (some (.int (iz r))) (cmH (u1 (u1 z 21 K) 22 pi) zl (uf (uf (uf (uf f 5 va) 10 pp) 11 li') 12 ty') fl tx)) : ∀ (kF : Nat) (l : Int) (p0 : Int) (p1 : Int) (t : Int) (li : Int → Int) (ty : Int → Int) (k : Nat) (w3 : Option Value) (w4 : Option Value) (w5 : Option Value) (w6 : Option Value), (mtI K pp li ty p0 p1 t) → (0 ≤ l ∧ l ≤ 10000) → (pi = 1 → p1 = 0) → (ht p0 + ht p1 + (if t = 0 then 0 else 1) ≤ (k : Int)) → (Rz = hbk w k p0 p1 t l) → (k : Int) < (kF : Int) → Rx (d + 1) m_X12_givesBack 2 [some (.ref 0), some (.int (iz due)), some (.int (iz l)), w3, w4, w5, w6] [] (cmH (u1 (u1 z 21 K) 22 pi) zl (uf (uf (uf (uf f 5 va) 10 pp) 11 li) 12 ty) fl tx) P := by
  intro kF
  induction kF with
  | zero =>
    intro l p0 p1 t li ty k w3 w4 w5 w6 hM hl h1p hke hH hk
    exfalso; omega
  | succ kF ih =>
    intro l p0 p1 t li ty k w3 w4 w5 w6 hM hl h1p hke hH hk
    obtain ⟨⟨hm1, hm2, hm3⟩, ⟨hm4, hm5, hm6⟩, hm7, hm8, hm9⟩ := mtI_b hM
    refine Rx.walk 1 (pc' := 3) (L' := [some (.ref 0), some (.int (iz due)), some (.int (iz l)), w3, w4, w5, w6]) (st' := [.int (iz l)]) (h' := cmH (u1 (u1 z 21 K) 22 pi) zl (uf (uf (uf (uf f 5 va) 10 pp) 11 li) 12 ty) fl tx) rfl ?_
    refine Rx.le1 rfl rfl ⟨by omega, by omega⟩ (fun b1 => ?_) (fun b1 => ?_)
    · refine Rx.walk 1 (pc' := 189) (L' := [some (.ref 0), some (.int (iz due)), some (.int (iz l)), w3, w4, w5, w6]) (st' := [.int (iz 1)]) (h' := cmH (u1 (u1 z 21 K) 22 pi) zl (uf (uf (uf (uf f 5 va) 10 pp) 11 li) 12 ty) fl tx) rfl ?_
      refine Rx.ret rfl ?_
      exact hx0 _ _ _ (by rw [hbk_0 (by omega)] at hH; rw [hH]; exact ⟨rfl, hM⟩) (Or.inr rfl) (by rw [hbk_0 (by omega)] at hH; rw [hH]; exact h1p)
    · refine m_gback_p _ z zl f fl tx  due l p0 p1 t pp li ty K pi va w w3 w4 w5 w6 hw hva hK hpi hM ⟨by omega, by omega⟩ h1p _ ?_ (0 + 1 : Int).toNat   (by omega) 
      intro fr_2 kd_3 x5_4 x6_5 f6 f7
      refine Rx.walk 0 (pc' := 77) (L' := [some (.ref 0), some (.int (iz due)), some (.int (iz l)), some (.int (iz fr_2)), some (.int (iz kd_3)), x5_4, x6_5]) (st' := []) (h' := cmH (u1 (u1 z 21 K) 22 pi) zl (uf (uf (uf (uf f 5 va) 10 pp) 11 li) 12 ty) fl tx) rfl ?_
      refine Rx.walk 2 (pc' := 80) (L' := [some (.ref 0), some (.int (iz due)), some (.int (iz l)), some (.int (iz fr_2)), some (.int (iz kd_3)), some (.int (iz 0)), x6_5]) (st' := []) (h' := cmH (u1 (u1 z 21 K) 22 pi) zl (uf (uf (uf (uf f 5 va) 10 pp) 11 li) 12 ty) fl tx) rfl ?_
      refine m_gback_t _ z zl f fl tx  due l p0 p1 t fr_2 kd_3 pp li ty K pi va w x6_5 hw hva hK hpi hM ⟨by omega, by omega⟩ f6 f7 _ ?_ ((K - 0) + 1 : Int).toNat 0 fr_2 kd_3 ⟨by omega, by omega⟩ f7 (Or.inr ⟨by omega, rfl, rfl⟩) (by omega) 
      intro fr_8 kd_9 x5_10 f11 f12
      refine Rx.walk 0 (pc' := 138) (L' := [some (.ref 0), some (.int (iz due)), some (.int (iz l)), some (.int (iz fr_8)), some (.int (iz kd_9)), x5_10, x6_5]) (st' := []) (h' := cmH (u1 (u1 z 21 K) 22 pi) zl (uf (uf (uf (uf f 5 va) 10 pp) 11 li) 12 ty) fl tx) rfl ?_
      refine Rx.walk 2 (pc' := 141) (L' := [some (.ref 0), some (.int (iz due)), some (.int (iz l)), some (.int (iz fr_8)), some (.int (iz kd_9)), x5_10, x6_5]) (st' := [.int (iz (-1)), .int (iz kd_9)]) (h' := cmH (u1 (u1 z 21 K) 22 pi) zl (uf (uf (uf (uf f 5 va) 10 pp) 11 li) 12 ty) fl tx) rfl ?_
      refine Rx.ne2 rfl rfl ⟨by omega, by omega⟩ ⟨by omega, by omega⟩ (fun b13 => ?_) (fun b13 => ?_)
      · obtain ⟨hkd1, hkd2⟩ := f12
        obtain ⟨⟨hv0, hv1, hv2⟩, k, rfl, hT2⟩ := gb_step hw hva hm1 hm2 hm4 hm5 hm7 (by omega) hK.2 (by omega) f11 (by omega) hkd1 hkd2 hke
        clear hke
        refine Rx.walk 4 (pc' := 153) (L' := [some (.ref 0), some (.int (iz due)), some (.int (iz l)), some (.int (iz fr_8)), some (.int (iz kd_9)), x5_10, x6_5]) (st' := [.int (iz kd_9), .ref 5, .int (iz l)]) (h' := cmH (u1 (u1 z 21 K) 22 pi) zl (uf (uf (uf (uf f 5 va) 10 pp) 11 li) 12 ty) fl tx) rfl ?_
        refine Rx.ial (g := va) rfl rfl (by omega) (by omega) (by omega) ?_
        refine Rx.isub rfl ?_
        refine Rx.walk 3 (pc' := 158) (L' := [some (.ref 0), some (.int (iz due)), some (.int (iz (l - (va kd_9)))), some (.int (iz fr_8)), some (.int (iz kd_9)), x5_10, x6_5]) (st' := [.int (iz 2), .int (iz fr_8)]) (h' := cmH (u1 (u1 z 21 K) 22 pi) zl (uf (uf (uf (uf f 5 va) 10 pp) 11 li) 12 ty) fl tx) rfl ?_
        refine Rx.ne2 rfl rfl ⟨by omega, by omega⟩ ⟨by omega, by omega⟩ (fun b14 => ?_) (fun b14 => ?_)
        · refine Rx.walk 4 (pc' := 181) (L' := [some (.ref 0), some (.int (iz due)), some (.int (iz (l - (va kd_9)))), some (.int (iz fr_8)), some (.int (iz kd_9)), x5_10, x6_5]) (st' := [.int (iz fr_8), .ref 11, .int (iz fr_8), .ref 11]) (h' := cmH (u1 (u1 z 21 K) 22 pi) zl (uf (uf (uf (uf f 5 va) 10 pp) 11 li) 12 ty) fl tx) rfl ?_
          refine Rx.ial (g := li) rfl rfl (by omega) (by omega) (by omega) ?_
          refine Rx.walk 1 (pc' := 183) (L' := [some (.ref 0), some (.int (iz due)), some (.int (iz (l - (va kd_9)))), some (.int (iz fr_8)), some (.int (iz kd_9)), x5_10, x6_5]) (st' := [.int (iz 1), .int (iz (li fr_8)), .int (iz fr_8), .ref 11]) (h' := cmH (u1 (u1 z 21 K) 22 pi) zl (uf (uf (uf (uf f 5 va) 10 pp) 11 li) 12 ty) fl tx) rfl ?_
          refine Rx.isub rfl ?_
          refine Rx.ias (g := li) (h' := cmH (u1 (u1 z 21 K) 22 pi) zl (uf (uf (uf (uf f 5 va) 10 pp) 11 (iu li fr_8 ((li fr_8) - 1))) 12 ty) fl tx) rfl rfl (by omega) (by omega) (by omega) rfl ?_
          refine Rx.walk 1 (pc' := 2) (L' := [some (.ref 0), some (.int (iz due)), some (.int (iz (l - (va kd_9)))), some (.int (iz fr_8)), some (.int (iz kd_9)), x5_10, x6_5]) (st' := []) (h' := cmH (u1 (u1 z 21 K) 22 pi) zl (uf (uf (uf (uf f 5 va) 10 pp) 11 (iu li fr_8 ((li fr_8) - 1))) 12 ty) fl tx) rfl ?_
          exact ih (l - (va kd_9)) (if fr_8 = 0 then p0 / 5 else p0) (if fr_8 = 0 then p1 else p1 / 5) t (iu li fr_8 ((li fr_8) - 1)) ty k (some (.int (iz fr_8))) (some (.int (iz kd_9))) x5_10 x6_5 (by rcases hT2 with ⟨z2, z3, z4, z5⟩ | ⟨z2, z3, z4, z5⟩ | z; (rw [z2]; rw [if_pos rfl, if_pos rfl]; exact mtI_pop0 hM (by omega)); (rw [z2]; rw [if_neg (by decide), if_neg (by decide)]; exact mtI_pop1 hM (by omega)); (exfalso; omega)) ⟨by omega, by omega⟩ (by rcases hT2 with ⟨z2, z3, z4, z5⟩ | ⟨z2, z3, z4, z5⟩ | z; (rw [z2]; rw [if_pos rfl]; exact h1p); (rw [z2]; rw [if_neg (by decide)]; exact fun y => by rw [h1p y]; rfl); (exfalso; omega)) (by rcases hT2 with ⟨z2, z3, z4, z5⟩ | ⟨z2, z3, z4, z5⟩ | z; (rw [z2]; rw [if_pos rfl, if_pos rfl]; exact z5); (rw [z2]; rw [if_neg (by decide), if_neg (by decide)]; exact z5); (exfalso; omega)) (by rcases hT2 with ⟨z2, z3, z4, z5⟩ | ⟨z2, z3, z4, z5⟩ | z; (rw [z2]; rw [if_pos rfl, if_pos rfl, ← z4]; exact hH); (rw [z2]; rw [if_neg (by decide), if_neg (by decide), ← z4]; exact hH); (exfalso; omega)) (by omega) 
        · obtain ⟨hT3, hT4, hT5⟩ := (hT2.elim (fun z => absurd z.1 (by omega)) (fun z => z.elim (fun z => absurd z.1 (by omega)) (fun z => z.2)))
          refine Rx.walk 4 (pc' := 168) (L' := [some (.ref 0), some (.int (iz due)), some (.int (iz (l - (va kd_9)))), some (.int (iz fr_8)), some (.int (iz kd_9)), x5_10, x6_5]) (st' := [.int (iz kd_9), .ref 12, .int (iz kd_9), .ref 12]) (h' := cmH (u1 (u1 z 21 K) 22 pi) zl (uf (uf (uf (uf f 5 va) 10 pp) 11 li) 12 ty) fl tx) rfl ?_
          refine Rx.ial (g := ty) rfl rfl (by omega) (by omega) (by omega) ?_
          have htx := mtI_ty hM (k := kd_9) (by omega) (by omega)
          refine Rx.walk 1 (pc' := 170) (L' := [some (.ref 0), some (.int (iz due)), some (.int (iz (l - (va kd_9)))), some (.int (iz fr_8)), some (.int (iz kd_9)), x5_10, x6_5]) (st' := [.int (iz 1), .int (iz (ty kd_9)), .int (iz kd_9), .ref 12]) (h' := cmH (u1 (u1 z 21 K) 22 pi) zl (uf (uf (uf (uf f 5 va) 10 pp) 11 li) 12 ty) fl tx) rfl ?_
          refine Rx.isub rfl ?_
          refine Rx.ias (g := ty) (h' := cmH (u1 (u1 z 21 K) 22 pi) zl (uf (uf (uf (uf f 5 va) 10 pp) 11 li) 12 (iu ty kd_9 ((ty kd_9) - 1))) fl tx) rfl rfl (by omega) (by omega) (by omega) rfl ?_
          refine Rx.walk 2 (pc' := 2) (L' := [some (.ref 0), some (.int (iz due)), some (.int (iz (l - (va kd_9)))), some (.int (iz fr_8)), some (.int (iz kd_9)), x5_10, x6_5]) (st' := []) (h' := cmH (u1 (u1 z 21 K) 22 pi) zl (uf (uf (uf (uf f 5 va) 10 pp) 11 li) 12 (iu ty kd_9 ((ty kd_9) - 1))) fl tx) rfl ?_
          exact ih (l - (va kd_9)) p0 p1 0 li (iu ty kd_9 ((ty kd_9) - 1)) k (some (.int (iz fr_8))) (some (.int (iz kd_9))) x5_10 x6_5 (by have q := mtI_tray (k := kd_9) (x := ty kd_9 - 1) hM (by omega) (by omega) (Or.inr ⟨hT3, by omega⟩); rw [if_neg (by omega)] at q; exact q) ⟨by omega, by omega⟩ h1p hT5 (by rw [← hT4]; exact hH) (by omega) 
      · refine Rx.walk 1 (pc' := 145) (L' := [some (.ref 0), some (.int (iz due)), some (.int (iz l)), some (.int (iz fr_8)), some (.int (iz kd_9)), x5_10, x6_5]) (st' := [.int (iz 0)]) (h' := cmH (u1 (u1 z 21 K) 22 pi) zl (uf (uf (uf (uf f 5 va) 10 pp) 11 li) 12 ty) fl tx) rfl ?_
        refine Rx.ret rfl ?_
        exact hx0 _ _ _ (by have hg : bkG w p0 p1 t l = 0 := (by have := (f11).1; omega); have hh : Rz = (0, p0, p1, t) := (by cases k with | zero => (rw [hH, hbk_z (by omega)]) | succ k => (rw [hH, hbk_f (by omega) hg])); rw [hh]; exact ⟨rfl, hM⟩) (Or.inl rfl) (by have hg : bkG w p0 p1 t l = 0 := (by have := (f11).1; omega); have hh : Rz = (0, p0, p1, t) := (by cases k with | zero => (rw [hH, hbk_z (by omega)]) | succ k => (rw [hH, hbk_f (by omega) hg])); rw [hh]; exact h1p)
set_option maxRecDepth 100000 in
set_option maxHeartbeats 4000000 in
theorem m_gback (d : Nat) (z : Nat → Int) (zl : Nat → Int) (f : Nat → Int → Int) (fl : Nat → Int → Int) (tx : Nat)  (due : Int) (p0 : Int) (p1 : Int) (t : Int) (pp : Int → Int) (li : Int → Int) (ty : Int → Int) (K : Int) (pi : Int) (va : Int → Int) (w : Int → Int) (hw : wOK w) (hva : ∀ k : Int, 0 ≤ k → k < K → va k = w (k + 1)) (hK : 1 ≤ K ∧ K ≤ 4) (hpi : pi = 1 ∨ pi = 2) (hM : mtI K pp li ty p0 p1 t) (hl : 0 ≤ due ∧ due ≤ 10000) (h1p : pi = 1 → p1 = 0) : Rx (d + 1) m_X12_givesBack 0 (am_ent [.ref 0, .int (iz due)] 7) [] (cmH (u1 (u1 z 21 K) 22 pi) zl (uf (uf (uf (uf f 5 va) 10 pp) 11 li) 12 ty) fl tx) (fun rv h => ∃ r : Int, ∃ li' : Int → Int, ∃ ty' : Int → Int, rv = some (.int (iz r)) ∧ h = cmH (u1 (u1 z 21 K) 22 pi) zl (uf (uf (uf (uf f 5 va) 10 pp) 11 li') 12 ty') fl tx ∧ (r = (hbk w 11 p0 p1 t due).1 ∧ mtI K pp li' ty' (hbk w 11 p0 p1 t due).2.1 (hbk w 11 p0 p1 t due).2.2.1 (hbk w 11 p0 p1 t due).2.2.2) ∧ (r = 0 ∨ r = 1) ∧ (pi = 1 → (hbk w 11 p0 p1 t due).2.2.1 = 0)) := by
  obtain ⟨⟨hm1, hm2, hm3⟩, ⟨hm4, hm5, hm6⟩, hm7, hm8, hm9⟩ := mtI_b hM
  refine Rx.walk 0 (pc' := 0) (L' := [some (.ref 0), some (.int (iz due)), none, none, none, none, none]) (st' := []) (h' := cmH (u1 (u1 z 21 K) 22 pi) zl (uf (uf (uf (uf f 5 va) 10 pp) 11 li) 12 ty) fl tx) rfl ?_
  refine Rx.walk 2 (pc' := 2) (L' := [some (.ref 0), some (.int (iz due)), some (.int (iz due)), none, none, none, none]) (st' := []) (h' := cmH (u1 (u1 z 21 K) 22 pi) zl (uf (uf (uf (uf f 5 va) 10 pp) 11 li) 12 ty) fl tx) rfl ?_
  refine m_gback_l _ z zl f fl tx  due pp K pi va w (hbk w 11 p0 p1 t due) hw hva hK hpi _ ?_ ((11 : Int) + 1 : Int).toNat due p0 p1 t li ty 11 none none none none hM hl h1p (by have := ht_c p0; have := ht_c p1; split <;> omega) rfl (by omega) 
  intro r_1 li_2 ty_3 f4 f5 f6
  show (fun (rv : Option Value) (h : AmH) => ∃ r : Int, ∃ li' : Int → Int, ∃ ty' : Int → Int, rv = some (.int (iz r)) ∧ h = cmH (u1 (u1 z 21 K) 22 pi) zl (uf (uf (uf (uf f 5 va) 10 pp) 11 li') 12 ty') fl tx ∧ (r = (hbk w 11 p0 p1 t due).1 ∧ mtI K pp li' ty' (hbk w 11 p0 p1 t due).2.1 (hbk w 11 p0 p1 t due).2.2.1 (hbk w 11 p0 p1 t due).2.2.2) ∧ (r = 0 ∨ r = 1) ∧ (pi = 1 → (hbk w 11 p0 p1 t due).2.2.1 = 0)) (some (Value.int (iz r_1))) (cmH (u1 (u1 z 21 K) 22 pi) zl (uf (uf (uf (uf f 5 va) 10 pp) 11 li_2) 12 ty_3) fl tx)
  exact ⟨_, _, _, rfl, rfl, f4, f5, f6⟩

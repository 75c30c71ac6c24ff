/-! the model: beginAt, goOrder, isServed (printed by wip/whole/genmser.py) -/
set_option maxRecDepth 100000 in
set_option maxHeartbeats 4000000 in
theorem m_beginAt (d : Nat) (z : Nat → Int) (zl : Nat → Int) (f : Nat → Int → Int) (fl : Nat → Int → Int) (tx : Nat)  (till : Int) (tmn : Int) (tl : Int → Int) (cu : Int → Int) : Rx (d) m_X12_beginAt 0 (am_ent [.ref 0, .long (jz till)] 3) [] (cmH (u1 z 46 tmn) zl (uf f 20 cu) (uf fl 18 tl) tx) (fun rv h => rv = none ∧ h = cmH (u1 z 46 1) zl (uf f 20 (iu cu 0 0)) (uf fl 18 (iu tl 0 till)) tx) := by
  refine Rx.walk 0 (pc' := 0) (L' := [some (.ref 0), some (.long (jz till)), none]) (st' := []) (h' := cmH (u1 z 46 tmn) zl (uf f 20 cu) (uf fl 18 tl) tx) rfl ?_
  refine Rx.walk 4 (pc' := 6) (L' := [some (.ref 0), some (.long (jz till)), none]) (st' := [.long (jz till), .int (iz 0), .ref 18]) (h' := cmH (u1 z 46 tmn) zl (uf f 20 cu) (uf fl 18 tl) tx) rfl ?_
  refine Rx.las (g := tl) (h' := cmH (u1 z 46 tmn) zl (uf f 20 cu) (uf fl 18 (iu tl 0 till)) tx) rfl rfl (by omega) (by omega) (by omega) rfl ?_
  refine Rx.walk 4 (pc' := 13) (L' := [some (.ref 0), some (.long (jz till)), none]) (st' := [.int (iz 0), .int (iz 0), .ref 20]) (h' := cmH (u1 z 46 tmn) zl (uf f 20 cu) (uf fl 18 (iu tl 0 till)) tx) rfl ?_
  refine Rx.ias (g := cu) (h' := cmH (u1 z 46 tmn) zl (uf f 20 (iu cu 0 0)) (uf fl 18 (iu tl 0 till)) tx) rfl rfl (by omega) (by omega) (by omega) rfl ?_
  refine Rx.walk 3 (pc' := 19) (L' := [some (.ref 0), some (.long (jz till)), none]) (st' := []) (h' := cmH (u1 z 46 1) zl (uf f 20 (iu cu 0 0)) (uf fl 18 (iu tl 0 till)) tx) rfl ?_
  refine Rx.ret rfl ?_
  exact ⟨rfl, rfl⟩
/-- the model's customers: M of them -/
def cuM (K M : Int) (pu prr : Int → Int) : Prop := 0 ≤ M ∧ M ≤ 4 ∧ ∀ c : Int, 0 ≤ c → c < M → (∀ k : Int, 0 ≤ k → k < K → 0 ≤ pu (4 * c + k) ∧ pu (4 * c + k) ≤ 4) ∧ sR K (fun k => pu (4 * c + k)) K.toNat ≤ 4 ∧ pC K (fun k => pu (4 * c + k)) K.toNat ≤ 16 ∧ (1 ≤ prr c ∧ prr c ≤ 99)
/-- a step of the model without going home, as sets -/
theorem mxI_set {n tmn : Int} {tl cu tt ct : Int → Int} {R : Int → Int → Prop} (h : mxI n tt ct (fun v y => ∃ e : Int, 0 ≤ e ∧ e < tmn ∧ ((R (tl e) v ∧ y = cu e + 1) ∨ ((0 : Int) = 1 ∧ v = tl e ∧ y = cu e)))) (v : Int) : v ∈ lsI n.toNat tt ↔ ∃ u, u ∈ lsI tmn.toNat tl ∧ R u v := by
  obtain ⟨a1, a2, a3, a4⟩ := h
  rw [mem_lsI]
  constructor
  · rintro ⟨i, i0, i1, rfl⟩
    obtain ⟨e, e0, e1, h | h⟩ := (a3 i i0 (by omega)).2.2.1
    · exact ⟨tl e, mem_lsI.mpr ⟨e, e0, by omega, rfl⟩, h.1⟩
    · exact absurd h.1 (by decide)
  · rintro ⟨u, hu, hr⟩
    obtain ⟨e, e0, e1, rfl⟩ := mem_lsI.mp hu
    obtain ⟨i, i0, i1, i2⟩ := a4 v (cu e + 1) ⟨e, e0, by omega, Or.inl ⟨hr, rfl⟩⟩
    exact ⟨i, i0, by omega, i2⟩
theorem tooM_set {tmn : Int} {tl cu : Int → Int} {R : Int → Int → Prop} (h : tooM 200 (fun x => ∃ y, (fun v y => ∃ e : Int, 0 ≤ e ∧ e < tmn ∧ ((R (tl e) v ∧ y = cu e + 1) ∨ ((0 : Int) = 1 ∧ v = tl e ∧ y = cu e))) x y)) : tooM 200 (fun v => ∃ u, u ∈ lsI tmn.toNat tl ∧ R u v) := tooM_im h (fun x hx => by
  obtain ⟨y, e, e0, e1, h | h⟩ := hx
  · exact ⟨tl e, mem_lsI.mpr ⟨e, e0, by omega, rfl⟩, h.1⟩
  · exact absurd h.1 (by decide))
theorem mxI_len {n : Int} {tt ct : Int → Int} {A : Int → Int → Prop} (h : mxI n tt ct A) : (lsI n.toNat tt).length ≤ 200 := by
  rw [lsI_len]
  have := h.1
  omega
set_option maxRecDepth 100000 in
set_option maxHeartbeats 4000000 in
theorem m_goOrder (d : Nat) (z : Nat → Int) (zl : Nat → Int) (f : Nat → Int → Int) (fl : Nat → Int → Int) (tx : Nat)  (till : Int) (many : Int) (od : Int → Int) (M : Int) (K : Int) (len : Int) (pi_ : Int) (tr : Int) (va : Int → Int) (w : Int → Int) (pu : Int → Int) (prr : Int → Int) (tmn : Int) (tl : Int → Int) (cu : Int → Int) (pp : Int → Int) (li : Int → Int) (ty : Int → Int) (gv : Int → Int) (rm : Int) (rs : Int → Int) (mk : Int → Int) (mv : Int) (tm : Int) (tt : Int → Int) (ct : Int → Int) (hK : 1 ≤ K) (hlen : 1 ≤ len ∧ len ≤ 5) (hpi : 1 ≤ pi_ ∧ pi_ ≤ 2) (htr : 0 ≤ tr ∧ tr ≤ 1) (hw : wOK w) (hva : ∀ k : Int, 0 ≤ k → k < K → va k = w (k + 1)) (hK4 : K ≤ 4) (hcm : cuM K M pu prr) (hmn : 0 ≤ many ∧ many ≤ 4) (hod : ∀ i : Int, 0 ≤ i → i < many → 0 ≤ od i ∧ od i < M) (hvt : vT K len pi_ till) (hg : ∀ k : Int, 0 ≤ k → k < 4 → 0 ≤ gv k ∧ gv k ≤ 4) (hmv : 0 ≤ mv) (hmk : ∀ j : Int, 0 ≤ j → j < 72000 → 0 ≤ mk j ∧ mk j ≤ mv) (hmv0 : mv + 12800 < 2147483648) : Rx (d + 52) m_X12_goOrder 0 (am_ent [.ref 0, .long (jz till), .int (iz many)] 5) [] (cmH (u1 (u1 (u1 (u1 (u1 (u1 (u1 (u1 z 21 K) 22 pi_) 23 len) 24 tr) 39 rm) 40 mv) 46 tmn) 47 tm) zl (uf (uf (uf (uf (uf (uf (uf (uf (uf (uf (uf f 5 va) 8 prr) 9 pu) 10 pp) 11 li) 12 ty) 16 mk) 17 gv) 20 cu) 21 ct) 22 od) (uf (uf (uf fl 15 rs) 18 tl) 19 tt) tx) (fun rv h => ∃ r : Int, ∃ pp' : Int → Int, ∃ li' : Int → Int, ∃ ty' : Int → Int, ∃ gv' : Int → Int, ∃ rm' : Int, ∃ rs' : Int → Int, ∃ mk' : Int → Int, ∃ mv' : Int, ∃ tm' : Int, ∃ tt' : Int → Int, ∃ ct' : Int → Int, ∃ tmn' : Int, ∃ tl' : Int → Int, ∃ cu' : Int → Int, rv = some (.int (iz r)) ∧ h = cmH (u1 (u1 (u1 (u1 (u1 (u1 (u1 (u1 z 21 K) 22 pi_) 23 len) 24 tr) 39 rm') 40 mv') 46 tmn') 47 tm') zl (uf (uf (uf (uf (uf (uf (uf (uf (uf (uf (uf f 5 va) 8 prr) 9 pu) 10 pp') 11 li') 12 ty') 16 mk') 17 gv') 20 cu') 21 ct') 22 od) (uf (uf (uf fl 15 rs') 18 tl') 19 tt') tx ∧ (∀ k : Int, 0 ≤ k → k < 4 → 0 ≤ gv' k ∧ gv' k ≤ 4) ∧ 0 ≤ mv' ∧ (∀ j : Int, 0 ≤ j → j < 72000 → 0 ≤ mk' j ∧ mk' j ≤ mv') ∧ (mv ≤ mv' ∧ mv' ≤ mv + 12800) ∧ (0 ≤ tmn' ∧ tmn' ≤ 200) ∧ ((r = 0 ∧ thR w K tr len pi_ prr (fun c k => pu (4 * c + k)) (lsI many.toNat od) (fun v => v = till) (-2)) ∨ (r = 1 ∧ thR w K tr len pi_ prr (fun c k => pu (4 * c + k)) (lsI many.toNat od) (fun v => v = till) (if 0 < tmn' then 1 else 0) ∧ (∀ i j : Int, 0 ≤ i → i < j → j < tmn' → tl' i < tl' j) ∧ ∀ v, v ∈ lsI tmn'.toNat tl' ↔ thU w K tr len pi_ prr (fun c k => pu (4 * c + k)) (lsI many.toNat od) (fun v => v = till) v))) := by
  have hM0 := hcm.1
  have hM4 := hcm.2.1
  refine Rx.walk 0 (pc' := 0) (L' := [some (.ref 0), some (.long (jz till)), none, some (.int (iz many)), none]) (st' := []) (h' := cmH (u1 (u1 (u1 (u1 (u1 (u1 (u1 (u1 z 21 K) 22 pi_) 23 len) 24 tr) 39 rm) 40 mv) 46 tmn) 47 tm) zl (uf (uf (uf (uf (uf (uf (uf (uf (uf (uf (uf f 5 va) 8 prr) 9 pu) 10 pp) 11 li) 12 ty) 16 mk) 17 gv) 20 cu) 21 ct) 22 od) (uf (uf (uf fl 15 rs) 18 tl) 19 tt) tx) rfl ?_
  refine Rx.walk 2 (pc' := 2) (L' := [some (.ref 0), some (.long (jz till)), none, some (.int (iz many)), none]) (st' := [.long (jz till), .ref 0]) (h' := cmH (u1 (u1 (u1 (u1 (u1 (u1 (u1 (u1 z 21 K) 22 pi_) 23 len) 24 tr) 39 rm) 40 mv) 46 tmn) 47 tm) zl (uf (uf (uf (uf (uf (uf (uf (uf (uf (uf (uf f 5 va) 8 prr) 9 pu) 10 pp) 11 li) 12 ty) 16 mk) 17 gv) 20 cu) 21 ct) 22 od) (uf (uf (uf fl 15 rs) 18 tl) 19 tt) tx) rfl ?_
  refine Rx.callx (m' := m_X12_beginAt) (as := [.ref 0, .long (jz till)]) (rest := []) rfl (m_beginAt _ (u1 (u1 (u1 (u1 (u1 (u1 (u1 (u1 z 21 K) 22 pi_) 23 len) 24 tr) 39 rm) 40 mv) 46 tmn) 47 tm) zl (uf (uf (uf (uf (uf (uf (uf (uf (uf (uf (uf f 5 va) 8 prr) 9 pu) 10 pp) 11 li) 12 ty) 16 mk) 17 gv) 20 cu) 21 ct) 22 od) (uf (uf (uf fl 15 rs) 18 tl) 19 tt) tx  till tmn tl cu ) (fun v1 h2 q3 => ?_)
  obtain ⟨rfl, rfl⟩ := q3
  refine Rx.walk 0 (pc' := 5) (L' := [some (.ref 0), some (.long (jz till)), none, some (.int (iz many)), none]) (st' := []) (h' := cmH (u1 (u1 (u1 (u1 (u1 (u1 (u1 (u1 z 21 K) 22 pi_) 23 len) 24 tr) 39 rm) 40 mv) 46 1) 47 tm) zl (uf (uf (uf (uf (uf (uf (uf (uf (uf (uf (uf f 5 va) 8 prr) 9 pu) 10 pp) 11 li) 12 ty) 16 mk) 17 gv) 20 (iu cu 0 0)) 21 ct) 22 od) (uf (uf (uf fl 15 rs) 18 (iu tl 0 till)) 19 tt) tx) rfl ?_
  refine Rx.walk 4 (pc' := 11) (L' := [some (.ref 0), some (.long (jz till)), none, some (.int (iz many)), some (.int (iz 0))]) (st' := [.int (iz many), .int (iz 0)]) (h' := cmH (u1 (u1 (u1 (u1 (u1 (u1 (u1 (u1 z 21 K) 22 pi_) 23 len) 24 tr) 39 rm) 40 mv) 46 1) 47 tm) zl (uf (uf (uf (uf (uf (uf (uf (uf (uf (uf (uf f 5 va) 8 prr) 9 pu) 10 pp) 11 li) 12 ty) 16 mk) 17 gv) 20 (iu cu 0 0)) 21 ct) 22 od) (uf (uf (uf fl 15 rs) 18 (iu tl 0 till)) 19 tt) tx) rfl ?_
  refine Rx.ge2 rfl rfl ⟨by omega, by omega⟩ ⟨by omega, by omega⟩ (fun b4 => ?_) (fun b4 => ?_)
  · refine Rx.walk 1 (pc' := 38) (L' := [some (.ref 0), some (.long (jz till)), none, some (.int (iz many)), some (.int (iz 0))]) (st' := [.int (iz 1)]) (h' := cmH (u1 (u1 (u1 (u1 (u1 (u1 (u1 (u1 z 21 K) 22 pi_) 23 len) 24 tr) 39 rm) 40 mv) 46 1) 47 tm) zl (uf (uf (uf (uf (uf (uf (uf (uf (uf (uf (uf f 5 va) 8 prr) 9 pu) 10 pp) 11 li) 12 ty) 16 mk) 17 gv) 20 (iu cu 0 0)) 21 ct) 22 od) (uf (uf (uf fl 15 rs) 18 (iu tl 0 till)) 19 tt) tx) rfl ?_
    refine Rx.ret rfl ?_
    have hst0 : ∀ v, v ∈ lsI (1 : Int).toNat (iu tl 0 till) ↔ v = till := fun v => by show v ∈ [iu tl 0 till 0] ↔ _; rw [iu_at, List.mem_singleton]
    obtain rfl : many = 0 := by omega
    have hbd : 0 ≤ (1 : Int) ∧ (1 : Int) ≤ 200 := ⟨by omega, by omega⟩
    refine ⟨_, _, _, _, _, _, _, _, _, _, _, _, _, _, _, rfl, rfl, hg, hmv, hmk, ⟨by omega, by omega⟩, hbd, Or.inr ⟨rfl, ?_, (fun i j a b c => by omega), fun v => ?_⟩⟩
    · rw [← thR_st hst0]; exact (by by_cases q : 0 < (1 : Int); (rw [if_pos q]; exact thR_1 (by rw [lsI_len]; omega)); (rw [if_neg q]; exact thR_0 (by rw [lsI_len]; omega)))
    · rw [← thR_st hst0]; show _ ↔ thU w K tr len pi_ prr (fun c k => pu (4 * c + k)) [] _ v;  exact Iff.rfl
  · refine Rx.walk 4 (pc' := 21) (L' := [some (.ref 0), some (.long (jz till)), none, some (.int (iz many)), some (.int (iz 0))]) (st' := [.int (iz 0), .ref 22, .ref 0]) (h' := cmH (u1 (u1 (u1 (u1 (u1 (u1 (u1 (u1 z 21 K) 22 pi_) 23 len) 24 tr) 39 rm) 40 mv) 46 1) 47 tm) zl (uf (uf (uf (uf (uf (uf (uf (uf (uf (uf (uf f 5 va) 8 prr) 9 pu) 10 pp) 11 li) 12 ty) 16 mk) 17 gv) 20 (iu cu 0 0)) 21 ct) 22 od) (uf (uf (uf fl 15 rs) 18 (iu tl 0 till)) 19 tt) tx) rfl ?_
    refine Rx.ial (g := od) rfl rfl (by omega) (by omega) (by omega) ?_
    refine Rx.walk 1 (pc' := 23) (L' := [some (.ref 0), some (.long (jz till)), none, some (.int (iz many)), some (.int (iz 0))]) (st' := [.int (iz 0), .int (iz (od 0)), .ref 0]) (h' := cmH (u1 (u1 (u1 (u1 (u1 (u1 (u1 (u1 z 21 K) 22 pi_) 23 len) 24 tr) 39 rm) 40 mv) 46 1) 47 tm) zl (uf (uf (uf (uf (uf (uf (uf (uf (uf (uf (uf f 5 va) 8 prr) 9 pu) 10 pp) 11 li) 12 ty) 16 mk) 17 gv) 20 (iu cu 0 0)) 21 ct) 22 od) (uf (uf (uf fl 15 rs) 18 (iu tl 0 till)) 19 tt) tx) rfl ?_
    have hw0 := hod 0 (by omega) (by omega)
    obtain ⟨hc0a, hc0b, hc0c, hc0d⟩ := hcm.2.2 (od 0) hw0.1 hw0.2
    have hvv0 : ∀ i : Int, 0 ≤ i → i < 1 → vT K len pi_ ((iu tl 0 till) i) ∧ 0 ≤ (iu cu 0 0) i ∧ (iu cu 0 0) i ≤ 0 := fun i a b => by rw [show i = 0 by omega, iu_at, iu_at]; exact ⟨hvt, by omega, by omega⟩
    refine Rx.callx (m' := m_X12_goOn) (as := [.ref 0, .int (iz (od 0)), .int (iz 0)]) (rest := []) rfl (m_goOn _ (u1 (u1 (u1 (u1 (u1 (u1 (u1 (u1 z 21 K) 22 pi_) 23 len) 24 tr) 39 rm) 40 mv) 46 1) 47 tm) zl (uf (uf (uf (uf (uf (uf (uf (uf (uf (uf (uf f 5 va) 8 prr) 9 pu) 10 pp) 11 li) 12 ty) 16 mk) 17 gv) 20 (iu cu 0 0)) 21 ct) 22 od) (uf (uf (uf fl 15 rs) 18 (iu tl 0 till)) 19 tt) tx  (od 0) 0 K len pi_ tr va w pu prr 1 (iu tl 0 till) (iu cu 0 0) pp li ty gv rm rs mk mv tm tt ct (by first | assumption | omega) (by first | assumption | omega) (by first | assumption | omega) (by first | assumption | omega) (by first | assumption | omega) (by first | assumption | omega) ⟨by omega, by omega⟩ hc0a hc0b hc0c hc0d (by first | assumption | omega) (Or.inl rfl) ⟨by omega, by omega⟩ (fun i a b => by have q := hvv0 i a b; exact ⟨q.1, q.2.1, by omega⟩) hg hmv hmk (by first | assumption | omega)) (fun v26 h27 q28 => ?_)
    obtain ⟨r_5, pp_6, li_7, ty_8, gv_9, rm_10, rs_11, mk_12, mv_13, tm_14, tt_15, ct_16, tmn_17, tl_18, cu_19, rfl, rfl, f20, f21, f22, f23, f24, f25⟩ := q28
    refine Rx.walk 0 (pc' := 26) (L' := [some (.ref 0), some (.long (jz till)), none, some (.int (iz many)), some (.int (iz 0))]) (st' := [.int (iz r_5)]) (h' := cmH (u1 (u1 (u1 (u1 (u1 (u1 (u1 (u1 z 21 K) 22 pi_) 23 len) 24 tr) 39 rm_10) 40 mv_13) 46 tmn_17) 47 tm_14) zl (uf (uf (uf (uf (uf (uf (uf (uf (uf (uf (uf f 5 va) 8 prr) 9 pu) 10 pp_6) 11 li_7) 12 ty_8) 16 mk_12) 17 gv_9) 20 cu_19) 21 ct_16) 22 od) (uf (uf (uf fl 15 rs_11) 18 tl_18) 19 tt_15) tx) rfl ?_
    refine Rx.ne1 rfl rfl ⟨by omega, by omega⟩ (fun b29 => ?_) (fun b29 => ?_)
    · refine Rx.iinc (b := 1) rfl rfl rfl ?_
      refine Rx.walk 0 (pc' := 34) (L' := [some (.ref 0), some (.long (jz till)), none, some (.int (iz many)), some (.int (iz 1))]) (st' := []) (h' := cmH (u1 (u1 (u1 (u1 (u1 (u1 (u1 (u1 z 21 K) 22 pi_) 23 len) 24 tr) 39 rm_10) 40 mv_13) 46 tmn_17) 47 tm_14) zl (uf (uf (uf (uf (uf (uf (uf (uf (uf (uf (uf f 5 va) 8 prr) 9 pu) 10 pp_6) 11 li_7) 12 ty_8) 16 mk_12) 17 gv_9) 20 cu_19) 21 ct_16) 22 od) (uf (uf (uf fl 15 rs_11) 18 tl_18) 19 tt_15) tx) rfl ?_
      refine Rx.walk 3 (pc' := 11) (L' := [some (.ref 0), some (.long (jz till)), none, some (.int (iz many)), some (.int (iz 1))]) (st' := [.int (iz many), .int (iz 1)]) (h' := cmH (u1 (u1 (u1 (u1 (u1 (u1 (u1 (u1 z 21 K) 22 pi_) 23 len) 24 tr) 39 rm_10) 40 mv_13) 46 tmn_17) 47 tm_14) zl (uf (uf (uf (uf (uf (uf (uf (uf (uf (uf (uf f 5 va) 8 prr) 9 pu) 10 pp_6) 11 li_7) 12 ty_8) 16 mk_12) 17 gv_9) 20 cu_19) 21 ct_16) 22 od) (uf (uf (uf fl 15 rs_11) 18 tl_18) 19 tt_15) tx) rfl ?_
      refine Rx.ge2 rfl rfl ⟨by omega, by omega⟩ ⟨by omega, by omega⟩ (fun b30 => ?_) (fun b30 => ?_)
      · refine Rx.walk 1 (pc' := 38) (L' := [some (.ref 0), some (.long (jz till)), none, some (.int (iz many)), some (.int (iz 1))]) (st' := [.int (iz 1)]) (h' := cmH (u1 (u1 (u1 (u1 (u1 (u1 (u1 (u1 z 21 K) 22 pi_) 23 len) 24 tr) 39 rm_10) 40 mv_13) 46 tmn_17) 47 tm_14) zl (uf (uf (uf (uf (uf (uf (uf (uf (uf (uf (uf f 5 va) 8 prr) 9 pu) 10 pp_6) 11 li_7) 12 ty_8) 16 mk_12) 17 gv_9) 20 cu_19) 21 ct_16) 22 od) (uf (uf (uf fl 15 rs_11) 18 tl_18) 19 tt_15) tx) rfl ?_
        refine Rx.ret rfl ?_
        have hst0 : ∀ v, v ∈ lsI (1 : Int).toNat (iu tl 0 till) ↔ v = till := fun v => by show v ∈ [iu tl 0 till 0] ↔ _; rw [iu_at, List.mem_singleton]
        obtain ⟨-, hx0⟩ : r_5 = 1 ∧ mxI tmn_17 tl_18 cu_19 _ := by rcases f24 with q | q; exact q; (exfalso; omega)
        have hn0 : ∀ v, v ∈ lsI (tmn_17).toNat tl_18 ↔ nxC w K tr len pi_ prr (fun c k => pu (4 * c + k)) (od 0) (fun v => v ∈ lsI ((1 : Int)).toNat (iu tl 0 till)) v := mxI_set hx0
        obtain rfl : many = 1 := by omega
        have hbd : 0 ≤ tmn_17 ∧ tmn_17 ≤ 200 := hx0.1
        refine ⟨_, _, _, _, _, _, _, _, _, _, _, _, _, _, _, rfl, rfl, f20, f21, f22, ⟨by omega, by omega⟩, hbd, Or.inr ⟨rfl, ?_, hx0.2.1, fun v => ?_⟩⟩
        · rw [← thR_st hst0]; exact (thR_s hn0 (mxI_len hx0) (by by_cases q : 0 < tmn_17; (rw [if_pos q]; exact thR_1 (by rw [lsI_len]; omega)); (rw [if_neg q]; exact thR_0 (by rw [lsI_len]; omega))))
        · rw [← thR_st hst0]; show _ ↔ thU w K tr len pi_ prr (fun c k => pu (4 * c + k)) [od 0] _ v; rw [thU_s hn0]; exact Iff.rfl
      · refine Rx.walk 4 (pc' := 21) (L' := [some (.ref 0), some (.long (jz till)), none, some (.int (iz many)), some (.int (iz 1))]) (st' := [.int (iz 1), .ref 22, .ref 0]) (h' := cmH (u1 (u1 (u1 (u1 (u1 (u1 (u1 (u1 z 21 K) 22 pi_) 23 len) 24 tr) 39 rm_10) 40 mv_13) 46 tmn_17) 47 tm_14) zl (uf (uf (uf (uf (uf (uf (uf (uf (uf (uf (uf f 5 va) 8 prr) 9 pu) 10 pp_6) 11 li_7) 12 ty_8) 16 mk_12) 17 gv_9) 20 cu_19) 21 ct_16) 22 od) (uf (uf (uf fl 15 rs_11) 18 tl_18) 19 tt_15) tx) rfl ?_
        refine Rx.ial (g := od) rfl rfl (by omega) (by omega) (by omega) ?_
        refine Rx.walk 1 (pc' := 23) (L' := [some (.ref 0), some (.long (jz till)), none, some (.int (iz many)), some (.int (iz 1))]) (st' := [.int (iz 0), .int (iz (od 1)), .ref 0]) (h' := cmH (u1 (u1 (u1 (u1 (u1 (u1 (u1 (u1 z 21 K) 22 pi_) 23 len) 24 tr) 39 rm_10) 40 mv_13) 46 tmn_17) 47 tm_14) zl (uf (uf (uf (uf (uf (uf (uf (uf (uf (uf (uf f 5 va) 8 prr) 9 pu) 10 pp_6) 11 li_7) 12 ty_8) 16 mk_12) 17 gv_9) 20 cu_19) 21 ct_16) 22 od) (uf (uf (uf fl 15 rs_11) 18 tl_18) 19 tt_15) tx) rfl ?_
        have hw1 := hod 1 (by omega) (by omega)
        obtain ⟨hc1a, hc1b, hc1c, hc1d⟩ := hcm.2.2 (od 1) hw1.1 hw1.2
        obtain ⟨-, hxx1⟩ : r_5 = 1 ∧ mxI tmn_17 tl_18 cu_19 _ := by rcases f24 with q | q; exact q; (exfalso; omega)
        have hvv1 : ∀ i : Int, 0 ≤ i → i < tmn_17 → vT K len pi_ (tl_18 i) ∧ 0 ≤ cu_19 i ∧ cu_19 i ≤ 1 := fun i a b => by
          obtain ⟨x1, x2, ⟨e, e0, e1, ⟨h1, h2⟩ | h⟩, x4⟩ := hxx1.2.2.1 i a b
          · have q := hvv0 e e0 e1
            exact ⟨resN_vT (by omega) hK4 hlen.2 q.1 h1, by omega, by omega⟩
          · exact absurd h.1 (by decide)
        have hbn1 := hxx1.1
        refine Rx.callx (m' := m_X12_goOn) (as := [.ref 0, .int (iz (od 1)), .int (iz 0)]) (rest := []) rfl (m_goOn _ (u1 (u1 (u1 (u1 (u1 (u1 (u1 (u1 z 21 K) 22 pi_) 23 len) 24 tr) 39 rm_10) 40 mv_13) 46 tmn_17) 47 tm_14) zl (uf (uf (uf (uf (uf (uf (uf (uf (uf (uf (uf f 5 va) 8 prr) 9 pu) 10 pp_6) 11 li_7) 12 ty_8) 16 mk_12) 17 gv_9) 20 cu_19) 21 ct_16) 22 od) (uf (uf (uf fl 15 rs_11) 18 tl_18) 19 tt_15) tx  (od 1) 0 K len pi_ tr va w pu prr tmn_17 tl_18 cu_19 pp_6 li_7 ty_8 gv_9 rm_10 rs_11 mk_12 mv_13 tm_14 tt_15 ct_16 (by first | assumption | omega) (by first | assumption | omega) (by first | assumption | omega) (by first | assumption | omega) (by first | assumption | omega) (by first | assumption | omega) ⟨by omega, by omega⟩ hc1a hc1b hc1c hc1d (by first | assumption | omega) (Or.inl rfl) ⟨by omega, by omega⟩ (fun i a b => by have q := hvv1 i a b; exact ⟨q.1, q.2.1, by omega⟩) f20 f21 f22 (by first | assumption | omega)) (fun v52 h53 q54 => ?_)
        obtain ⟨r_31, pp_32, li_33, ty_34, gv_35, rm_36, rs_37, mk_38, mv_39, tm_40, tt_41, ct_42, tmn_43, tl_44, cu_45, rfl, rfl, f46, f47, f48, f49, f50, f51⟩ := q54
        refine Rx.walk 0 (pc' := 26) (L' := [some (.ref 0), some (.long (jz till)), none, some (.int (iz many)), some (.int (iz 1))]) (st' := [.int (iz r_31)]) (h' := cmH (u1 (u1 (u1 (u1 (u1 (u1 (u1 (u1 z 21 K) 22 pi_) 23 len) 24 tr) 39 rm_36) 40 mv_39) 46 tmn_43) 47 tm_40) zl (uf (uf (uf (uf (uf (uf (uf (uf (uf (uf (uf f 5 va) 8 prr) 9 pu) 10 pp_32) 11 li_33) 12 ty_34) 16 mk_38) 17 gv_35) 20 cu_45) 21 ct_42) 22 od) (uf (uf (uf fl 15 rs_37) 18 tl_44) 19 tt_41) tx) rfl ?_
        refine Rx.ne1 rfl rfl ⟨by omega, by omega⟩ (fun b55 => ?_) (fun b55 => ?_)
        · refine Rx.iinc (b := 1) rfl rfl rfl ?_
          refine Rx.walk 0 (pc' := 34) (L' := [some (.ref 0), some (.long (jz till)), none, some (.int (iz many)), some (.int (iz 2))]) (st' := []) (h' := cmH (u1 (u1 (u1 (u1 (u1 (u1 (u1 (u1 z 21 K) 22 pi_) 23 len) 24 tr) 39 rm_36) 40 mv_39) 46 tmn_43) 47 tm_40) zl (uf (uf (uf (uf (uf (uf (uf (uf (uf (uf (uf f 5 va) 8 prr) 9 pu) 10 pp_32) 11 li_33) 12 ty_34) 16 mk_38) 17 gv_35) 20 cu_45) 21 ct_42) 22 od) (uf (uf (uf fl 15 rs_37) 18 tl_44) 19 tt_41) tx) rfl ?_
          refine Rx.walk 3 (pc' := 11) (L' := [some (.ref 0), some (.long (jz till)), none, some (.int (iz many)), some (.int (iz 2))]) (st' := [.int (iz many), .int (iz 2)]) (h' := cmH (u1 (u1 (u1 (u1 (u1 (u1 (u1 (u1 z 21 K) 22 pi_) 23 len) 24 tr) 39 rm_36) 40 mv_39) 46 tmn_43) 47 tm_40) zl (uf (uf (uf (uf (uf (uf (uf (uf (uf (uf (uf f 5 va) 8 prr) 9 pu) 10 pp_32) 11 li_33) 12 ty_34) 16 mk_38) 17 gv_35) 20 cu_45) 21 ct_42) 22 od) (uf (uf (uf fl 15 rs_37) 18 tl_44) 19 tt_41) tx) rfl ?_
          refine Rx.ge2 rfl rfl ⟨by omega, by omega⟩ ⟨by omega, by omega⟩ (fun b56 => ?_) (fun b56 => ?_)
          · refine Rx.walk 1 (pc' := 38) (L' := [some (.ref 0), some (.long (jz till)), none, some (.int (iz many)), some (.int (iz 2))]) (st' := [.int (iz 1)]) (h' := cmH (u1 (u1 (u1 (u1 (u1 (u1 (u1 (u1 z 21 K) 22 pi_) 23 len) 24 tr) 39 rm_36) 40 mv_39) 46 tmn_43) 47 tm_40) zl (uf (uf (uf (uf (uf (uf (uf (uf (uf (uf (uf f 5 va) 8 prr) 9 pu) 10 pp_32) 11 li_33) 12 ty_34) 16 mk_38) 17 gv_35) 20 cu_45) 21 ct_42) 22 od) (uf (uf (uf fl 15 rs_37) 18 tl_44) 19 tt_41) tx) rfl ?_
            refine Rx.ret rfl ?_
            have hst0 : ∀ v, v ∈ lsI (1 : Int).toNat (iu tl 0 till) ↔ v = till := fun v => by show v ∈ [iu tl 0 till 0] ↔ _; rw [iu_at, List.mem_singleton]
            obtain ⟨-, hx0⟩ : r_5 = 1 ∧ mxI tmn_17 tl_18 cu_19 _ := by rcases f24 with q | q; exact q; (exfalso; omega)
            have hn0 : ∀ v, v ∈ lsI (tmn_17).toNat tl_18 ↔ nxC w K tr len pi_ prr (fun c k => pu (4 * c + k)) (od 0) (fun v => v ∈ lsI ((1 : Int)).toNat (iu tl 0 till)) v := mxI_set hx0
            obtain ⟨-, hx1⟩ : r_31 = 1 ∧ mxI tmn_43 tl_44 cu_45 _ := by rcases f50 with q | q; exact q; (exfalso; omega)
            have hn1 : ∀ v, v ∈ lsI (tmn_43).toNat tl_44 ↔ nxC w K tr len pi_ prr (fun c k => pu (4 * c + k)) (od 1) (fun v => v ∈ lsI (tmn_17).toNat tl_18) v := mxI_set hx1
            obtain rfl : many = 2 := by omega
            have hbd : 0 ≤ tmn_43 ∧ tmn_43 ≤ 200 := hx1.1
            refine ⟨_, _, _, _, _, _, _, _, _, _, _, _, _, _, _, rfl, rfl, f46, f47, f48, ⟨by omega, by omega⟩, hbd, Or.inr ⟨rfl, ?_, hx1.2.1, fun v => ?_⟩⟩
            · rw [← thR_st hst0]; exact (thR_s hn0 (mxI_len hx0) (thR_s hn1 (mxI_len hx1) (by by_cases q : 0 < tmn_43; (rw [if_pos q]; exact thR_1 (by rw [lsI_len]; omega)); (rw [if_neg q]; exact thR_0 (by rw [lsI_len]; omega)))))
            · rw [← thR_st hst0]; show _ ↔ thU w K tr len pi_ prr (fun c k => pu (4 * c + k)) [od 0, od 1] _ v; rw [thU_s hn0]; rw [thU_s hn1]; exact Iff.rfl
          · refine Rx.walk 4 (pc' := 21) (L' := [some (.ref 0), some (.long (jz till)), none, some (.int (iz many)), some (.int (iz 2))]) (st' := [.int (iz 2), .ref 22, .ref 0]) (h' := cmH (u1 (u1 (u1 (u1 (u1 (u1 (u1 (u1 z 21 K) 22 pi_) 23 len) 24 tr) 39 rm_36) 40 mv_39) 46 tmn_43) 47 tm_40) zl (uf (uf (uf (uf (uf (uf (uf (uf (uf (uf (uf f 5 va) 8 prr) 9 pu) 10 pp_32) 11 li_33) 12 ty_34) 16 mk_38) 17 gv_35) 20 cu_45) 21 ct_42) 22 od) (uf (uf (uf fl 15 rs_37) 18 tl_44) 19 tt_41) tx) rfl ?_
            refine Rx.ial (g := od) rfl rfl (by omega) (by omega) (by omega) ?_
            refine Rx.walk 1 (pc' := 23) (L' := [some (.ref 0), some (.long (jz till)), none, some (.int (iz many)), some (.int (iz 2))]) (st' := [.int (iz 0), .int (iz (od 2)), .ref 0]) (h' := cmH (u1 (u1 (u1 (u1 (u1 (u1 (u1 (u1 z 21 K) 22 pi_) 23 len) 24 tr) 39 rm_36) 40 mv_39) 46 tmn_43) 47 tm_40) zl (uf (uf (uf (uf (uf (uf (uf (uf (uf (uf (uf f 5 va) 8 prr) 9 pu) 10 pp_32) 11 li_33) 12 ty_34) 16 mk_38) 17 gv_35) 20 cu_45) 21 ct_42) 22 od) (uf (uf (uf fl 15 rs_37) 18 tl_44) 19 tt_41) tx) rfl ?_
            have hw2 := hod 2 (by omega) (by omega)
            obtain ⟨hc2a, hc2b, hc2c, hc2d⟩ := hcm.2.2 (od 2) hw2.1 hw2.2
            obtain ⟨-, hxx2⟩ : r_31 = 1 ∧ mxI tmn_43 tl_44 cu_45 _ := by rcases f50 with q | q; exact q; (exfalso; omega)
            have hvv2 : ∀ i : Int, 0 ≤ i → i < tmn_43 → vT K len pi_ (tl_44 i) ∧ 0 ≤ cu_45 i ∧ cu_45 i ≤ 2 := fun i a b => by
              obtain ⟨x1, x2, ⟨e, e0, e1, ⟨h1, h2⟩ | h⟩, x4⟩ := hxx2.2.2.1 i a b
              · have q := hvv1 e e0 e1
                exact ⟨resN_vT (by omega) hK4 hlen.2 q.1 h1, by omega, by omega⟩
              · exact absurd h.1 (by decide)
            have hbn2 := hxx2.1
            refine Rx.callx (m' := m_X12_goOn) (as := [.ref 0, .int (iz (od 2)), .int (iz 0)]) (rest := []) rfl (m_goOn _ (u1 (u1 (u1 (u1 (u1 (u1 (u1 (u1 z 21 K) 22 pi_) 23 len) 24 tr) 39 rm_36) 40 mv_39) 46 tmn_43) 47 tm_40) zl (uf (uf (uf (uf (uf (uf (uf (uf (uf (uf (uf f 5 va) 8 prr) 9 pu) 10 pp_32) 11 li_33) 12 ty_34) 16 mk_38) 17 gv_35) 20 cu_45) 21 ct_42) 22 od) (uf (uf (uf fl 15 rs_37) 18 tl_44) 19 tt_41) tx  (od 2) 0 K len pi_ tr va w pu prr tmn_43 tl_44 cu_45 pp_32 li_33 ty_34 gv_35 rm_36 rs_37 mk_38 mv_39 tm_40 tt_41 ct_42 (by first | assumption | omega) (by first | assumption | omega) (by first | assumption | omega) (by first | assumption | omega) (by first | assumption | omega) (by first | assumption | omega) ⟨by omega, by omega⟩ hc2a hc2b hc2c hc2d (by first | assumption | omega) (Or.inl rfl) ⟨by omega, by omega⟩ (fun i a b => by have q := hvv2 i a b; exact ⟨q.1, q.2.1, by omega⟩) f46 f47 f48 (by first | assumption | omega)) (fun v78 h79 q80 => ?_)
            obtain ⟨r_57, pp_58, li_59, ty_60, gv_61, rm_62, rs_63, mk_64, mv_65, tm_66, tt_67, ct_68, tmn_69, tl_70, cu_71, rfl, rfl, f72, f73, f74, f75, f76, f77⟩ := q80
            refine Rx.walk 0 (pc' := 26) (L' := [some (.ref 0), some (.long (jz till)), none, some (.int (iz many)), some (.int (iz 2))]) (st' := [.int (iz r_57)]) (h' := cmH (u1 (u1 (u1 (u1 (u1 (u1 (u1 (u1 z 21 K) 22 pi_) 23 len) 24 tr) 39 rm_62) 40 mv_65) 46 tmn_69) 47 tm_66) zl (uf (uf (uf (uf (uf (uf (uf (uf (uf (uf (uf f 5 va) 8 prr) 9 pu) 10 pp_58) 11 li_59) 12 ty_60) 16 mk_64) 17 gv_61) 20 cu_71) 21 ct_68) 22 od) (uf (uf (uf fl 15 rs_63) 18 tl_70) 19 tt_67) tx) rfl ?_
            refine Rx.ne1 rfl rfl ⟨by omega, by omega⟩ (fun b81 => ?_) (fun b81 => ?_)
            · refine Rx.iinc (b := 1) rfl rfl rfl ?_
              refine Rx.walk 0 (pc' := 34) (L' := [some (.ref 0), some (.long (jz till)), none, some (.int (iz many)), some (.int (iz 3))]) (st' := []) (h' := cmH (u1 (u1 (u1 (u1 (u1 (u1 (u1 (u1 z 21 K) 22 pi_) 23 len) 24 tr) 39 rm_62) 40 mv_65) 46 tmn_69) 47 tm_66) zl (uf (uf (uf (uf (uf (uf (uf (uf (uf (uf (uf f 5 va) 8 prr) 9 pu) 10 pp_58) 11 li_59) 12 ty_60) 16 mk_64) 17 gv_61) 20 cu_71) 21 ct_68) 22 od) (uf (uf (uf fl 15 rs_63) 18 tl_70) 19 tt_67) tx) rfl ?_
              refine Rx.walk 3 (pc' := 11) (L' := [some (.ref 0), some (.long (jz till)), none, some (.int (iz many)), some (.int (iz 3))]) (st' := [.int (iz many), .int (iz 3)]) (h' := cmH (u1 (u1 (u1 (u1 (u1 (u1 (u1 (u1 z 21 K) 22 pi_) 23 len) 24 tr) 39 rm_62) 40 mv_65) 46 tmn_69) 47 tm_66) zl (uf (uf (uf (uf (uf (uf (uf (uf (uf (uf (uf f 5 va) 8 prr) 9 pu) 10 pp_58) 11 li_59) 12 ty_60) 16 mk_64) 17 gv_61) 20 cu_71) 21 ct_68) 22 od) (uf (uf (uf fl 15 rs_63) 18 tl_70) 19 tt_67) tx) rfl ?_
              refine Rx.ge2 rfl rfl ⟨by omega, by omega⟩ ⟨by omega, by omega⟩ (fun b82 => ?_) (fun b82 => ?_)
              · refine Rx.walk 1 (pc' := 38) (L' := [some (.ref 0), some (.long (jz till)), none, some (.int (iz many)), some (.int (iz 3))]) (st' := [.int (iz 1)]) (h' := cmH (u1 (u1 (u1 (u1 (u1 (u1 (u1 (u1 z 21 K) 22 pi_) 23 len) 24 tr) 39 rm_62) 40 mv_65) 46 tmn_69) 47 tm_66) zl (uf (uf (uf (uf (uf (uf (uf (uf (uf (uf (uf f 5 va) 8 prr) 9 pu) 10 pp_58) 11 li_59) 12 ty_60) 16 mk_64) 17 gv_61) 20 cu_71) 21 ct_68) 22 od) (uf (uf (uf fl 15 rs_63) 18 tl_70) 19 tt_67) tx) rfl ?_
                refine Rx.ret rfl ?_
                have hst0 : ∀ v, v ∈ lsI (1 : Int).toNat (iu tl 0 till) ↔ v = till := fun v => by show v ∈ [iu tl 0 till 0] ↔ _; rw [iu_at, List.mem_singleton]
                obtain ⟨-, hx0⟩ : r_5 = 1 ∧ mxI tmn_17 tl_18 cu_19 _ := by rcases f24 with q | q; exact q; (exfalso; omega)
                have hn0 : ∀ v, v ∈ lsI (tmn_17).toNat tl_18 ↔ nxC w K tr len pi_ prr (fun c k => pu (4 * c + k)) (od 0) (fun v => v ∈ lsI ((1 : Int)).toNat (iu tl 0 till)) v := mxI_set hx0
                obtain ⟨-, hx1⟩ : r_31 = 1 ∧ mxI tmn_43 tl_44 cu_45 _ := by rcases f50 with q | q; exact q; (exfalso; omega)
                have hn1 : ∀ v, v ∈ lsI (tmn_43).toNat tl_44 ↔ nxC w K tr len pi_ prr (fun c k => pu (4 * c + k)) (od 1) (fun v => v ∈ lsI (tmn_17).toNat tl_18) v := mxI_set hx1
                obtain ⟨-, hx2⟩ : r_57 = 1 ∧ mxI tmn_69 tl_70 cu_71 _ := by rcases f76 with q | q; exact q; (exfalso; omega)
                have hn2 : ∀ v, v ∈ lsI (tmn_69).toNat tl_70 ↔ nxC w K tr len pi_ prr (fun c k => pu (4 * c + k)) (od 2) (fun v => v ∈ lsI (tmn_43).toNat tl_44) v := mxI_set hx2
                obtain rfl : many = 3 := by omega
                have hbd : 0 ≤ tmn_69 ∧ tmn_69 ≤ 200 := hx2.1
                refine ⟨_, _, _, _, _, _, _, _, _, _, _, _, _, _, _, rfl, rfl, f72, f73, f74, ⟨by omega, by omega⟩, hbd, Or.inr ⟨rfl, ?_, hx2.2.1, fun v => ?_⟩⟩
                · rw [← thR_st hst0]; exact (thR_s hn0 (mxI_len hx0) (thR_s hn1 (mxI_len hx1) (thR_s hn2 (mxI_len hx2) (by by_cases q : 0 < tmn_69; (rw [if_pos q]; exact thR_1 (by rw [lsI_len]; omega)); (rw [if_neg q]; exact thR_0 (by rw [lsI_len]; omega))))))
                · rw [← thR_st hst0]; show _ ↔ thU w K tr len pi_ prr (fun c k => pu (4 * c + k)) [od 0, od 1, od 2] _ v; rw [thU_s hn0]; rw [thU_s hn1]; rw [thU_s hn2]; exact Iff.rfl
              · refine Rx.walk 4 (pc' := 21) (L' := [some (.ref 0), some (.long (jz till)), none, some (.int (iz many)), some (.int (iz 3))]) (st' := [.int (iz 3), .ref 22, .ref 0]) (h' := cmH (u1 (u1 (u1 (u1 (u1 (u1 (u1 (u1 z 21 K) 22 pi_) 23 len) 24 tr) 39 rm_62) 40 mv_65) 46 tmn_69) 47 tm_66) zl (uf (uf (uf (uf (uf (uf (uf (uf (uf (uf (uf f 5 va) 8 prr) 9 pu) 10 pp_58) 11 li_59) 12 ty_60) 16 mk_64) 17 gv_61) 20 cu_71) 21 ct_68) 22 od) (uf (uf (uf fl 15 rs_63) 18 tl_70) 19 tt_67) tx) rfl ?_
                refine Rx.ial (g := od) rfl rfl (by omega) (by omega) (by omega) ?_
                refine Rx.walk 1 (pc' := 23) (L' := [some (.ref 0), some (.long (jz till)), none, some (.int (iz many)), some (.int (iz 3))]) (st' := [.int (iz 0), .int (iz (od 3)), .ref 0]) (h' := cmH (u1 (u1 (u1 (u1 (u1 (u1 (u1 (u1 z 21 K) 22 pi_) 23 len) 24 tr) 39 rm_62) 40 mv_65) 46 tmn_69) 47 tm_66) zl (uf (uf (uf (uf (uf (uf (uf (uf (uf (uf (uf f 5 va) 8 prr) 9 pu) 10 pp_58) 11 li_59) 12 ty_60) 16 mk_64) 17 gv_61) 20 cu_71) 21 ct_68) 22 od) (uf (uf (uf fl 15 rs_63) 18 tl_70) 19 tt_67) tx) rfl ?_
                have hw3 := hod 3 (by omega) (by omega)
                obtain ⟨hc3a, hc3b, hc3c, hc3d⟩ := hcm.2.2 (od 3) hw3.1 hw3.2
                obtain ⟨-, hxx3⟩ : r_57 = 1 ∧ mxI tmn_69 tl_70 cu_71 _ := by rcases f76 with q | q; exact q; (exfalso; omega)
                have hvv3 : ∀ i : Int, 0 ≤ i → i < tmn_69 → vT K len pi_ (tl_70 i) ∧ 0 ≤ cu_71 i ∧ cu_71 i ≤ 3 := fun i a b => by
                  obtain ⟨x1, x2, ⟨e, e0, e1, ⟨h1, h2⟩ | h⟩, x4⟩ := hxx3.2.2.1 i a b
                  · have q := hvv2 e e0 e1
                    exact ⟨resN_vT (by omega) hK4 hlen.2 q.1 h1, by omega, by omega⟩
                  · exact absurd h.1 (by decide)
                have hbn3 := hxx3.1
                refine Rx.callx (m' := m_X12_goOn) (as := [.ref 0, .int (iz (od 3)), .int (iz 0)]) (rest := []) rfl (m_goOn _ (u1 (u1 (u1 (u1 (u1 (u1 (u1 (u1 z 21 K) 22 pi_) 23 len) 24 tr) 39 rm_62) 40 mv_65) 46 tmn_69) 47 tm_66) zl (uf (uf (uf (uf (uf (uf (uf (uf (uf (uf (uf f 5 va) 8 prr) 9 pu) 10 pp_58) 11 li_59) 12 ty_60) 16 mk_64) 17 gv_61) 20 cu_71) 21 ct_68) 22 od) (uf (uf (uf fl 15 rs_63) 18 tl_70) 19 tt_67) tx  (od 3) 0 K len pi_ tr va w pu prr tmn_69 tl_70 cu_71 pp_58 li_59 ty_60 gv_61 rm_62 rs_63 mk_64 mv_65 tm_66 tt_67 ct_68 (by first | assumption | omega) (by first | assumption | omega) (by first | assumption | omega) (by first | assumption | omega) (by first | assumption | omega) (by first | assumption | omega) ⟨by omega, by omega⟩ hc3a hc3b hc3c hc3d (by first | assumption | omega) (Or.inl rfl) ⟨by omega, by omega⟩ (fun i a b => by have q := hvv3 i a b; exact ⟨q.1, q.2.1, by omega⟩) f72 f73 f74 (by first | assumption | omega)) (fun v104 h105 q106 => ?_)
                obtain ⟨r_83, pp_84, li_85, ty_86, gv_87, rm_88, rs_89, mk_90, mv_91, tm_92, tt_93, ct_94, tmn_95, tl_96, cu_97, rfl, rfl, f98, f99, f100, f101, f102, f103⟩ := q106
                refine Rx.walk 0 (pc' := 26) (L' := [some (.ref 0), some (.long (jz till)), none, some (.int (iz many)), some (.int (iz 3))]) (st' := [.int (iz r_83)]) (h' := cmH (u1 (u1 (u1 (u1 (u1 (u1 (u1 (u1 z 21 K) 22 pi_) 23 len) 24 tr) 39 rm_88) 40 mv_91) 46 tmn_95) 47 tm_92) zl (uf (uf (uf (uf (uf (uf (uf (uf (uf (uf (uf f 5 va) 8 prr) 9 pu) 10 pp_84) 11 li_85) 12 ty_86) 16 mk_90) 17 gv_87) 20 cu_97) 21 ct_94) 22 od) (uf (uf (uf fl 15 rs_89) 18 tl_96) 19 tt_93) tx) rfl ?_
                refine Rx.ne1 rfl rfl ⟨by omega, by omega⟩ (fun b107 => ?_) (fun b107 => ?_)
                · refine Rx.iinc (b := 1) rfl rfl rfl ?_
                  refine Rx.walk 0 (pc' := 34) (L' := [some (.ref 0), some (.long (jz till)), none, some (.int (iz many)), some (.int (iz 4))]) (st' := []) (h' := cmH (u1 (u1 (u1 (u1 (u1 (u1 (u1 (u1 z 21 K) 22 pi_) 23 len) 24 tr) 39 rm_88) 40 mv_91) 46 tmn_95) 47 tm_92) zl (uf (uf (uf (uf (uf (uf (uf (uf (uf (uf (uf f 5 va) 8 prr) 9 pu) 10 pp_84) 11 li_85) 12 ty_86) 16 mk_90) 17 gv_87) 20 cu_97) 21 ct_94) 22 od) (uf (uf (uf fl 15 rs_89) 18 tl_96) 19 tt_93) tx) rfl ?_
                  refine Rx.walk 3 (pc' := 11) (L' := [some (.ref 0), some (.long (jz till)), none, some (.int (iz many)), some (.int (iz 4))]) (st' := [.int (iz many), .int (iz 4)]) (h' := cmH (u1 (u1 (u1 (u1 (u1 (u1 (u1 (u1 z 21 K) 22 pi_) 23 len) 24 tr) 39 rm_88) 40 mv_91) 46 tmn_95) 47 tm_92) zl (uf (uf (uf (uf (uf (uf (uf (uf (uf (uf (uf f 5 va) 8 prr) 9 pu) 10 pp_84) 11 li_85) 12 ty_86) 16 mk_90) 17 gv_87) 20 cu_97) 21 ct_94) 22 od) (uf (uf (uf fl 15 rs_89) 18 tl_96) 19 tt_93) tx) rfl ?_
                  refine Rx.ge2 rfl rfl ⟨by omega, by omega⟩ ⟨by omega, by omega⟩ (fun b108 => ?_) (fun b108 => by omega)
                  refine Rx.walk 1 (pc' := 38) (L' := [some (.ref 0), some (.long (jz till)), none, some (.int (iz many)), some (.int (iz 4))]) (st' := [.int (iz 1)]) (h' := cmH (u1 (u1 (u1 (u1 (u1 (u1 (u1 (u1 z 21 K) 22 pi_) 23 len) 24 tr) 39 rm_88) 40 mv_91) 46 tmn_95) 47 tm_92) zl (uf (uf (uf (uf (uf (uf (uf (uf (uf (uf (uf f 5 va) 8 prr) 9 pu) 10 pp_84) 11 li_85) 12 ty_86) 16 mk_90) 17 gv_87) 20 cu_97) 21 ct_94) 22 od) (uf (uf (uf fl 15 rs_89) 18 tl_96) 19 tt_93) tx) rfl ?_
                  refine Rx.ret rfl ?_
                  have hst0 : ∀ v, v ∈ lsI (1 : Int).toNat (iu tl 0 till) ↔ v = till := fun v => by show v ∈ [iu tl 0 till 0] ↔ _; rw [iu_at, List.mem_singleton]
                  obtain ⟨-, hx0⟩ : r_5 = 1 ∧ mxI tmn_17 tl_18 cu_19 _ := by rcases f24 with q | q; exact q; (exfalso; omega)
                  have hn0 : ∀ v, v ∈ lsI (tmn_17).toNat tl_18 ↔ nxC w K tr len pi_ prr (fun c k => pu (4 * c + k)) (od 0) (fun v => v ∈ lsI ((1 : Int)).toNat (iu tl 0 till)) v := mxI_set hx0
                  obtain ⟨-, hx1⟩ : r_31 = 1 ∧ mxI tmn_43 tl_44 cu_45 _ := by rcases f50 with q | q; exact q; (exfalso; omega)
                  have hn1 : ∀ v, v ∈ lsI (tmn_43).toNat tl_44 ↔ nxC w K tr len pi_ prr (fun c k => pu (4 * c + k)) (od 1) (fun v => v ∈ lsI (tmn_17).toNat tl_18) v := mxI_set hx1
                  obtain ⟨-, hx2⟩ : r_57 = 1 ∧ mxI tmn_69 tl_70 cu_71 _ := by rcases f76 with q | q; exact q; (exfalso; omega)
                  have hn2 : ∀ v, v ∈ lsI (tmn_69).toNat tl_70 ↔ nxC w K tr len pi_ prr (fun c k => pu (4 * c + k)) (od 2) (fun v => v ∈ lsI (tmn_43).toNat tl_44) v := mxI_set hx2
                  obtain ⟨-, hx3⟩ : r_83 = 1 ∧ mxI tmn_95 tl_96 cu_97 _ := by rcases f102 with q | q; exact q; (exfalso; omega)
                  have hn3 : ∀ v, v ∈ lsI (tmn_95).toNat tl_96 ↔ nxC w K tr len pi_ prr (fun c k => pu (4 * c + k)) (od 3) (fun v => v ∈ lsI (tmn_69).toNat tl_70) v := mxI_set hx3
                  obtain rfl : many = 4 := by omega
                  have hbd : 0 ≤ tmn_95 ∧ tmn_95 ≤ 200 := hx3.1
                  refine ⟨_, _, _, _, _, _, _, _, _, _, _, _, _, _, _, rfl, rfl, f98, f99, f100, ⟨by omega, by omega⟩, hbd, Or.inr ⟨rfl, ?_, hx3.2.1, fun v => ?_⟩⟩
                  · rw [← thR_st hst0]; exact (thR_s hn0 (mxI_len hx0) (thR_s hn1 (mxI_len hx1) (thR_s hn2 (mxI_len hx2) (thR_s hn3 (mxI_len hx3) (by by_cases q : 0 < tmn_95; (rw [if_pos q]; exact thR_1 (by rw [lsI_len]; omega)); (rw [if_neg q]; exact thR_0 (by rw [lsI_len]; omega)))))))
                  · rw [← thR_st hst0]; show _ ↔ thU w K tr len pi_ prr (fun c k => pu (4 * c + k)) [od 0, od 1, od 2, od 3] _ v; rw [thU_s hn0]; rw [thU_s hn1]; rw [thU_s hn2]; rw [thU_s hn3]; exact Iff.rfl
                · refine Rx.walk 1 (pc' := 30) (L' := [some (.ref 0), some (.long (jz till)), none, some (.int (iz many)), some (.int (iz 3))]) (st' := [.int (iz 0)]) (h' := cmH (u1 (u1 (u1 (u1 (u1 (u1 (u1 (u1 z 21 K) 22 pi_) 23 len) 24 tr) 39 rm_88) 40 mv_91) 46 tmn_95) 47 tm_92) zl (uf (uf (uf (uf (uf (uf (uf (uf (uf (uf (uf f 5 va) 8 prr) 9 pu) 10 pp_84) 11 li_85) 12 ty_86) 16 mk_90) 17 gv_87) 20 cu_97) 21 ct_94) 22 od) (uf (uf (uf fl 15 rs_89) 18 tl_96) 19 tt_93) tx) rfl ?_
                  refine Rx.ret rfl ?_
                  have hst0 : ∀ v, v ∈ lsI (1 : Int).toNat (iu tl 0 till) ↔ v = till := fun v => by show v ∈ [iu tl 0 till 0] ↔ _; rw [iu_at, List.mem_singleton]
                  obtain ⟨-, hx0⟩ : r_5 = 1 ∧ mxI tmn_17 tl_18 cu_19 _ := by rcases f24 with q | q; exact q; (exfalso; omega)
                  have hn0 : ∀ v, v ∈ lsI (tmn_17).toNat tl_18 ↔ nxC w K tr len pi_ prr (fun c k => pu (4 * c + k)) (od 0) (fun v => v ∈ lsI ((1 : Int)).toNat (iu tl 0 till)) v := mxI_set hx0
                  obtain ⟨-, hx1⟩ : r_31 = 1 ∧ mxI tmn_43 tl_44 cu_45 _ := by rcases f50 with q | q; exact q; (exfalso; omega)
                  have hn1 : ∀ v, v ∈ lsI (tmn_43).toNat tl_44 ↔ nxC w K tr len pi_ prr (fun c k => pu (4 * c + k)) (od 1) (fun v => v ∈ lsI (tmn_17).toNat tl_18) v := mxI_set hx1
                  obtain ⟨-, hx2⟩ : r_57 = 1 ∧ mxI tmn_69 tl_70 cu_71 _ := by rcases f76 with q | q; exact q; (exfalso; omega)
                  have hn2 : ∀ v, v ∈ lsI (tmn_69).toNat tl_70 ↔ nxC w K tr len pi_ prr (fun c k => pu (4 * c + k)) (od 2) (fun v => v ∈ lsI (tmn_43).toNat tl_44) v := mxI_set hx2
                  have hn3 : tooM 200 (nxC w K tr len pi_ prr (fun c k => pu (4 * c + k)) (od 3) (fun v => v ∈ lsI (tmn_69).toNat tl_70)) := by rcases f102 with q | q; (exfalso; omega); exact tooM_set q.2
                  have el : ∃ l, lsI many.toNat od = od 0 :: od 1 :: od 2 :: od 3 :: l := by
                    obtain rfl : many = 4 := by omega
                    exact ⟨_, rfl⟩
                  obtain ⟨l, el⟩ := el
                  refine ⟨_, _, _, _, _, _, _, _, _, _, _, _, _, _, _, rfl, rfl, f98, f99, f100, ⟨by omega, by omega⟩, f103, Or.inl ⟨rfl, ?_⟩⟩
                  rw [el, ← thR_st hst0]
                  exact (thR_s hn0 (mxI_len hx0) (thR_s hn1 (mxI_len hx1) (thR_s hn2 (mxI_len hx2) (thR_h hn3))))
            · refine Rx.walk 1 (pc' := 30) (L' := [some (.ref 0), some (.long (jz till)), none, some (.int (iz many)), some (.int (iz 2))]) (st' := [.int (iz 0)]) (h' := cmH (u1 (u1 (u1 (u1 (u1 (u1 (u1 (u1 z 21 K) 22 pi_) 23 len) 24 tr) 39 rm_62) 40 mv_65) 46 tmn_69) 47 tm_66) zl (uf (uf (uf (uf (uf (uf (uf (uf (uf (uf (uf f 5 va) 8 prr) 9 pu) 10 pp_58) 11 li_59) 12 ty_60) 16 mk_64) 17 gv_61) 20 cu_71) 21 ct_68) 22 od) (uf (uf (uf fl 15 rs_63) 18 tl_70) 19 tt_67) tx) rfl ?_
              refine Rx.ret rfl ?_
              have hst0 : ∀ v, v ∈ lsI (1 : Int).toNat (iu tl 0 till) ↔ v = till := fun v => by show v ∈ [iu tl 0 till 0] ↔ _; rw [iu_at, List.mem_singleton]
              obtain ⟨-, hx0⟩ : r_5 = 1 ∧ mxI tmn_17 tl_18 cu_19 _ := by rcases f24 with q | q; exact q; (exfalso; omega)
              have hn0 : ∀ v, v ∈ lsI (tmn_17).toNat tl_18 ↔ nxC w K tr len pi_ prr (fun c k => pu (4 * c + k)) (od 0) (fun v => v ∈ lsI ((1 : Int)).toNat (iu tl 0 till)) v := mxI_set hx0
              obtain ⟨-, hx1⟩ : r_31 = 1 ∧ mxI tmn_43 tl_44 cu_45 _ := by rcases f50 with q | q; exact q; (exfalso; omega)
              have hn1 : ∀ v, v ∈ lsI (tmn_43).toNat tl_44 ↔ nxC w K tr len pi_ prr (fun c k => pu (4 * c + k)) (od 1) (fun v => v ∈ lsI (tmn_17).toNat tl_18) v := mxI_set hx1
              have hn2 : tooM 200 (nxC w K tr len pi_ prr (fun c k => pu (4 * c + k)) (od 2) (fun v => v ∈ lsI (tmn_43).toNat tl_44)) := by rcases f76 with q | q; (exfalso; omega); exact tooM_set q.2
              have el : ∃ l, lsI many.toNat od = od 0 :: od 1 :: od 2 :: l := by
                rcases (show many = 3 ∨ many = 4 by omega) with rfl | rfl
                all_goals exact ⟨_, rfl⟩
              obtain ⟨l, el⟩ := el
              refine ⟨_, _, _, _, _, _, _, _, _, _, _, _, _, _, _, rfl, rfl, f72, f73, f74, ⟨by omega, by omega⟩, f77, Or.inl ⟨rfl, ?_⟩⟩
              rw [el, ← thR_st hst0]
              exact (thR_s hn0 (mxI_len hx0) (thR_s hn1 (mxI_len hx1) (thR_h hn2)))
        · refine Rx.walk 1 (pc' := 30) (L' := [some (.ref 0), some (.long (jz till)), none, some (.int (iz many)), some (.int (iz 1))]) (st' := [.int (iz 0)]) (h' := cmH (u1 (u1 (u1 (u1 (u1 (u1 (u1 (u1 z 21 K) 22 pi_) 23 len) 24 tr) 39 rm_36) 40 mv_39) 46 tmn_43) 47 tm_40) zl (uf (uf (uf (uf (uf (uf (uf (uf (uf (uf (uf f 5 va) 8 prr) 9 pu) 10 pp_32) 11 li_33) 12 ty_34) 16 mk_38) 17 gv_35) 20 cu_45) 21 ct_42) 22 od) (uf (uf (uf fl 15 rs_37) 18 tl_44) 19 tt_41) tx) rfl ?_
          refine Rx.ret rfl ?_
          have hst0 : ∀ v, v ∈ lsI (1 : Int).toNat (iu tl 0 till) ↔ v = till := fun v => by show v ∈ [iu tl 0 till 0] ↔ _; rw [iu_at, List.mem_singleton]
          obtain ⟨-, hx0⟩ : r_5 = 1 ∧ mxI tmn_17 tl_18 cu_19 _ := by rcases f24 with q | q; exact q; (exfalso; omega)
          have hn0 : ∀ v, v ∈ lsI (tmn_17).toNat tl_18 ↔ nxC w K tr len pi_ prr (fun c k => pu (4 * c + k)) (od 0) (fun v => v ∈ lsI ((1 : Int)).toNat (iu tl 0 till)) v := mxI_set hx0
          have hn1 : tooM 200 (nxC w K tr len pi_ prr (fun c k => pu (4 * c + k)) (od 1) (fun v => v ∈ lsI (tmn_17).toNat tl_18)) := by rcases f50 with q | q; (exfalso; omega); exact tooM_set q.2
          have el : ∃ l, lsI many.toNat od = od 0 :: od 1 :: l := by
            rcases (show many = 2 ∨ many = 3 ∨ many = 4 by omega) with rfl | rfl | rfl
            all_goals exact ⟨_, rfl⟩
          obtain ⟨l, el⟩ := el
          refine ⟨_, _, _, _, _, _, _, _, _, _, _, _, _, _, _, rfl, rfl, f46, f47, f48, ⟨by omega, by omega⟩, f51, Or.inl ⟨rfl, ?_⟩⟩
          rw [el, ← thR_st hst0]
          exact (thR_s hn0 (mxI_len hx0) (thR_h hn1))
    · refine Rx.walk 1 (pc' := 30) (L' := [some (.ref 0), some (.long (jz till)), none, some (.int (iz many)), some (.int (iz 0))]) (st' := [.int (iz 0)]) (h' := cmH (u1 (u1 (u1 (u1 (u1 (u1 (u1 (u1 z 21 K) 22 pi_) 23 len) 24 tr) 39 rm_10) 40 mv_13) 46 tmn_17) 47 tm_14) zl (uf (uf (uf (uf (uf (uf (uf (uf (uf (uf (uf f 5 va) 8 prr) 9 pu) 10 pp_6) 11 li_7) 12 ty_8) 16 mk_12) 17 gv_9) 20 cu_19) 21 ct_16) 22 od) (uf (uf (uf fl 15 rs_11) 18 tl_18) 19 tt_15) tx) rfl ?_
      refine Rx.ret rfl ?_
      have hst0 : ∀ v, v ∈ lsI (1 : Int).toNat (iu tl 0 till) ↔ v = till := fun v => by show v ∈ [iu tl 0 till 0] ↔ _; rw [iu_at, List.mem_singleton]
      have hn0 : tooM 200 (nxC w K tr len pi_ prr (fun c k => pu (4 * c + k)) (od 0) (fun v => v ∈ lsI ((1 : Int)).toNat (iu tl 0 till))) := by rcases f24 with q | q; (exfalso; omega); exact tooM_set q.2
      have el : ∃ l, lsI many.toNat od = od 0 :: l := by
        rcases (show many = 1 ∨ many = 2 ∨ many = 3 ∨ many = 4 by omega) with rfl | rfl | rfl | rfl
        all_goals exact ⟨_, rfl⟩
      obtain ⟨l, el⟩ := el
      refine ⟨_, _, _, _, _, _, _, _, _, _, _, _, _, _, _, rfl, rfl, f20, f21, f22, ⟨by omega, by omega⟩, f25, Or.inl ⟨rfl, ?_⟩⟩
      rw [el, ← thR_st hst0]
      exact (thR_h hn0)

/-! chain of the model (printed by wip/whole/genchnm.py) -/
theorem lsI_pre {n : Nat} {g : Int → Int} {p : List Int} {c : Int} (h : lsI (n + 1) g = p ++ [c]) : lsI n g = p := by
  rw [lsI_succ] at h
  exact (List.append_inj' h rfl).1
theorem lsI_push {n : Nat} {g : Int → Int} {p : List Int} {c : Int} (h : lsI n g = p) : lsI (n + 1) (iu g (n : Int) c) = p ++ [c] := by
  rw [lsI_succ, iu_at, lsI_congr (g := iu g (n : Int) c) (h := g) (fun i i0 i1 => iu_ne _ _ (by omega)), h]
theorem lsI_in {n : Nat} {g : Int → Int} {p : List Int} {M : Int} (h : lsI n g = p) (hp : inR M p) : ∀ i : Int, 0 ≤ i → i < n → 0 ≤ g i ∧ g i < M := fun i a b => hp _ (by rw [← h]; exact mem_lsI.mpr ⟨i, a, b, rfl⟩)
def pw2 (M : Int) : Int := if M = 0 then 1 else if M = 1 then 2 else if M = 2 then 4 else if M = 3 then 8 else 16
theorem pw2_b (M : Int) : 1 ≤ pw2 M ∧ pw2 M ≤ 16 := by
  unfold pw2
  split
  · omega
  · split
    · omega
    · split
      · omega
      · split <;> omega
theorem pw2_shl {M : Int} (h0 : 0 ≤ M) (h1 : M ≤ 4) : iz 1 <<< (iz M &&& 31) = iz (pw2 M) := by
  rcases (show M = 0 ∨ M = 1 ∨ M = 2 ∨ M = 3 ∨ M = 4 by omega) with rfl | rfl | rfl | rfl | rfl <;> decide
theorem pw2_hb16 : ∀ m : Fin 5, ∀ s : Fin 16, (((s : Nat) : Int) < pw2 ((m : Nat) : Int) ↔ ∀ x : Fin 4, hb ((s : Nat) : Int) ((x : Nat) : Int) = 1 → ((x : Nat) : Int) < ((m : Nat) : Int)) := by decide +kernel
theorem pw2_hb {M s : Int} (h0 : 0 ≤ M) (h1 : M ≤ 4) (s0 : 0 ≤ s) (s1 : s < 16) : s < pw2 M ↔ ∀ x : Int, 0 ≤ x → x < 4 → hb s x = 1 → x < M := by
  obtain ⟨y, rfl⟩ := f16 s0 s1
  have hm : ∃ m : Fin 5, M = ((m : Nat) : Int) := ⟨⟨M.toNat, by omega⟩, by show M = (M.toNat : Int); omega⟩
  obtain ⟨m, rfl⟩ := hm
  rw [pw2_hb16 m y]
  constructor
  · intro h x x0 x1 q
    obtain ⟨x, rfl⟩ := f4 x0 x1
    exact h x q
  · intro h x q
    exact h _ (by omega) (by have := x.2; omega) q
theorem eL_M {M s : Int} {e : List Int} (h0 : 0 ≤ M) (h1 : M ≤ 4) (s0 : 0 ≤ s) (s1 : s < pw2 M) : eL s e ↔ okL M e ∧ sO e = s := by
  have hb16 := (pw2_b M).2
  constructor
  · rintro ⟨h, hs⟩
    refine ⟨⟨fun x hx => ?_, h.2⟩, hs⟩
    have hx4 := h.1 x hx
    refine ⟨hx4.1, (pw2_hb h0 h1 s0 (by omega)).mp s1 x hx4.1 hx4.2 ?_⟩
    rw [← hs]
    exact ((sO_b h.1).2 x hx4.1 hx4.2).mpr hx
  · rintro ⟨h, hs⟩
    exact ⟨⟨inR_m h.1 h1, h.2⟩, hs⟩
theorem sO_M {M : Int} {e : List Int} (h0 : 0 ≤ M) (h1 : M ≤ 4) (h : okL M e) : 0 ≤ sO e ∧ sO e < pw2 M := by
  obtain ⟨a, b⟩ := sO_b (inR_m h.1 h1)
  exact ⟨a.1, (pw2_hb h0 h1 a.1 a.2).mpr (fun x x0 x1 q => (h.1 x ((b x x0 x1).mp q)).2)⟩
set_option maxRecDepth 100000 in
set_option maxHeartbeats 4000000 in
theorem m_goChain4 (d : Nat) (z : Nat → Int) (zl : Nat → Int) (f : Nat → Int → Int) (fl : Nat → Int → Int) (tx : Nat)  (left : Int) (p : List Int) (till : Int) (M : Int) (K : Int) (len : Int) (pi_ : Int) (tr : Int) (va : Int → Int) (w : Int → Int) (pu : Int → Int) (prr : Int → Int) (to : Int) (ha : Int) (od : Int → Int) (tmn : Int) (tl : Int → Int) (cu : Int → Int) (pp : Int → Int) (li : Int → Int) (ty : Int → Int) (gv : Int → Int) (rm : Int) (rs : Int → Int) (mk : Int → Int) (mv : Int) (tm : Int) (tt : Int → Int) (ct : Int → Int) (hK : 1 ≤ K) (hlen : 1 ≤ len ∧ len ≤ 5) (hpi : 1 ≤ pi_ ∧ pi_ ≤ 2) (htr : 0 ≤ tr ∧ tr ≤ 1) (hw : wOK w) (hva : ∀ k : Int, 0 ≤ k → k < K → va k = w (k + 1)) (hK4 : K ≤ 4) (hcm : cuM K M pu prr) (hvt : vT K len pi_ till) (hin : inR M p ∧ p.length = 4) (hleft : 0 ≤ left ∧ left < 16) (hlm : ∀ x : Int, 0 ≤ x → x < 4 → hb left x = 1 → x < M) (hrb : rb left 0 ≤ 0) (hg : ∀ k : Int, 0 ≤ k → k < 4 → 0 ≤ gv k ∧ gv k ≤ 4) (hmv : 0 ≤ mv) (hmk : ∀ j : Int, 0 ≤ j → j < 72000 → 0 ≤ mk j ∧ mk j ≤ mv) (htn : 0 ≤ tmn ∧ tmn ≤ 200) (hod : lsI 4 od = p) (hto : to = 0 ∨ to = 1) (hha : ha = 0 ∨ ha = 1) (hmv0 : mv + 12800 < 2147483648) : Rx (d + 53) m_X12_goChain 0 (am_ent [.ref 0, .int (iz left), .int (iz 4), .long (jz till)] 6) [] (cmH (u1 (u1 (u1 (u1 (u1 (u1 (u1 (u1 (u1 (u1 (u1 z 21 K) 22 pi_) 23 len) 24 tr) 28 M) 39 rm) 40 mv) 46 tmn) 47 tm) 56 ha) 57 to) zl (uf (uf (uf (uf (uf (uf (uf (uf (uf (uf (uf f 5 va) 8 prr) 9 pu) 10 pp) 11 li) 12 ty) 16 mk) 17 gv) 20 cu) 21 ct) 22 od) (uf (uf (uf fl 15 rs) 18 tl) 19 tt) tx) (fun rv h => ∃ to' : Int, ∃ ha' : Int, ∃ od' : Int → Int, ∃ pp' : Int → Int, ∃ li' : Int → Int, ∃ ty' : Int → Int, ∃ gv' : Int → Int, ∃ rm' : Int, ∃ rs' : Int → Int, ∃ mk' : Int → Int, ∃ mv' : Int, ∃ tm' : Int, ∃ tt' : Int → Int, ∃ ct' : Int → Int, ∃ tmn' : Int, ∃ tl' : Int → Int, ∃ cu' : Int → Int, rv = none ∧ h = cmH (u1 (u1 (u1 (u1 (u1 (u1 (u1 (u1 (u1 (u1 (u1 z 21 K) 22 pi_) 23 len) 24 tr) 28 M) 39 rm') 40 mv') 46 tmn') 47 tm') 56 ha') 57 to') zl (uf (uf (uf (uf (uf (uf (uf (uf (uf (uf (uf f 5 va) 8 prr) 9 pu) 10 pp') 11 li') 12 ty') 16 mk') 17 gv') 20 cu') 21 ct') 22 od') (uf (uf (uf fl 15 rs') 18 tl') 19 tt') tx ∧ (∀ k : Int, 0 ≤ k → k < 4 → 0 ≤ gv' k ∧ gv' k ≤ 4) ∧ 0 ≤ mv' ∧ (∀ j : Int, 0 ≤ j → j < 72000 → 0 ≤ mk' j ∧ mk' j ≤ mv') ∧ (mv ≤ mv' ∧ mv' ≤ mv + 12800) ∧ (0 ≤ tmn' ∧ tmn' ≤ 200) ∧ lsI 4 od' = p ∧ gcX (gcA (fun l r => thR w K tr len pi_ prr (fun c k => pu (4 * c + k)) l (fun v => v = till) r) p left) to ha to' ha') := by
  have hM0 := hcm.1
  have hM4 := hcm.2.1
  have hrn := rb_nn left 0
  have hl0 := rb_0 hleft.1 hleft.2 hrb
  refine Rx.walk 0 (pc' := 0) (L' := [some (.ref 0), some (.int (iz left)), some (.int (iz 4)), some (.long (jz till)), none, none]) (st' := []) (h' := cmH (u1 (u1 (u1 (u1 (u1 (u1 (u1 (u1 (u1 (u1 (u1 z 21 K) 22 pi_) 23 len) 24 tr) 28 M) 39 rm) 40 mv) 46 tmn) 47 tm) 56 ha) 57 to) zl (uf (uf (uf (uf (uf (uf (uf (uf (uf (uf (uf f 5 va) 8 prr) 9 pu) 10 pp) 11 li) 12 ty) 16 mk) 17 gv) 20 cu) 21 ct) 22 od) (uf (uf (uf fl 15 rs) 18 tl) 19 tt) tx) rfl ?_
  refine Rx.walk 1 (pc' := 1) (L' := [some (.ref 0), some (.int (iz left)), some (.int (iz 4)), some (.long (jz till)), none, none]) (st' := [.int (iz left)]) (h' := cmH (u1 (u1 (u1 (u1 (u1 (u1 (u1 (u1 (u1 (u1 (u1 z 21 K) 22 pi_) 23 len) 24 tr) 28 M) 39 rm) 40 mv) 46 tmn) 47 tm) 56 ha) 57 to) zl (uf (uf (uf (uf (uf (uf (uf (uf (uf (uf (uf f 5 va) 8 prr) 9 pu) 10 pp) 11 li) 12 ty) 16 mk) 17 gv) 20 cu) 21 ct) 22 od) (uf (uf (uf fl 15 rs) 18 tl) 19 tt) tx) rfl ?_
  refine Rx.ne1 rfl rfl ⟨by omega, by omega⟩ (fun b1 => by omega) (fun b1 => ?_)
  refine Rx.walk 3 (pc' := 9) (L' := [some (.ref 0), some (.int (iz left)), some (.int (iz 4)), some (.long (jz till)), none, none]) (st' := [.int (iz to), .ref 0]) (h' := cmH (u1 (u1 (u1 (u1 (u1 (u1 (u1 (u1 (u1 (u1 (u1 z 21 K) 22 pi_) 23 len) 24 tr) 28 M) 39 rm) 40 mv) 46 tmn) 47 tm) 56 ha) 57 to) zl (uf (uf (uf (uf (uf (uf (uf (uf (uf (uf (uf f 5 va) 8 prr) 9 pu) 10 pp) 11 li) 12 ty) 16 mk) 17 gv) 20 cu) 21 ct) 22 od) (uf (uf (uf fl 15 rs) 18 tl) 19 tt) tx) rfl ?_
  refine Rx.eq1 rfl rfl ⟨by omega, by omega⟩ (fun b2 => ?_) (fun b2 => ?_)
  · refine Rx.walk 5 (pc' := 34) (L' := [some (.ref 0), some (.int (iz left)), some (.int (iz 4)), some (.long (jz till)), none, none]) (st' := [.int (iz ha), .ref 0]) (h' := cmH (u1 (u1 (u1 (u1 (u1 (u1 (u1 (u1 (u1 (u1 (u1 z 21 K) 22 pi_) 23 len) 24 tr) 28 M) 39 rm) 40 mv) 46 tmn) 47 tm) 56 ha) 57 0) zl (uf (uf (uf (uf (uf (uf (uf (uf (uf (uf (uf f 5 va) 8 prr) 9 pu) 10 pp) 11 li) 12 ty) 16 mk) 17 gv) 20 cu) 21 ct) 22 od) (uf (uf (uf fl 15 rs) 18 tl) 19 tt) tx) rfl ?_
    refine Rx.ne1 rfl rfl ⟨by omega, by omega⟩ (fun b3 => ?_) (fun b3 => ?_)
    · refine Rx.walk 3 (pc' := 59) (L' := [some (.ref 0), some (.int (iz left)), some (.int (iz 4)), some (.long (jz till)), none, none]) (st' := []) (h' := cmH (u1 (u1 (u1 (u1 (u1 (u1 (u1 (u1 (u1 (u1 (u1 z 21 K) 22 pi_) 23 len) 24 tr) 28 M) 39 rm) 40 mv) 46 tmn) 47 tm) 56 1) 57 0) zl (uf (uf (uf (uf (uf (uf (uf (uf (uf (uf (uf f 5 va) 8 prr) 9 pu) 10 pp) 11 li) 12 ty) 16 mk) 17 gv) 20 cu) 21 ct) 22 od) (uf (uf (uf fl 15 rs) 18 tl) 19 tt) tx) rfl ?_
      refine Rx.ret rfl ?_
      have hl0 : left = 0 := by omega
      subst hl0
      refine ⟨_, _, _, _, _, _, _, _, _, _, _, _, _, _, _, _, _, rfl, rfl, hg, hmv, hmk, ⟨by omega, by omega⟩, htn, hod, ⟨by omega, by omega, fun q => by omega, fun q => Or.inl (by omega)⟩⟩
    · refine Rx.walk 2 (pc' := 41) (L' := [some (.ref 0), some (.int (iz left)), some (.int (iz 4)), some (.long (jz till)), none, none]) (st' := [.int (iz 0), .ref 0]) (h' := cmH (u1 (u1 (u1 (u1 (u1 (u1 (u1 (u1 (u1 (u1 (u1 z 21 K) 22 pi_) 23 len) 24 tr) 28 M) 39 rm) 40 mv) 46 tmn) 47 tm) 56 ha) 57 0) zl (uf (uf (uf (uf (uf (uf (uf (uf (uf (uf (uf f 5 va) 8 prr) 9 pu) 10 pp) 11 li) 12 ty) 16 mk) 17 gv) 20 cu) 21 ct) 22 od) (uf (uf (uf fl 15 rs) 18 tl) 19 tt) tx) rfl ?_
      refine Rx.eq1 rfl rfl ⟨by omega, by omega⟩ (fun b4 => ?_) (fun b4 => by omega)
      refine Rx.walk 2 (pc' := 59) (L' := [some (.ref 0), some (.int (iz left)), some (.int (iz 4)), some (.long (jz till)), none, none]) (st' := []) (h' := cmH (u1 (u1 (u1 (u1 (u1 (u1 (u1 (u1 (u1 (u1 (u1 z 21 K) 22 pi_) 23 len) 24 tr) 28 M) 39 rm) 40 mv) 46 tmn) 47 tm) 56 0) 57 0) zl (uf (uf (uf (uf (uf (uf (uf (uf (uf (uf (uf f 5 va) 8 prr) 9 pu) 10 pp) 11 li) 12 ty) 16 mk) 17 gv) 20 cu) 21 ct) 22 od) (uf (uf (uf fl 15 rs) 18 tl) 19 tt) tx) rfl ?_
      refine Rx.ret rfl ?_
      have hl0 : left = 0 := by omega
      subst hl0
      refine ⟨_, _, _, _, _, _, _, _, _, _, _, _, _, _, _, _, _, rfl, rfl, hg, hmv, hmk, ⟨by omega, by omega⟩, htn, hod, ⟨by omega, by omega, fun q => by omega, fun q => Or.inl (by omega)⟩⟩
  · refine Rx.walk 3 (pc' := 15) (L' := [some (.ref 0), some (.int (iz left)), some (.int (iz 4)), some (.long (jz till)), none, none]) (st' := [.int (iz 4), .long (jz till), .ref 0, .ref 0]) (h' := cmH (u1 (u1 (u1 (u1 (u1 (u1 (u1 (u1 (u1 (u1 (u1 z 21 K) 22 pi_) 23 len) 24 tr) 28 M) 39 rm) 40 mv) 46 tmn) 47 tm) 56 ha) 57 to) zl (uf (uf (uf (uf (uf (uf (uf (uf (uf (uf (uf f 5 va) 8 prr) 9 pu) 10 pp) 11 li) 12 ty) 16 mk) 17 gv) 20 cu) 21 ct) 22 od) (uf (uf (uf fl 15 rs) 18 tl) 19 tt) tx) rfl ?_
    refine Rx.callx (m' := m_X12_goOrder) (as := [.ref 0, .long (jz till), .int (iz 4)]) (rest := [.ref 0]) rfl (m_goOrder _ (u1 (u1 (u1 (u1 (u1 (u1 (u1 (u1 (u1 (u1 (u1 z 21 K) 22 pi_) 23 len) 24 tr) 28 M) 39 rm) 40 mv) 46 tmn) 47 tm) 56 ha) 57 to) zl (uf (uf (uf (uf (uf (uf (uf (uf (uf (uf (uf f 5 va) 8 prr) 9 pu) 10 pp) 11 li) 12 ty) 16 mk) 17 gv) 20 cu) 21 ct) 22 od) (uf (uf (uf fl 15 rs) 18 tl) 19 tt) tx  till 4 od M K len pi_ tr va w pu prr tmn tl cu pp li ty gv rm rs mk mv tm tt ct (by first | assumption | omega) (by first | assumption | omega) (by first | assumption | omega) (by first | assumption | omega) (by first | assumption | omega) (by first | assumption | omega) (by first | assumption | omega) (by first | assumption | omega) ⟨by omega, by omega⟩ (fun i a b => lsI_in hod hin.1 i a (by omega)) hvt hg (by first | assumption | omega) hmk (by omega)) (fun v26 h27 q28 => ?_)
    obtain ⟨r_5, pp_6, li_7, ty_8, gv_9, rm_10, rs_11, mk_12, mv_13, tm_14, tt_15, ct_16, tmn_17, tl_18, cu_19, rfl, rfl, f20, f21, f22, f23, f24, f25⟩ := q28
    refine Rx.walk 0 (pc' := 18) (L' := [some (.ref 0), some (.int (iz left)), some (.int (iz 4)), some (.long (jz till)), none, none]) (st' := [.int (iz r_5), .ref 0]) (h' := cmH (u1 (u1 (u1 (u1 (u1 (u1 (u1 (u1 (u1 (u1 (u1 z 21 K) 22 pi_) 23 len) 24 tr) 28 M) 39 rm_10) 40 mv_13) 46 tmn_17) 47 tm_14) 56 ha) 57 to) zl (uf (uf (uf (uf (uf (uf (uf (uf (uf (uf (uf f 5 va) 8 prr) 9 pu) 10 pp_6) 11 li_7) 12 ty_8) 16 mk_12) 17 gv_9) 20 cu_19) 21 ct_16) 22 od) (uf (uf (uf fl 15 rs_11) 18 tl_18) 19 tt_15) tx) rfl ?_
    refine Rx.eq1 rfl rfl ⟨by omega, by omega⟩ (fun b29 => ?_) (fun b29 => ?_)
    · refine Rx.walk 5 (pc' := 34) (L' := [some (.ref 0), some (.int (iz left)), some (.int (iz 4)), some (.long (jz till)), none, none]) (st' := [.int (iz ha), .ref 0]) (h' := cmH (u1 (u1 (u1 (u1 (u1 (u1 (u1 (u1 (u1 (u1 (u1 z 21 K) 22 pi_) 23 len) 24 tr) 28 M) 39 rm_10) 40 mv_13) 46 tmn_17) 47 tm_14) 56 ha) 57 0) zl (uf (uf (uf (uf (uf (uf (uf (uf (uf (uf (uf f 5 va) 8 prr) 9 pu) 10 pp_6) 11 li_7) 12 ty_8) 16 mk_12) 17 gv_9) 20 cu_19) 21 ct_16) 22 od) (uf (uf (uf fl 15 rs_11) 18 tl_18) 19 tt_15) tx) rfl ?_
      refine Rx.ne1 rfl rfl ⟨by omega, by omega⟩ (fun b30 => ?_) (fun b30 => ?_)
      · refine Rx.walk 3 (pc' := 59) (L' := [some (.ref 0), some (.int (iz left)), some (.int (iz 4)), some (.long (jz till)), none, none]) (st' := []) (h' := cmH (u1 (u1 (u1 (u1 (u1 (u1 (u1 (u1 (u1 (u1 (u1 z 21 K) 22 pi_) 23 len) 24 tr) 28 M) 39 rm_10) 40 mv_13) 46 tmn_17) 47 tm_14) 56 1) 57 0) zl (uf (uf (uf (uf (uf (uf (uf (uf (uf (uf (uf f 5 va) 8 prr) 9 pu) 10 pp_6) 11 li_7) 12 ty_8) 16 mk_12) 17 gv_9) 20 cu_19) 21 ct_16) 22 od) (uf (uf (uf fl 15 rs_11) 18 tl_18) 19 tt_15) tx) rfl ?_
        refine Rx.ret rfl ?_
        have hl0 : left = 0 := by omega
        subst hl0
        refine ⟨_, _, _, _, _, _, _, _, _, _, _, _, _, _, _, _, _, rfl, rfl, f20, f21, f22, ⟨by omega, by omega⟩, f24, hod, ⟨by omega, by omega, ?_, ?_⟩⟩
        · exact fun q => by omega
        · intro _
          refine Or.inr ⟨[], eL_0.mpr rfl, ?_⟩
          rw [List.append_nil, ← hod]
          rcases f25 with q | q
          · exact q.2
          · exfalso; omega
      · refine Rx.walk 2 (pc' := 41) (L' := [some (.ref 0), some (.int (iz left)), some (.int (iz 4)), some (.long (jz till)), none, none]) (st' := [.int (iz 0), .ref 0]) (h' := cmH (u1 (u1 (u1 (u1 (u1 (u1 (u1 (u1 (u1 (u1 (u1 z 21 K) 22 pi_) 23 len) 24 tr) 28 M) 39 rm_10) 40 mv_13) 46 tmn_17) 47 tm_14) 56 ha) 57 0) zl (uf (uf (uf (uf (uf (uf (uf (uf (uf (uf (uf f 5 va) 8 prr) 9 pu) 10 pp_6) 11 li_7) 12 ty_8) 16 mk_12) 17 gv_9) 20 cu_19) 21 ct_16) 22 od) (uf (uf (uf fl 15 rs_11) 18 tl_18) 19 tt_15) tx) rfl ?_
        refine Rx.eq1 rfl rfl ⟨by omega, by omega⟩ (fun b31 => ?_) (fun b31 => by omega)
        refine Rx.walk 2 (pc' := 59) (L' := [some (.ref 0), some (.int (iz left)), some (.int (iz 4)), some (.long (jz till)), none, none]) (st' := []) (h' := cmH (u1 (u1 (u1 (u1 (u1 (u1 (u1 (u1 (u1 (u1 (u1 z 21 K) 22 pi_) 23 len) 24 tr) 28 M) 39 rm_10) 40 mv_13) 46 tmn_17) 47 tm_14) 56 0) 57 0) zl (uf (uf (uf (uf (uf (uf (uf (uf (uf (uf (uf f 5 va) 8 prr) 9 pu) 10 pp_6) 11 li_7) 12 ty_8) 16 mk_12) 17 gv_9) 20 cu_19) 21 ct_16) 22 od) (uf (uf (uf fl 15 rs_11) 18 tl_18) 19 tt_15) tx) rfl ?_
        refine Rx.ret rfl ?_
        have hl0 : left = 0 := by omega
        subst hl0
        refine ⟨_, _, _, _, _, _, _, _, _, _, _, _, _, _, _, _, _, rfl, rfl, f20, f21, f22, ⟨by omega, by omega⟩, f24, hod, ⟨by omega, by omega, ?_, ?_⟩⟩
        · exact fun q => by omega
        · intro _
          refine Or.inr ⟨[], eL_0.mpr rfl, ?_⟩
          rw [List.append_nil, ← hod]
          rcases f25 with q | q
          · exact q.2
          · exfalso; omega
    · refine Rx.walk 6 (pc' := 34) (L' := [some (.ref 0), some (.int (iz left)), some (.int (iz 4)), some (.long (jz till)), none, none]) (st' := [.int (iz ha), .ref 0]) (h' := cmH (u1 (u1 (u1 (u1 (u1 (u1 (u1 (u1 (u1 (u1 (u1 z 21 K) 22 pi_) 23 len) 24 tr) 28 M) 39 rm_10) 40 mv_13) 46 tmn_17) 47 tm_14) 56 ha) 57 1) zl (uf (uf (uf (uf (uf (uf (uf (uf (uf (uf (uf f 5 va) 8 prr) 9 pu) 10 pp_6) 11 li_7) 12 ty_8) 16 mk_12) 17 gv_9) 20 cu_19) 21 ct_16) 22 od) (uf (uf (uf fl 15 rs_11) 18 tl_18) 19 tt_15) tx) rfl ?_
      refine Rx.ne1 rfl rfl ⟨by omega, by omega⟩ (fun b32 => ?_) (fun b32 => ?_)
      · refine Rx.walk 3 (pc' := 59) (L' := [some (.ref 0), some (.int (iz left)), some (.int (iz 4)), some (.long (jz till)), none, none]) (st' := []) (h' := cmH (u1 (u1 (u1 (u1 (u1 (u1 (u1 (u1 (u1 (u1 (u1 z 21 K) 22 pi_) 23 len) 24 tr) 28 M) 39 rm_10) 40 mv_13) 46 tmn_17) 47 tm_14) 56 1) 57 1) zl (uf (uf (uf (uf (uf (uf (uf (uf (uf (uf (uf f 5 va) 8 prr) 9 pu) 10 pp_6) 11 li_7) 12 ty_8) 16 mk_12) 17 gv_9) 20 cu_19) 21 ct_16) 22 od) (uf (uf (uf fl 15 rs_11) 18 tl_18) 19 tt_15) tx) rfl ?_
        refine Rx.ret rfl ?_
        have hl0 : left = 0 := by omega
        subst hl0
        obtain ⟨-, hx1, -⟩ : r_5 = 1 ∧ _ ∧ _ := by rcases f25 with q | q; (exfalso; omega); exact q
        have hx2 : (fun l r => thR w K tr len pi_ prr (fun c k => pu (4 * c + k)) l (fun v => v = till) r) p (if 0 < tmn_17 then 1 else 0) := by rw [← hod]; exact hx1
        have huq : ∀ l a b, (fun l r => thR w K tr len pi_ prr (fun c k => pu (4 * c + k)) l (fun v => v = till) r) l a → (fun l r => thR w K tr len pi_ prr (fun c k => pu (4 * c + k)) l (fun v => v = till) r) l b → a = b := fun l a b x y => thR_uq x y
        refine ⟨_, _, _, _, _, _, _, _, _, _, _, _, _, _, _, _, _, rfl, rfl, f20, f21, f22, ⟨by omega, by omega⟩, f24, hod, ⟨by omega, by omega, ?_, ?_⟩⟩
        · intro _
          refine ⟨by omega, ?_, ?_⟩
          · rintro ⟨e, e1, e2⟩
            rw [eL_0.mp e1, List.append_nil] at e2
            have := huq _ _ _ e2 hx2
            split at this <;> omega
          · constructor
            · intro _
              by_cases hq : ha = 1
              · exact Or.inl hq
              · refine Or.inr ⟨[], eL_0.mpr rfl, ?_⟩
                rw [List.append_nil]
                rw [if_pos (by omega)] at hx2
                exact hx2
            · rintro (q | ⟨e, e1, e2⟩)
              · omega
              · have e3 : (fun l r => thR w K tr len pi_ prr (fun c k => pu (4 * c + k)) l (fun v => v = till) r) p 1 := by have e4 := e2; rw [eL_0.mp e1, List.append_nil] at e4; exact e4
                have := huq _ _ _ e3 hx2
                split at this <;> omega
        · intro q; omega
      · refine Rx.walk 2 (pc' := 41) (L' := [some (.ref 0), some (.int (iz left)), some (.int (iz 4)), some (.long (jz till)), none, none]) (st' := [.int (iz 1), .ref 0]) (h' := cmH (u1 (u1 (u1 (u1 (u1 (u1 (u1 (u1 (u1 (u1 (u1 z 21 K) 22 pi_) 23 len) 24 tr) 28 M) 39 rm_10) 40 mv_13) 46 tmn_17) 47 tm_14) 56 ha) 57 1) zl (uf (uf (uf (uf (uf (uf (uf (uf (uf (uf (uf f 5 va) 8 prr) 9 pu) 10 pp_6) 11 li_7) 12 ty_8) 16 mk_12) 17 gv_9) 20 cu_19) 21 ct_16) 22 od) (uf (uf (uf fl 15 rs_11) 18 tl_18) 19 tt_15) tx) rfl ?_
        refine Rx.eq1 rfl rfl ⟨by omega, by omega⟩ (fun b33 => by omega) (fun b33 => ?_)
        refine Rx.walk 2 (pc' := 48) (L' := [some (.ref 0), some (.int (iz left)), some (.int (iz 4)), some (.long (jz till)), none, none]) (st' := [.int (iz tmn_17), .ref 0]) (h' := cmH (u1 (u1 (u1 (u1 (u1 (u1 (u1 (u1 (u1 (u1 (u1 z 21 K) 22 pi_) 23 len) 24 tr) 28 M) 39 rm_10) 40 mv_13) 46 tmn_17) 47 tm_14) 56 ha) 57 1) zl (uf (uf (uf (uf (uf (uf (uf (uf (uf (uf (uf f 5 va) 8 prr) 9 pu) 10 pp_6) 11 li_7) 12 ty_8) 16 mk_12) 17 gv_9) 20 cu_19) 21 ct_16) 22 od) (uf (uf (uf fl 15 rs_11) 18 tl_18) 19 tt_15) tx) rfl ?_
        refine Rx.le1 rfl rfl ⟨by omega, by omega⟩ (fun b34 => ?_) (fun b34 => ?_)
        · refine Rx.walk 2 (pc' := 59) (L' := [some (.ref 0), some (.int (iz left)), some (.int (iz 4)), some (.long (jz till)), none, none]) (st' := []) (h' := cmH (u1 (u1 (u1 (u1 (u1 (u1 (u1 (u1 (u1 (u1 (u1 z 21 K) 22 pi_) 23 len) 24 tr) 28 M) 39 rm_10) 40 mv_13) 46 tmn_17) 47 tm_14) 56 0) 57 1) zl (uf (uf (uf (uf (uf (uf (uf (uf (uf (uf (uf f 5 va) 8 prr) 9 pu) 10 pp_6) 11 li_7) 12 ty_8) 16 mk_12) 17 gv_9) 20 cu_19) 21 ct_16) 22 od) (uf (uf (uf fl 15 rs_11) 18 tl_18) 19 tt_15) tx) rfl ?_
          refine Rx.ret rfl ?_
          have hl0 : left = 0 := by omega
          subst hl0
          obtain ⟨-, hx1, -⟩ : r_5 = 1 ∧ _ ∧ _ := by rcases f25 with q | q; (exfalso; omega); exact q
          have hx2 : (fun l r => thR w K tr len pi_ prr (fun c k => pu (4 * c + k)) l (fun v => v = till) r) p (if 0 < tmn_17 then 1 else 0) := by rw [← hod]; exact hx1
          have huq : ∀ l a b, (fun l r => thR w K tr len pi_ prr (fun c k => pu (4 * c + k)) l (fun v => v = till) r) l a → (fun l r => thR w K tr len pi_ prr (fun c k => pu (4 * c + k)) l (fun v => v = till) r) l b → a = b := fun l a b x y => thR_uq x y
          refine ⟨_, _, _, _, _, _, _, _, _, _, _, _, _, _, _, _, _, rfl, rfl, f20, f21, f22, ⟨by omega, by omega⟩, f24, hod, ⟨by omega, by omega, ?_, ?_⟩⟩
          · intro _
            refine ⟨by omega, ?_, ?_⟩
            · rintro ⟨e, e1, e2⟩
              rw [eL_0.mp e1, List.append_nil] at e2
              have := huq _ _ _ e2 hx2
              split at this <;> omega
            · constructor
              · intro _
                by_cases hq : ha = 1
                · exact Or.inl hq
                · refine Or.inr ⟨[], eL_0.mpr rfl, ?_⟩
                  rw [List.append_nil]
                  rw [if_pos (by omega)] at hx2
                  exact hx2
              · rintro (q | ⟨e, e1, e2⟩)
                · omega
                · have e3 : (fun l r => thR w K tr len pi_ prr (fun c k => pu (4 * c + k)) l (fun v => v = till) r) p 1 := by have e4 := e2; rw [eL_0.mp e1, List.append_nil] at e4; exact e4
                  have := huq _ _ _ e3 hx2
                  split at this <;> omega
          · intro q; omega
        · refine Rx.walk 3 (pc' := 59) (L' := [some (.ref 0), some (.int (iz left)), some (.int (iz 4)), some (.long (jz till)), none, none]) (st' := []) (h' := cmH (u1 (u1 (u1 (u1 (u1 (u1 (u1 (u1 (u1 (u1 (u1 z 21 K) 22 pi_) 23 len) 24 tr) 28 M) 39 rm_10) 40 mv_13) 46 tmn_17) 47 tm_14) 56 1) 57 1) zl (uf (uf (uf (uf (uf (uf (uf (uf (uf (uf (uf f 5 va) 8 prr) 9 pu) 10 pp_6) 11 li_7) 12 ty_8) 16 mk_12) 17 gv_9) 20 cu_19) 21 ct_16) 22 od) (uf (uf (uf fl 15 rs_11) 18 tl_18) 19 tt_15) tx) rfl ?_
          refine Rx.ret rfl ?_
          have hl0 : left = 0 := by omega
          subst hl0
          obtain ⟨-, hx1, -⟩ : r_5 = 1 ∧ _ ∧ _ := by rcases f25 with q | q; (exfalso; omega); exact q
          have hx2 : (fun l r => thR w K tr len pi_ prr (fun c k => pu (4 * c + k)) l (fun v => v = till) r) p (if 0 < tmn_17 then 1 else 0) := by rw [← hod]; exact hx1
          have huq : ∀ l a b, (fun l r => thR w K tr len pi_ prr (fun c k => pu (4 * c + k)) l (fun v => v = till) r) l a → (fun l r => thR w K tr len pi_ prr (fun c k => pu (4 * c + k)) l (fun v => v = till) r) l b → a = b := fun l a b x y => thR_uq x y
          refine ⟨_, _, _, _, _, _, _, _, _, _, _, _, _, _, _, _, _, rfl, rfl, f20, f21, f22, ⟨by omega, by omega⟩, f24, hod, ⟨by omega, by omega, ?_, ?_⟩⟩
          · intro _
            refine ⟨by omega, ?_, ?_⟩
            · rintro ⟨e, e1, e2⟩
              rw [eL_0.mp e1, List.append_nil] at e2
              have := huq _ _ _ e2 hx2
              split at this <;> omega
            · constructor
              · intro _
                by_cases hq : ha = 1
                · exact Or.inl hq
                · refine Or.inr ⟨[], eL_0.mpr rfl, ?_⟩
                  rw [List.append_nil]
                  rw [if_pos (by omega)] at hx2
                  exact hx2
              · rintro (q | ⟨e, e1, e2⟩)
                · omega
                · have e3 : (fun l r => thR w K tr len pi_ prr (fun c k => pu (4 * c + k)) l (fun v => v = till) r) p 1 := by have e4 := e2; rw [eL_0.mp e1, List.append_nil] at e4; exact e4
                  have := huq _ _ _ e3 hx2
                  split at this <;> omega
          · intro q; omega
set_option maxRecDepth 100000 in
set_option maxHeartbeats 4000000 in
theorem m_goChain3_l (d : Nat) (z : Nat → Int) (zl : Nat → Int) (f : Nat → Int → Int) (fl : Nat → Int → Int) (tx : Nat)  (left : Int) (p : List Int) (till : Int) (M : Int) (K : Int) (len : Int) (pi_ : Int) (tr : Int) (va : Int → Int) (w : Int → Int) (pu : Int → Int) (prr : Int → Int) (to0 : Int) (ha0 : Int) (mv0 : Int) (hK : 1 ≤ K) (hlen : 1 ≤ len ∧ len ≤ 5) (hpi : 1 ≤ pi_ ∧ pi_ ≤ 2) (htr : 0 ≤ tr ∧ tr ≤ 1) (hw : wOK w) (hva : ∀ k : Int, 0 ≤ k → k < K → va k = w (k + 1)) (hK4 : K ≤ 4) (hcm : cuM K M pu prr) (hvt : vT K len pi_ till) (hin : inR M p ∧ p.length = 3) (hleft : 0 ≤ left ∧ left < 16) (hlm : ∀ x : Int, 0 ≤ x → x < 4 → hb left x = 1 → x < M) (hrb : rb left 0 ≤ 1) (hl0 : left ≠ 0) (hmv0 : mv0 + 12800 < 2147483648) (P : Option Value → AmH → Prop) (hx0 : ∀ (to' : Int) (ha' : Int) (od' : Int → Int) (pp' : Int → Int) (li' : Int → Int) (ty' : Int → Int) (gv' : Int → Int) (rm' : Int) (rs' : Int → Int) (mk' : Int → Int) (mv' : Int) (tm' : Int) (tt' : Int → Int) (ct' : Int → Int) (tmn' : Int) (tl' : Int → Int) (cu' : Int → Int), (∀ k : Int, 0 ≤ k → k < 4 → 0 ≤ gv' k ∧ gv' k ≤ 4) → (0 ≤ mv') → (∀ j : Int, 0 ≤ j → j < 72000 → 0 ≤ mk' j ∧ mk' j ≤ mv') → (mv0 ≤ mv' ∧ mv' ≤ mv0 + 12800) → (0 ≤ tmn' ∧ tmn' ≤ 200) → (lsI 3 od' = p) → (gcX (gcA (fun l r => thR w K tr len pi_ prr (fun c k => pu (4 * c + k)) l (fun v => v = till) r) p left) to0 ha0 to' ha') → P (none) (cmH (u1 (u1 (u1 (u1 (u1 (u1 (u1 (u1 (u1 (u1 (u1 z 21 K) 22 pi_) 23 len) 24 tr) 28 M) 39 rm') 40 mv') 46 tmn') 47 tm') 56 ha') 57 to') zl (uf (uf (uf (uf (uf (uf (uf (uf (uf (uf (uf f 5 va) 8 prr) 9 pu) 10 pp') 11 li') 12 ty') 16 mk') 17 gv') 20 cu') 21 ct') 22 od') (uf (uf (uf fl 15 rs') 18 tl') 19 tt') tx)) : ∀ (kF : Nat) (c : Int) (cb : Int) (to : Int) (ha : Int) (od : Int → Int) (tmn : Int) (tl : Int → Int) (cu : Int → Int) (pp : Int → Int) (li : Int → Int) (ty : Int → Int) (gv : Int → Int) (rm : Int) (rs : Int → Int) (mk : Int → Int) (mv : Int) (tm : Int) (tt : Int → Int) (ct : Int → Int), (0 ≤ c) → (c ≤ M) → (0 ≤ cb ∧ cb + rb left c ≤ 1) → (mv0 ≤ mv ∧ mv ≤ mv0 + 12800 * cb) → (∀ k : Int, 0 ≤ k → k < 4 → 0 ≤ gv k ∧ gv k ≤ 4) → (0 ≤ mv) → (∀ j : Int, 0 ≤ j → j < 72000 → 0 ≤ mk j ∧ mk j ≤ mv) → (0 ≤ tmn ∧ tmn ≤ 200) → (lsI 3 od = p) → (gcX (gcH (fun l r => thR w K tr len pi_ prr (fun c k => pu (4 * c + k)) l (fun v => v = till) r) p left c) to0 ha0 to ha) → (4 - c) < (kF : Int) → Rx (d + 54) m_X12_goChain 63 [some (.ref 0), some (.int (iz left)), some (.int (iz 3)), some (.long (jz till)), none, some (.int (iz c))] [] (cmH (u1 (u1 (u1 (u1 (u1 (u1 (u1 (u1 (u1 (u1 (u1 z 21 K) 22 pi_) 23 len) 24 tr) 28 M) 39 rm) 40 mv) 46 tmn) 47 tm) 56 ha) 57 to) zl (uf (uf (uf (uf (uf (uf (uf (uf (uf (uf (uf f 5 va) 8 prr) 9 pu) 10 pp) 11 li) 12 ty) 16 mk) 17 gv) 20 cu) 21 ct) 22 od) (uf (uf (uf fl 15 rs) 18 tl) 19 tt) tx) P := by
  have hM0 := hcm.1
  have hM4 := hcm.2.1
  have hrn := rb_nn left 0
  intro kF
  induction kF with
  | zero =>
    intro c cb to ha od tmn tl cu pp li ty gv rm rs mk mv tm tt ct c0 c1 hcb hmq hg hmv hmk htn hod hX hk
    exfalso; omega
  | succ kF ih =>
    intro c cb to ha od tmn tl cu pp li ty gv rm rs mk mv tm tt ct c0 c1 hcb hmq hg hmv hmk htn hod hX hk
    have hX1 := hX.1
    have hX2 := hX.2.1
    have hrc := rb_nn left c
    have hrc1 := rb_nn left (c + 1)
    have hrs := fun q => rb_s (left := left) c0 (show c < 4 from q)
    have hbb := hb_b left c
    refine Rx.walk 3 (pc' := 69) (L' := [some (.ref 0), some (.int (iz left)), some (.int (iz 3)), some (.long (jz till)), none, some (.int (iz c))]) (st' := [.int (iz M), .int (iz c)]) (h' := cmH (u1 (u1 (u1 (u1 (u1 (u1 (u1 (u1 (u1 (u1 (u1 z 21 K) 22 pi_) 23 len) 24 tr) 28 M) 39 rm) 40 mv) 46 tmn) 47 tm) 56 ha) 57 to) zl (uf (uf (uf (uf (uf (uf (uf (uf (uf (uf (uf f 5 va) 8 prr) 9 pu) 10 pp) 11 li) 12 ty) 16 mk) 17 gv) 20 cu) 21 ct) 22 od) (uf (uf (uf fl 15 rs) 18 tl) 19 tt) tx) rfl ?_
    refine Rx.ge2 rfl rfl ⟨by omega, by omega⟩ ⟨by omega, by omega⟩ (fun b1 => ?_) (fun b1 => ?_)
    · refine Rx.ret rfl ?_
      exact hx0 _ _ _ _ _ _ _ _ _ _ _ _ _ _ _ _ _ hg hmv hmk ⟨by omega, by omega⟩ htn hod (gcX_c hX (fun r => (gcH_e hl0 hleft.1 hleft.2 (fun x a b q => by have := hlm x a b q; omega) r).symm))
    · refine Rx.walk 2 (pc' := 76) (L' := [some (.ref 0), some (.int (iz left)), some (.int (iz 3)), some (.long (jz till)), none, some (.int (iz c))]) (st' := [.int (iz to)]) (h' := cmH (u1 (u1 (u1 (u1 (u1 (u1 (u1 (u1 (u1 (u1 (u1 z 21 K) 22 pi_) 23 len) 24 tr) 28 M) 39 rm) 40 mv) 46 tmn) 47 tm) 56 ha) 57 to) zl (uf (uf (uf (uf (uf (uf (uf (uf (uf (uf (uf f 5 va) 8 prr) 9 pu) 10 pp) 11 li) 12 ty) 16 mk) 17 gv) 20 cu) 21 ct) 22 od) (uf (uf (uf fl 15 rs) 18 tl) 19 tt) tx) rfl ?_
      refine Rx.eq1 rfl rfl ⟨by omega, by omega⟩ (fun b2 => ?_) (fun b2 => ?_)
      · refine Rx.ret rfl ?_
        exact hx0 _ _ _ _ _ _ _ _ _ _ _ _ _ _ _ _ _ hg hmv hmk ⟨by omega, by omega⟩ htn hod (gcX_u hX (by omega) (fun r ⟨x, e, x0, x1, x2, x3⟩ => ⟨x :: e, x2, x3⟩))
      · refine Rx.walk 2 (pc' := 82) (L' := [some (.ref 0), some (.int (iz left)), some (.int (iz 3)), some (.long (jz till)), none, some (.int (iz c))]) (st' := [.int (iz c), .int (iz left)]) (h' := cmH (u1 (u1 (u1 (u1 (u1 (u1 (u1 (u1 (u1 (u1 (u1 z 21 K) 22 pi_) 23 len) 24 tr) 28 M) 39 rm) 40 mv) 46 tmn) 47 tm) 56 ha) 57 to) zl (uf (uf (uf (uf (uf (uf (uf (uf (uf (uf (uf f 5 va) 8 prr) 9 pu) 10 pp) 11 li) 12 ty) 16 mk) 17 gv) 20 cu) 21 ct) 22 od) (uf (uf (uf fl 15 rs) 18 tl) 19 tt) tx) rfl ?_
        refine Rx.callx (m' := m_X12_has) (as := [.int (iz left), .int (iz c)]) (rest := []) rfl (n_has _ (cmH (u1 (u1 (u1 (u1 (u1 (u1 (u1 (u1 (u1 (u1 (u1 z 21 K) 22 pi_) 23 len) 24 tr) 28 M) 39 rm) 40 mv) 46 tmn) 47 tm) 56 ha) 57 to) zl (uf (uf (uf (uf (uf (uf (uf (uf (uf (uf (uf f 5 va) 8 prr) 9 pu) 10 pp) 11 li) 12 ty) 16 mk) 17 gv) 20 cu) 21 ct) 22 od) (uf (uf (uf fl 15 rs) 18 tl) 19 tt) tx)  left c (by first | assumption | omega) (by first | assumption | omega) (by first | assumption | omega) (by first | assumption | omega)) (fun v5 h6 q7 => ?_)
        obtain ⟨r_3, rfl, rfl, f4⟩ := q7
        refine Rx.walk 0 (pc' := 85) (L' := [some (.ref 0), some (.int (iz left)), some (.int (iz 3)), some (.long (jz till)), none, some (.int (iz c))]) (st' := [.int (iz r_3)]) (h' := cmH (u1 (u1 (u1 (u1 (u1 (u1 (u1 (u1 (u1 (u1 (u1 z 21 K) 22 pi_) 23 len) 24 tr) 28 M) 39 rm) 40 mv) 46 tmn) 47 tm) 56 ha) 57 to) zl (uf (uf (uf (uf (uf (uf (uf (uf (uf (uf (uf f 5 va) 8 prr) 9 pu) 10 pp) 11 li) 12 ty) 16 mk) 17 gv) 20 cu) 21 ct) 22 od) (uf (uf (uf fl 15 rs) 18 tl) 19 tt) tx) rfl ?_
        refine Rx.ne1 rfl rfl ⟨by omega, by omega⟩ (fun b8 => ?_) (fun b8 => ?_)
        · refine Rx.walk 4 (pc' := 98) (L' := [some (.ref 0), some (.int (iz left)), some (.int (iz 3)), some (.long (jz till)), none, some (.int (iz c))]) (st' := [.int (iz c), .int (iz 3), .ref 22]) (h' := cmH (u1 (u1 (u1 (u1 (u1 (u1 (u1 (u1 (u1 (u1 (u1 z 21 K) 22 pi_) 23 len) 24 tr) 28 M) 39 rm) 40 mv) 46 tmn) 47 tm) 56 ha) 57 to) zl (uf (uf (uf (uf (uf (uf (uf (uf (uf (uf (uf f 5 va) 8 prr) 9 pu) 10 pp) 11 li) 12 ty) 16 mk) 17 gv) 20 cu) 21 ct) 22 od) (uf (uf (uf fl 15 rs) 18 tl) 19 tt) tx) rfl ?_
          refine Rx.ias (g := od) (h' := cmH (u1 (u1 (u1 (u1 (u1 (u1 (u1 (u1 (u1 (u1 (u1 z 21 K) 22 pi_) 23 len) 24 tr) 28 M) 39 rm) 40 mv) 46 tmn) 47 tm) 56 ha) 57 to) zl (uf (uf (uf (uf (uf (uf (uf (uf (uf (uf (uf f 5 va) 8 prr) 9 pu) 10 pp) 11 li) 12 ty) 16 mk) 17 gv) 20 cu) 21 ct) 22 (iu od 3 c)) (uf (uf (uf fl 15 rs) 18 tl) 19 tt) tx) rfl rfl (by omega) (by omega) (by omega) rfl ?_
          refine Rx.walk 4 (pc' := 104) (L' := [some (.ref 0), some (.int (iz left)), some (.int (iz 3)), some (.long (jz till)), none, some (.int (iz c))]) (st' := [.int (iz c), .int (iz 1), .int (iz left), .ref 0]) (h' := cmH (u1 (u1 (u1 (u1 (u1 (u1 (u1 (u1 (u1 (u1 (u1 z 21 K) 22 pi_) 23 len) 24 tr) 28 M) 39 rm) 40 mv) 46 tmn) 47 tm) 56 ha) 57 to) zl (uf (uf (uf (uf (uf (uf (uf (uf (uf (uf (uf f 5 va) 8 prr) 9 pu) 10 pp) 11 li) 12 ty) 16 mk) 17 gv) 20 cu) 21 ct) 22 (iu od 3 c)) (uf (uf (uf fl 15 rs) 18 tl) 19 tt) tx) rfl ?_
          refine Rx.ishl (c := (p2 c)) rfl (p2_shl (by omega) (by omega)) ?_
          refine Rx.walk 1 (pc' := 106) (L' := [some (.ref 0), some (.int (iz left)), some (.int (iz 3)), some (.long (jz till)), none, some (.int (iz c))]) (st' := [.int (iz (-1)), .int (iz (p2 c)), .int (iz left), .ref 0]) (h' := cmH (u1 (u1 (u1 (u1 (u1 (u1 (u1 (u1 (u1 (u1 (u1 z 21 K) 22 pi_) 23 len) 24 tr) 28 M) 39 rm) 40 mv) 46 tmn) 47 tm) 56 ha) 57 to) zl (uf (uf (uf (uf (uf (uf (uf (uf (uf (uf (uf f 5 va) 8 prr) 9 pu) 10 pp) 11 li) 12 ty) 16 mk) 17 gv) 20 cu) 21 ct) 22 (iu od 3 c)) (uf (uf (uf fl 15 rs) 18 tl) 19 tt) tx) rfl ?_
          refine Rx.ixor (c := (-1 - p2 c)) rfl (p2_xor c0 (by omega)) ?_
          refine Rx.iand (c := (left - p2 c)) rfl (and_not' hleft.1 hleft.2 c0 (by omega) (by omega)) ?_
          refine Rx.walk 2 (pc' := 110) (L' := [some (.ref 0), some (.int (iz left)), some (.int (iz 3)), some (.long (jz till)), none, some (.int (iz c))]) (st' := [.int (iz 1), .int (iz 3), .int (iz (left - p2 c)), .ref 0]) (h' := cmH (u1 (u1 (u1 (u1 (u1 (u1 (u1 (u1 (u1 (u1 (u1 z 21 K) 22 pi_) 23 len) 24 tr) 28 M) 39 rm) 40 mv) 46 tmn) 47 tm) 56 ha) 57 to) zl (uf (uf (uf (uf (uf (uf (uf (uf (uf (uf (uf f 5 va) 8 prr) 9 pu) 10 pp) 11 li) 12 ty) 16 mk) 17 gv) 20 cu) 21 ct) 22 (iu od 3 c)) (uf (uf (uf fl 15 rs) 18 tl) 19 tt) tx) rfl ?_
          refine Rx.iadd rfl ?_
          refine Rx.walk 0 (pc' := 111) (L' := [some (.ref 0), some (.int (iz left)), some (.int (iz 3)), some (.long (jz till)), none, some (.int (iz c))]) (st' := [.int (iz 4), .int (iz (left - p2 c)), .ref 0]) (h' := cmH (u1 (u1 (u1 (u1 (u1 (u1 (u1 (u1 (u1 (u1 (u1 z 21 K) 22 pi_) 23 len) 24 tr) 28 M) 39 rm) 40 mv) 46 tmn) 47 tm) 56 ha) 57 to) zl (uf (uf (uf (uf (uf (uf (uf (uf (uf (uf (uf f 5 va) 8 prr) 9 pu) 10 pp) 11 li) 12 ty) 16 mk) 17 gv) 20 cu) 21 ct) 22 (iu od 3 c)) (uf (uf (uf fl 15 rs) 18 tl) 19 tt) tx) rfl ?_
          refine Rx.walk 1 (pc' := 112) (L' := [some (.ref 0), some (.int (iz left)), some (.int (iz 3)), some (.long (jz till)), none, some (.int (iz c))]) (st' := [.long (jz till), .int (iz 4), .int (iz (left - p2 c)), .ref 0]) (h' := cmH (u1 (u1 (u1 (u1 (u1 (u1 (u1 (u1 (u1 (u1 (u1 z 21 K) 22 pi_) 23 len) 24 tr) 28 M) 39 rm) 40 mv) 46 tmn) 47 tm) 56 ha) 57 to) zl (uf (uf (uf (uf (uf (uf (uf (uf (uf (uf (uf f 5 va) 8 prr) 9 pu) 10 pp) 11 li) 12 ty) 16 mk) 17 gv) 20 cu) 21 ct) 22 (iu od 3 c)) (uf (uf (uf fl 15 rs) 18 tl) 19 tt) tx) rfl ?_
          have hbc : hb left c = 1 := by omega
          obtain ⟨hp1, hp2⟩ := rb_p hleft.1 hleft.2 c0 (show c < 4 by omega) hbc
          refine Rx.callx (m' := m_X12_goChain) (as := [.ref 0, .int (iz (left - p2 c)), .int (iz 4), .long (jz till)]) (rest := []) rfl (m_goChain4 _ (u1 (u1 (u1 (u1 (u1 (u1 (u1 (u1 (u1 (u1 (u1 z 21 K) 22 pi_) 23 len) 24 tr) 28 M) 39 rm) 40 mv) 46 tmn) 47 tm) 56 ha) 57 to) zl (uf (uf (uf (uf (uf (uf (uf (uf (uf (uf (uf f 5 va) 8 prr) 9 pu) 10 pp) 11 li) 12 ty) 16 mk) 17 gv) 20 cu) 21 ct) 22 (iu od 3 c)) (uf (uf (uf fl 15 rs) 18 tl) 19 tt) tx  (left - p2 c) (p ++ [c]) till M K len pi_ tr va w pu prr to ha (iu od 3 c) tmn tl cu pp li ty gv rm rs mk mv tm tt ct (by first | assumption | omega) (by first | assumption | omega) (by first | assumption | omega) (by first | assumption | omega) (by first | assumption | omega) (by first | assumption | omega) (by first | assumption | omega) (by first | assumption | omega) (by first | assumption | omega) ⟨inR_app.mpr ⟨hin.1, fun x hx => by rw [List.mem_singleton] at hx; omega⟩, by rw [List.length_append, hin.2]; rfl⟩ hp2 (fun x a b q => hlm x a b ((hb_p hleft.1 hleft.2 c0 (by omega) a b hbc).mp q).1) (by omega) hg hmv hmk htn (lsI_push hod) hX1 hX2 (by omega)) (fun v33 h34 q35 => ?_)
          obtain ⟨to_9, ha_10, od_11, pp_12, li_13, ty_14, gv_15, rm_16, rs_17, mk_18, mv_19, tm_20, tt_21, ct_22, tmn_23, tl_24, cu_25, rfl, rfl, f26, f27, f28, f29, f30, f31, f32⟩ := q35
          refine Rx.walk 0 (pc' := 115) (L' := [some (.ref 0), some (.int (iz left)), some (.int (iz 3)), some (.long (jz till)), none, some (.int (iz c))]) (st' := []) (h' := cmH (u1 (u1 (u1 (u1 (u1 (u1 (u1 (u1 (u1 (u1 (u1 z 21 K) 22 pi_) 23 len) 24 tr) 28 M) 39 rm_16) 40 mv_19) 46 tmn_23) 47 tm_20) 56 ha_10) 57 to_9) zl (uf (uf (uf (uf (uf (uf (uf (uf (uf (uf (uf f 5 va) 8 prr) 9 pu) 10 pp_12) 11 li_13) 12 ty_14) 16 mk_18) 17 gv_15) 20 cu_25) 21 ct_22) 22 od_11) (uf (uf (uf fl 15 rs_17) 18 tl_24) 19 tt_21) tx) rfl ?_
          refine Rx.iinc (b := 1) rfl rfl rfl ?_
          refine Rx.walk 0 (pc' := 118) (L' := [some (.ref 0), some (.int (iz left)), some (.int (iz 3)), some (.long (jz till)), none, some (.int (iz (c + 1)))]) (st' := []) (h' := cmH (u1 (u1 (u1 (u1 (u1 (u1 (u1 (u1 (u1 (u1 (u1 z 21 K) 22 pi_) 23 len) 24 tr) 28 M) 39 rm_16) 40 mv_19) 46 tmn_23) 47 tm_20) 56 ha_10) 57 to_9) zl (uf (uf (uf (uf (uf (uf (uf (uf (uf (uf (uf f 5 va) 8 prr) 9 pu) 10 pp_12) 11 li_13) 12 ty_14) 16 mk_18) 17 gv_15) 20 cu_25) 21 ct_22) 22 od_11) (uf (uf (uf fl 15 rs_17) 18 tl_24) 19 tt_21) tx) rfl ?_
          refine Rx.walk 1 (pc' := 63) (L' := [some (.ref 0), some (.int (iz left)), some (.int (iz 3)), some (.long (jz till)), none, some (.int (iz (c + 1)))]) (st' := []) (h' := cmH (u1 (u1 (u1 (u1 (u1 (u1 (u1 (u1 (u1 (u1 (u1 z 21 K) 22 pi_) 23 len) 24 tr) 28 M) 39 rm_16) 40 mv_19) 46 tmn_23) 47 tm_20) 56 ha_10) 57 to_9) zl (uf (uf (uf (uf (uf (uf (uf (uf (uf (uf (uf f 5 va) 8 prr) 9 pu) 10 pp_12) 11 li_13) 12 ty_14) 16 mk_18) 17 gv_15) 20 cu_25) 21 ct_22) 22 od_11) (uf (uf (uf fl 15 rs_17) 18 tl_24) 19 tt_21) tx) rfl ?_
          have hrs1 := hrs (by omega)
          exact ih (c + 1) (cb + 1) to_9 ha_10 od_11 tmn_23 tl_24 cu_25 pp_12 li_13 ty_14 gv_15 rm_16 rs_17 mk_18 mv_19 tm_20 tt_21 ct_22 (by first | assumption | omega) (by first | assumption | omega) ⟨by omega, by omega⟩ ⟨by omega, by omega⟩ f26 f27 f28 f30 (lsI_pre f31) (gcX_tr hX f32 (fun r => gcH_s hbc hleft.1 hleft.2 c0 (by omega) r)) (by first | assumption | omega) 
        · refine Rx.walk 1 (pc' := 115) (L' := [some (.ref 0), some (.int (iz left)), some (.int (iz 3)), some (.long (jz till)), none, some (.int (iz c))]) (st' := []) (h' := cmH (u1 (u1 (u1 (u1 (u1 (u1 (u1 (u1 (u1 (u1 (u1 z 21 K) 22 pi_) 23 len) 24 tr) 28 M) 39 rm) 40 mv) 46 tmn) 47 tm) 56 ha) 57 to) zl (uf (uf (uf (uf (uf (uf (uf (uf (uf (uf (uf f 5 va) 8 prr) 9 pu) 10 pp) 11 li) 12 ty) 16 mk) 17 gv) 20 cu) 21 ct) 22 od) (uf (uf (uf fl 15 rs) 18 tl) 19 tt) tx) rfl ?_
          refine Rx.iinc (b := 1) rfl rfl rfl ?_
          refine Rx.walk 0 (pc' := 118) (L' := [some (.ref 0), some (.int (iz left)), some (.int (iz 3)), some (.long (jz till)), none, some (.int (iz (c + 1)))]) (st' := []) (h' := cmH (u1 (u1 (u1 (u1 (u1 (u1 (u1 (u1 (u1 (u1 (u1 z 21 K) 22 pi_) 23 len) 24 tr) 28 M) 39 rm) 40 mv) 46 tmn) 47 tm) 56 ha) 57 to) zl (uf (uf (uf (uf (uf (uf (uf (uf (uf (uf (uf f 5 va) 8 prr) 9 pu) 10 pp) 11 li) 12 ty) 16 mk) 17 gv) 20 cu) 21 ct) 22 od) (uf (uf (uf fl 15 rs) 18 tl) 19 tt) tx) rfl ?_
          refine Rx.walk 1 (pc' := 63) (L' := [some (.ref 0), some (.int (iz left)), some (.int (iz 3)), some (.long (jz till)), none, some (.int (iz (c + 1)))]) (st' := []) (h' := cmH (u1 (u1 (u1 (u1 (u1 (u1 (u1 (u1 (u1 (u1 (u1 z 21 K) 22 pi_) 23 len) 24 tr) 28 M) 39 rm) 40 mv) 46 tmn) 47 tm) 56 ha) 57 to) zl (uf (uf (uf (uf (uf (uf (uf (uf (uf (uf (uf f 5 va) 8 prr) 9 pu) 10 pp) 11 li) 12 ty) 16 mk) 17 gv) 20 cu) 21 ct) 22 od) (uf (uf (uf fl 15 rs) 18 tl) 19 tt) tx) rfl ?_
          have hrs1 := hrs (by omega)
          exact ih (c + 1) cb to ha od tmn tl cu pp li ty gv rm rs mk mv tm tt ct (by first | assumption | omega) (by first | assumption | omega) ⟨by omega, by omega⟩ ⟨by omega, by omega⟩ hg hmv hmk htn hod (gcX_c hX (fun r => (gcH_n (show hb left c ≠ 1 by omega) hleft.1 hleft.2 r).symm)) (by first | assumption | omega) 
set_option maxRecDepth 100000 in
set_option maxHeartbeats 4000000 in
theorem m_goChain3 (d : Nat) (z : Nat → Int) (zl : Nat → Int) (f : Nat → Int → Int) (fl : Nat → Int → Int) (tx : Nat)  (left : Int) (p : List Int) (till : Int) (M : Int) (K : Int) (len : Int) (pi_ : Int) (tr : Int) (va : Int → Int) (w : Int → Int) (pu : Int → Int) (prr : Int → Int) (to : Int) (ha : Int) (od : Int → Int) (tmn : Int) (tl : Int → Int) (cu : Int → Int) (pp : Int → Int) (li : Int → Int) (ty : Int → Int) (gv : Int → Int) (rm : Int) (rs : Int → Int) (mk : Int → Int) (mv : Int) (tm : Int) (tt : Int → Int) (ct : Int → Int) (hK : 1 ≤ K) (hlen : 1 ≤ len ∧ len ≤ 5) (hpi : 1 ≤ pi_ ∧ pi_ ≤ 2) (htr : 0 ≤ tr ∧ tr ≤ 1) (hw : wOK w) (hva : ∀ k : Int, 0 ≤ k → k < K → va k = w (k + 1)) (hK4 : K ≤ 4) (hcm : cuM K M pu prr) (hvt : vT K len pi_ till) (hin : inR M p ∧ p.length = 3) (hleft : 0 ≤ left ∧ left < 16) (hlm : ∀ x : Int, 0 ≤ x → x < 4 → hb left x = 1 → x < M) (hrb : rb left 0 ≤ 1) (hg : ∀ k : Int, 0 ≤ k → k < 4 → 0 ≤ gv k ∧ gv k ≤ 4) (hmv : 0 ≤ mv) (hmk : ∀ j : Int, 0 ≤ j → j < 72000 → 0 ≤ mk j ∧ mk j ≤ mv) (htn : 0 ≤ tmn ∧ tmn ≤ 200) (hod : lsI 3 od = p) (hto : to = 0 ∨ to = 1) (hha : ha = 0 ∨ ha = 1) (hmv0 : mv + 12800 < 2147483648) : Rx (d + 54) m_X12_goChain 0 (am_ent [.ref 0, .int (iz left), .int (iz 3), .long (jz till)] 6) [] (cmH (u1 (u1 (u1 (u1 (u1 (u1 (u1 (u1 (u1 (u1 (u1 z 21 K) 22 pi_) 23 len) 24 tr) 28 M) 39 rm) 40 mv) 46 tmn) 47 tm) 56 ha) 57 to) zl (uf (uf (uf (uf (uf (uf (uf (uf (uf (uf (uf f 5 va) 8 prr) 9 pu) 10 pp) 11 li) 12 ty) 16 mk) 17 gv) 20 cu) 21 ct) 22 od) (uf (uf (uf fl 15 rs) 18 tl) 19 tt) tx) (fun rv h => ∃ to' : Int, ∃ ha' : Int, ∃ od' : Int → Int, ∃ pp' : Int → Int, ∃ li' : Int → Int, ∃ ty' : Int → Int, ∃ gv' : Int → Int, ∃ rm' : Int, ∃ rs' : Int → Int, ∃ mk' : Int → Int, ∃ mv' : Int, ∃ tm' : Int, ∃ tt' : Int → Int, ∃ ct' : Int → Int, ∃ tmn' : Int, ∃ tl' : Int → Int, ∃ cu' : Int → Int, rv = none ∧ h = cmH (u1 (u1 (u1 (u1 (u1 (u1 (u1 (u1 (u1 (u1 (u1 z 21 K) 22 pi_) 23 len) 24 tr) 28 M) 39 rm') 40 mv') 46 tmn') 47 tm') 56 ha') 57 to') zl (uf (uf (uf (uf (uf (uf (uf (uf (uf (uf (uf f 5 va) 8 prr) 9 pu) 10 pp') 11 li') 12 ty') 16 mk') 17 gv') 20 cu') 21 ct') 22 od') (uf (uf (uf fl 15 rs') 18 tl') 19 tt') tx ∧ (∀ k : Int, 0 ≤ k → k < 4 → 0 ≤ gv' k ∧ gv' k ≤ 4) ∧ 0 ≤ mv' ∧ (∀ j : Int, 0 ≤ j → j < 72000 → 0 ≤ mk' j ∧ mk' j ≤ mv') ∧ (mv ≤ mv' ∧ mv' ≤ mv + 12800) ∧ (0 ≤ tmn' ∧ tmn' ≤ 200) ∧ lsI 3 od' = p ∧ gcX (gcA (fun l r => thR w K tr len pi_ prr (fun c k => pu (4 * c + k)) l (fun v => v = till) r) p left) to ha to' ha') := by
  have hM0 := hcm.1
  have hM4 := hcm.2.1
  have hrn := rb_nn left 0
  refine Rx.walk 0 (pc' := 0) (L' := [some (.ref 0), some (.int (iz left)), some (.int (iz 3)), some (.long (jz till)), none, none]) (st' := []) (h' := cmH (u1 (u1 (u1 (u1 (u1 (u1 (u1 (u1 (u1 (u1 (u1 z 21 K) 22 pi_) 23 len) 24 tr) 28 M) 39 rm) 40 mv) 46 tmn) 47 tm) 56 ha) 57 to) zl (uf (uf (uf (uf (uf (uf (uf (uf (uf (uf (uf f 5 va) 8 prr) 9 pu) 10 pp) 11 li) 12 ty) 16 mk) 17 gv) 20 cu) 21 ct) 22 od) (uf (uf (uf fl 15 rs) 18 tl) 19 tt) tx) rfl ?_
  refine Rx.walk 1 (pc' := 1) (L' := [some (.ref 0), some (.int (iz left)), some (.int (iz 3)), some (.long (jz till)), none, none]) (st' := [.int (iz left)]) (h' := cmH (u1 (u1 (u1 (u1 (u1 (u1 (u1 (u1 (u1 (u1 (u1 z 21 K) 22 pi_) 23 len) 24 tr) 28 M) 39 rm) 40 mv) 46 tmn) 47 tm) 56 ha) 57 to) zl (uf (uf (uf (uf (uf (uf (uf (uf (uf (uf (uf f 5 va) 8 prr) 9 pu) 10 pp) 11 li) 12 ty) 16 mk) 17 gv) 20 cu) 21 ct) 22 od) (uf (uf (uf fl 15 rs) 18 tl) 19 tt) tx) rfl ?_
  refine Rx.ne1 rfl rfl ⟨by omega, by omega⟩ (fun b1 => ?_) (fun b1 => ?_)
  · refine Rx.walk 2 (pc' := 63) (L' := [some (.ref 0), some (.int (iz left)), some (.int (iz 3)), some (.long (jz till)), none, some (.int (iz 0))]) (st' := []) (h' := cmH (u1 (u1 (u1 (u1 (u1 (u1 (u1 (u1 (u1 (u1 (u1 z 21 K) 22 pi_) 23 len) 24 tr) 28 M) 39 rm) 40 mv) 46 tmn) 47 tm) 56 ha) 57 to) zl (uf (uf (uf (uf (uf (uf (uf (uf (uf (uf (uf f 5 va) 8 prr) 9 pu) 10 pp) 11 li) 12 ty) 16 mk) 17 gv) 20 cu) 21 ct) 22 od) (uf (uf (uf fl 15 rs) 18 tl) 19 tt) tx) rfl ?_
    have hl0 : left ≠ 0 := by omega
    refine m_goChain3_l _ (u1 (u1 (u1 (u1 (u1 (u1 (u1 (u1 (u1 (u1 (u1 z 21 K) 22 pi_) 23 len) 24 tr) 28 M) 39 rm) 40 mv) 46 tmn) 47 tm) 56 ha) 57 to) zl (uf (uf (uf (uf (uf (uf (uf (uf (uf (uf (uf f 5 va) 8 prr) 9 pu) 10 pp) 11 li) 12 ty) 16 mk) 17 gv) 20 cu) 21 ct) 22 od) (uf (uf (uf fl 15 rs) 18 tl) 19 tt) tx  left p till M K len pi_ tr va w pu prr to ha mv (by first | assumption | omega) (by first | assumption | omega) (by first | assumption | omega) (by first | assumption | omega) (by first | assumption | omega) hva (by first | assumption | omega) hcm hvt hin (by first | assumption | omega) hlm (by first | assumption | omega) hl0 (by first | assumption | omega) _ ?_ ((4 - 0) + 1 : Int).toNat 0 0 to ha od tmn tl cu pp li ty gv rm rs mk mv tm tt ct (by first | assumption | omega) (by first | assumption | omega) ⟨by omega, by omega⟩ ⟨by omega, by omega⟩ hg hmv hmk htn hod (gcX_i hto hha (fun r ⟨x, e, x0, x1, _⟩ => by omega)) (by omega) 
    intro to_2 ha_3 od_4 pp_5 li_6 ty_7 gv_8 rm_9 rs_10 mk_11 mv_12 tm_13 tt_14 ct_15 tmn_16 tl_17 cu_18 f19 f20 f21 f22 f23 f24 f25
    show (fun (rv : Option Value) (h : AmH) => ∃ to' : Int, ∃ ha' : Int, ∃ od' : Int → Int, ∃ pp' : Int → Int, ∃ li' : Int → Int, ∃ ty' : Int → Int, ∃ gv' : Int → Int, ∃ rm' : Int, ∃ rs' : Int → Int, ∃ mk' : Int → Int, ∃ mv' : Int, ∃ tm' : Int, ∃ tt' : Int → Int, ∃ ct' : Int → Int, ∃ tmn' : Int, ∃ tl' : Int → Int, ∃ cu' : Int → Int, rv = none ∧ h = cmH (u1 (u1 (u1 (u1 (u1 (u1 (u1 (u1 (u1 (u1 (u1 z 21 K) 22 pi_) 23 len) 24 tr) 28 M) 39 rm') 40 mv') 46 tmn') 47 tm') 56 ha') 57 to') zl (uf (uf (uf (uf (uf (uf (uf (uf (uf (uf (uf f 5 va) 8 prr) 9 pu) 10 pp') 11 li') 12 ty') 16 mk') 17 gv') 20 cu') 21 ct') 22 od') (uf (uf (uf fl 15 rs') 18 tl') 19 tt') tx ∧ (∀ k : Int, 0 ≤ k → k < 4 → 0 ≤ gv' k ∧ gv' k ≤ 4) ∧ 0 ≤ mv' ∧ (∀ j : Int, 0 ≤ j → j < 72000 → 0 ≤ mk' j ∧ mk' j ≤ mv') ∧ (mv ≤ mv' ∧ mv' ≤ mv + 12800) ∧ (0 ≤ tmn' ∧ tmn' ≤ 200) ∧ lsI 3 od' = p ∧ gcX (gcA (fun l r => thR w K tr len pi_ prr (fun c k => pu (4 * c + k)) l (fun v => v = till) r) p left) to ha to' ha') (none) (cmH (u1 (u1 (u1 (u1 (u1 (u1 (u1 (u1 (u1 (u1 (u1 z 21 K) 22 pi_) 23 len) 24 tr) 28 M) 39 rm_9) 40 mv_12) 46 tmn_16) 47 tm_13) 56 ha_3) 57 to_2) zl (uf (uf (uf (uf (uf (uf (uf (uf (uf (uf (uf f 5 va) 8 prr) 9 pu) 10 pp_5) 11 li_6) 12 ty_7) 16 mk_11) 17 gv_8) 20 cu_18) 21 ct_15) 22 od_4) (uf (uf (uf fl 15 rs_10) 18 tl_17) 19 tt_14) tx)
    exact ⟨_, _, _, _, _, _, _, _, _, _, _, _, _, _, _, _, _, rfl, rfl, f19, f20, f21, f22, f23, f24, f25⟩
  · refine Rx.walk 3 (pc' := 9) (L' := [some (.ref 0), some (.int (iz left)), some (.int (iz 3)), some (.long (jz till)), none, none]) (st' := [.int (iz to), .ref 0]) (h' := cmH (u1 (u1 (u1 (u1 (u1 (u1 (u1 (u1 (u1 (u1 (u1 z 21 K) 22 pi_) 23 len) 24 tr) 28 M) 39 rm) 40 mv) 46 tmn) 47 tm) 56 ha) 57 to) zl (uf (uf (uf (uf (uf (uf (uf (uf (uf (uf (uf f 5 va) 8 prr) 9 pu) 10 pp) 11 li) 12 ty) 16 mk) 17 gv) 20 cu) 21 ct) 22 od) (uf (uf (uf fl 15 rs) 18 tl) 19 tt) tx) rfl ?_
    refine Rx.eq1 rfl rfl ⟨by omega, by omega⟩ (fun b26 => ?_) (fun b26 => ?_)
    · refine Rx.walk 5 (pc' := 34) (L' := [some (.ref 0), some (.int (iz left)), some (.int (iz 3)), some (.long (jz till)), none, none]) (st' := [.int (iz ha), .ref 0]) (h' := cmH (u1 (u1 (u1 (u1 (u1 (u1 (u1 (u1 (u1 (u1 (u1 z 21 K) 22 pi_) 23 len) 24 tr) 28 M) 39 rm) 40 mv) 46 tmn) 47 tm) 56 ha) 57 0) zl (uf (uf (uf (uf (uf (uf (uf (uf (uf (uf (uf f 5 va) 8 prr) 9 pu) 10 pp) 11 li) 12 ty) 16 mk) 17 gv) 20 cu) 21 ct) 22 od) (uf (uf (uf fl 15 rs) 18 tl) 19 tt) tx) rfl ?_
      refine Rx.ne1 rfl rfl ⟨by omega, by omega⟩ (fun b27 => ?_) (fun b27 => ?_)
      · refine Rx.walk 3 (pc' := 59) (L' := [some (.ref 0), some (.int (iz left)), some (.int (iz 3)), some (.long (jz till)), none, none]) (st' := []) (h' := cmH (u1 (u1 (u1 (u1 (u1 (u1 (u1 (u1 (u1 (u1 (u1 z 21 K) 22 pi_) 23 len) 24 tr) 28 M) 39 rm) 40 mv) 46 tmn) 47 tm) 56 1) 57 0) zl (uf (uf (uf (uf (uf (uf (uf (uf (uf (uf (uf f 5 va) 8 prr) 9 pu) 10 pp) 11 li) 12 ty) 16 mk) 17 gv) 20 cu) 21 ct) 22 od) (uf (uf (uf fl 15 rs) 18 tl) 19 tt) tx) rfl ?_
        refine Rx.ret rfl ?_
        have hl0 : left = 0 := by omega
        subst hl0
        refine ⟨_, _, _, _, _, _, _, _, _, _, _, _, _, _, _, _, _, rfl, rfl, hg, hmv, hmk, ⟨by omega, by omega⟩, htn, hod, ⟨by omega, by omega, fun q => by omega, fun q => Or.inl (by omega)⟩⟩
      · refine Rx.walk 2 (pc' := 41) (L' := [some (.ref 0), some (.int (iz left)), some (.int (iz 3)), some (.long (jz till)), none, none]) (st' := [.int (iz 0), .ref 0]) (h' := cmH (u1 (u1 (u1 (u1 (u1 (u1 (u1 (u1 (u1 (u1 (u1 z 21 K) 22 pi_) 23 len) 24 tr) 28 M) 39 rm) 40 mv) 46 tmn) 47 tm) 56 ha) 57 0) zl (uf (uf (uf (uf (uf (uf (uf (uf (uf (uf (uf f 5 va) 8 prr) 9 pu) 10 pp) 11 li) 12 ty) 16 mk) 17 gv) 20 cu) 21 ct) 22 od) (uf (uf (uf fl 15 rs) 18 tl) 19 tt) tx) rfl ?_
        refine Rx.eq1 rfl rfl ⟨by omega, by omega⟩ (fun b28 => ?_) (fun b28 => by omega)
        refine Rx.walk 2 (pc' := 59) (L' := [some (.ref 0), some (.int (iz left)), some (.int (iz 3)), some (.long (jz till)), none, none]) (st' := []) (h' := cmH (u1 (u1 (u1 (u1 (u1 (u1 (u1 (u1 (u1 (u1 (u1 z 21 K) 22 pi_) 23 len) 24 tr) 28 M) 39 rm) 40 mv) 46 tmn) 47 tm) 56 0) 57 0) zl (uf (uf (uf (uf (uf (uf (uf (uf (uf (uf (uf f 5 va) 8 prr) 9 pu) 10 pp) 11 li) 12 ty) 16 mk) 17 gv) 20 cu) 21 ct) 22 od) (uf (uf (uf fl 15 rs) 18 tl) 19 tt) tx) rfl ?_
        refine Rx.ret rfl ?_
        have hl0 : left = 0 := by omega
        subst hl0
        refine ⟨_, _, _, _, _, _, _, _, _, _, _, _, _, _, _, _, _, rfl, rfl, hg, hmv, hmk, ⟨by omega, by omega⟩, htn, hod, ⟨by omega, by omega, fun q => by omega, fun q => Or.inl (by omega)⟩⟩
    · refine Rx.walk 3 (pc' := 15) (L' := [some (.ref 0), some (.int (iz left)), some (.int (iz 3)), some (.long (jz till)), none, none]) (st' := [.int (iz 3), .long (jz till), .ref 0, .ref 0]) (h' := cmH (u1 (u1 (u1 (u1 (u1 (u1 (u1 (u1 (u1 (u1 (u1 z 21 K) 22 pi_) 23 len) 24 tr) 28 M) 39 rm) 40 mv) 46 tmn) 47 tm) 56 ha) 57 to) zl (uf (uf (uf (uf (uf (uf (uf (uf (uf (uf (uf f 5 va) 8 prr) 9 pu) 10 pp) 11 li) 12 ty) 16 mk) 17 gv) 20 cu) 21 ct) 22 od) (uf (uf (uf fl 15 rs) 18 tl) 19 tt) tx) rfl ?_
      refine Rx.callx (m' := m_X12_goOrder) (as := [.ref 0, .long (jz till), .int (iz 3)]) (rest := [.ref 0]) rfl (m_goOrder _ (u1 (u1 (u1 (u1 (u1 (u1 (u1 (u1 (u1 (u1 (u1 z 21 K) 22 pi_) 23 len) 24 tr) 28 M) 39 rm) 40 mv) 46 tmn) 47 tm) 56 ha) 57 to) zl (uf (uf (uf (uf (uf (uf (uf (uf (uf (uf (uf f 5 va) 8 prr) 9 pu) 10 pp) 11 li) 12 ty) 16 mk) 17 gv) 20 cu) 21 ct) 22 od) (uf (uf (uf fl 15 rs) 18 tl) 19 tt) tx  till 3 od M K len pi_ tr va w pu prr tmn tl cu pp li ty gv rm rs mk mv tm tt ct (by first | assumption | omega) (by first | assumption | omega) (by first | assumption | omega) (by first | assumption | omega) (by first | assumption | omega) (by first | assumption | omega) (by first | assumption | omega) (by first | assumption | omega) ⟨by omega, by omega⟩ (fun i a b => lsI_in hod hin.1 i a (by omega)) hvt hg (by first | assumption | omega) hmk (by omega)) (fun v50 h51 q52 => ?_)
      obtain ⟨r_29, pp_30, li_31, ty_32, gv_33, rm_34, rs_35, mk_36, mv_37, tm_38, tt_39, ct_40, tmn_41, tl_42, cu_43, rfl, rfl, f44, f45, f46, f47, f48, f49⟩ := q52
      refine Rx.walk 0 (pc' := 18) (L' := [some (.ref 0), some (.int (iz left)), some (.int (iz 3)), some (.long (jz till)), none, none]) (st' := [.int (iz r_29), .ref 0]) (h' := cmH (u1 (u1 (u1 (u1 (u1 (u1 (u1 (u1 (u1 (u1 (u1 z 21 K) 22 pi_) 23 len) 24 tr) 28 M) 39 rm_34) 40 mv_37) 46 tmn_41) 47 tm_38) 56 ha) 57 to) zl (uf (uf (uf (uf (uf (uf (uf (uf (uf (uf (uf f 5 va) 8 prr) 9 pu) 10 pp_30) 11 li_31) 12 ty_32) 16 mk_36) 17 gv_33) 20 cu_43) 21 ct_40) 22 od) (uf (uf (uf fl 15 rs_35) 18 tl_42) 19 tt_39) tx) rfl ?_
      refine Rx.eq1 rfl rfl ⟨by omega, by omega⟩ (fun b53 => ?_) (fun b53 => ?_)
      · refine Rx.walk 5 (pc' := 34) (L' := [some (.ref 0), some (.int (iz left)), some (.int (iz 3)), some (.long (jz till)), none, none]) (st' := [.int (iz ha), .ref 0]) (h' := cmH (u1 (u1 (u1 (u1 (u1 (u1 (u1 (u1 (u1 (u1 (u1 z 21 K) 22 pi_) 23 len) 24 tr) 28 M) 39 rm_34) 40 mv_37) 46 tmn_41) 47 tm_38) 56 ha) 57 0) zl (uf (uf (uf (uf (uf (uf (uf (uf (uf (uf (uf f 5 va) 8 prr) 9 pu) 10 pp_30) 11 li_31) 12 ty_32) 16 mk_36) 17 gv_33) 20 cu_43) 21 ct_40) 22 od) (uf (uf (uf fl 15 rs_35) 18 tl_42) 19 tt_39) tx) rfl ?_
        refine Rx.ne1 rfl rfl ⟨by omega, by omega⟩ (fun b54 => ?_) (fun b54 => ?_)
        · refine Rx.walk 3 (pc' := 59) (L' := [some (.ref 0), some (.int (iz left)), some (.int (iz 3)), some (.long (jz till)), none, none]) (st' := []) (h' := cmH (u1 (u1 (u1 (u1 (u1 (u1 (u1 (u1 (u1 (u1 (u1 z 21 K) 22 pi_) 23 len) 24 tr) 28 M) 39 rm_34) 40 mv_37) 46 tmn_41) 47 tm_38) 56 1) 57 0) zl (uf (uf (uf (uf (uf (uf (uf (uf (uf (uf (uf f 5 va) 8 prr) 9 pu) 10 pp_30) 11 li_31) 12 ty_32) 16 mk_36) 17 gv_33) 20 cu_43) 21 ct_40) 22 od) (uf (uf (uf fl 15 rs_35) 18 tl_42) 19 tt_39) tx) rfl ?_
          refine Rx.ret rfl ?_
          have hl0 : left = 0 := by omega
          subst hl0
          refine ⟨_, _, _, _, _, _, _, _, _, _, _, _, _, _, _, _, _, rfl, rfl, f44, f45, f46, ⟨by omega, by omega⟩, f48, hod, ⟨by omega, by omega, ?_, ?_⟩⟩
          · exact fun q => by omega
          · intro _
            refine Or.inr ⟨[], eL_0.mpr rfl, ?_⟩
            rw [List.append_nil, ← hod]
            rcases f49 with q | q
            · exact q.2
            · exfalso; omega
        · refine Rx.walk 2 (pc' := 41) (L' := [some (.ref 0), some (.int (iz left)), some (.int (iz 3)), some (.long (jz till)), none, none]) (st' := [.int (iz 0), .ref 0]) (h' := cmH (u1 (u1 (u1 (u1 (u1 (u1 (u1 (u1 (u1 (u1 (u1 z 21 K) 22 pi_) 23 len) 24 tr) 28 M) 39 rm_34) 40 mv_37) 46 tmn_41) 47 tm_38) 56 ha) 57 0) zl (uf (uf (uf (uf (uf (uf (uf (uf (uf (uf (uf f 5 va) 8 prr) 9 pu) 10 pp_30) 11 li_31) 12 ty_32) 16 mk_36) 17 gv_33) 20 cu_43) 21 ct_40) 22 od) (uf (uf (uf fl 15 rs_35) 18 tl_42) 19 tt_39) tx) rfl ?_
          refine Rx.eq1 rfl rfl ⟨by omega, by omega⟩ (fun b55 => ?_) (fun b55 => by omega)
          refine Rx.walk 2 (pc' := 59) (L' := [some (.ref 0), some (.int (iz left)), some (.int (iz 3)), some (.long (jz till)), none, none]) (st' := []) (h' := cmH (u1 (u1 (u1 (u1 (u1 (u1 (u1 (u1 (u1 (u1 (u1 z 21 K) 22 pi_) 23 len) 24 tr) 28 M) 39 rm_34) 40 mv_37) 46 tmn_41) 47 tm_38) 56 0) 57 0) zl (uf (uf (uf (uf (uf (uf (uf (uf (uf (uf (uf f 5 va) 8 prr) 9 pu) 10 pp_30) 11 li_31) 12 ty_32) 16 mk_36) 17 gv_33) 20 cu_43) 21 ct_40) 22 od) (uf (uf (uf fl 15 rs_35) 18 tl_42) 19 tt_39) tx) rfl ?_
          refine Rx.ret rfl ?_
          have hl0 : left = 0 := by omega
          subst hl0
          refine ⟨_, _, _, _, _, _, _, _, _, _, _, _, _, _, _, _, _, rfl, rfl, f44, f45, f46, ⟨by omega, by omega⟩, f48, hod, ⟨by omega, by omega, ?_, ?_⟩⟩
          · exact fun q => by omega
          · intro _
            refine Or.inr ⟨[], eL_0.mpr rfl, ?_⟩
            rw [List.append_nil, ← hod]
            rcases f49 with q | q
            · exact q.2
            · exfalso; omega
      · refine Rx.walk 6 (pc' := 34) (L' := [some (.ref 0), some (.int (iz left)), some (.int (iz 3)), some (.long (jz till)), none, none]) (st' := [.int (iz ha), .ref 0]) (h' := cmH (u1 (u1 (u1 (u1 (u1 (u1 (u1 (u1 (u1 (u1 (u1 z 21 K) 22 pi_) 23 len) 24 tr) 28 M) 39 rm_34) 40 mv_37) 46 tmn_41) 47 tm_38) 56 ha) 57 1) zl (uf (uf (uf (uf (uf (uf (uf (uf (uf (uf (uf f 5 va) 8 prr) 9 pu) 10 pp_30) 11 li_31) 12 ty_32) 16 mk_36) 17 gv_33) 20 cu_43) 21 ct_40) 22 od) (uf (uf (uf fl 15 rs_35) 18 tl_42) 19 tt_39) tx) rfl ?_
        refine Rx.ne1 rfl rfl ⟨by omega, by omega⟩ (fun b56 => ?_) (fun b56 => ?_)
        · refine Rx.walk 3 (pc' := 59) (L' := [some (.ref 0), some (.int (iz left)), some (.int (iz 3)), some (.long (jz till)), none, none]) (st' := []) (h' := cmH (u1 (u1 (u1 (u1 (u1 (u1 (u1 (u1 (u1 (u1 (u1 z 21 K) 22 pi_) 23 len) 24 tr) 28 M) 39 rm_34) 40 mv_37) 46 tmn_41) 47 tm_38) 56 1) 57 1) zl (uf (uf (uf (uf (uf (uf (uf (uf (uf (uf (uf f 5 va) 8 prr) 9 pu) 10 pp_30) 11 li_31) 12 ty_32) 16 mk_36) 17 gv_33) 20 cu_43) 21 ct_40) 22 od) (uf (uf (uf fl 15 rs_35) 18 tl_42) 19 tt_39) tx) rfl ?_
          refine Rx.ret rfl ?_
          have hl0 : left = 0 := by omega
          subst hl0
          obtain ⟨-, hx1, -⟩ : r_29 = 1 ∧ _ ∧ _ := by rcases f49 with q | q; (exfalso; omega); exact q
          have hx2 : (fun l r => thR w K tr len pi_ prr (fun c k => pu (4 * c + k)) l (fun v => v = till) r) p (if 0 < tmn_41 then 1 else 0) := by rw [← hod]; exact hx1
          have huq : ∀ l a b, (fun l r => thR w K tr len pi_ prr (fun c k => pu (4 * c + k)) l (fun v => v = till) r) l a → (fun l r => thR w K tr len pi_ prr (fun c k => pu (4 * c + k)) l (fun v => v = till) r) l b → a = b := fun l a b x y => thR_uq x y
          refine ⟨_, _, _, _, _, _, _, _, _, _, _, _, _, _, _, _, _, rfl, rfl, f44, f45, f46, ⟨by omega, by omega⟩, f48, hod, ⟨by omega, by omega, ?_, ?_⟩⟩
          · intro _
            refine ⟨by omega, ?_, ?_⟩
            · rintro ⟨e, e1, e2⟩
              rw [eL_0.mp e1, List.append_nil] at e2
              have := huq _ _ _ e2 hx2
              split at this <;> omega
            · constructor
              · intro _
                by_cases hq : ha = 1
                · exact Or.inl hq
                · refine Or.inr ⟨[], eL_0.mpr rfl, ?_⟩
                  rw [List.append_nil]
                  rw [if_pos (by omega)] at hx2
                  exact hx2
              · rintro (q | ⟨e, e1, e2⟩)
                · omega
                · have e3 : (fun l r => thR w K tr len pi_ prr (fun c k => pu (4 * c + k)) l (fun v => v = till) r) p 1 := by have e4 := e2; rw [eL_0.mp e1, List.append_nil] at e4; exact e4
                  have := huq _ _ _ e3 hx2
                  split at this <;> omega
          · intro q; omega
        · refine Rx.walk 2 (pc' := 41) (L' := [some (.ref 0), some (.int (iz left)), some (.int (iz 3)), some (.long (jz till)), none, none]) (st' := [.int (iz 1), .ref 0]) (h' := cmH (u1 (u1 (u1 (u1 (u1 (u1 (u1 (u1 (u1 (u1 (u1 z 21 K) 22 pi_) 23 len) 24 tr) 28 M) 39 rm_34) 40 mv_37) 46 tmn_41) 47 tm_38) 56 ha) 57 1) zl (uf (uf (uf (uf (uf (uf (uf (uf (uf (uf (uf f 5 va) 8 prr) 9 pu) 10 pp_30) 11 li_31) 12 ty_32) 16 mk_36) 17 gv_33) 20 cu_43) 21 ct_40) 22 od) (uf (uf (uf fl 15 rs_35) 18 tl_42) 19 tt_39) tx) rfl ?_
          refine Rx.eq1 rfl rfl ⟨by omega, by omega⟩ (fun b57 => by omega) (fun b57 => ?_)
          refine Rx.walk 2 (pc' := 48) (L' := [some (.ref 0), some (.int (iz left)), some (.int (iz 3)), some (.long (jz till)), none, none]) (st' := [.int (iz tmn_41), .ref 0]) (h' := cmH (u1 (u1 (u1 (u1 (u1 (u1 (u1 (u1 (u1 (u1 (u1 z 21 K) 22 pi_) 23 len) 24 tr) 28 M) 39 rm_34) 40 mv_37) 46 tmn_41) 47 tm_38) 56 ha) 57 1) zl (uf (uf (uf (uf (uf (uf (uf (uf (uf (uf (uf f 5 va) 8 prr) 9 pu) 10 pp_30) 11 li_31) 12 ty_32) 16 mk_36) 17 gv_33) 20 cu_43) 21 ct_40) 22 od) (uf (uf (uf fl 15 rs_35) 18 tl_42) 19 tt_39) tx) rfl ?_
          refine Rx.le1 rfl rfl ⟨by omega, by omega⟩ (fun b58 => ?_) (fun b58 => ?_)
          · refine Rx.walk 2 (pc' := 59) (L' := [some (.ref 0), some (.int (iz left)), some (.int (iz 3)), some (.long (jz till)), none, none]) (st' := []) (h' := cmH (u1 (u1 (u1 (u1 (u1 (u1 (u1 (u1 (u1 (u1 (u1 z 21 K) 22 pi_) 23 len) 24 tr) 28 M) 39 rm_34) 40 mv_37) 46 tmn_41) 47 tm_38) 56 0) 57 1) zl (uf (uf (uf (uf (uf (uf (uf (uf (uf (uf (uf f 5 va) 8 prr) 9 pu) 10 pp_30) 11 li_31) 12 ty_32) 16 mk_36) 17 gv_33) 20 cu_43) 21 ct_40) 22 od) (uf (uf (uf fl 15 rs_35) 18 tl_42) 19 tt_39) tx) rfl ?_
            refine Rx.ret rfl ?_
            have hl0 : left = 0 := by omega
            subst hl0
            obtain ⟨-, hx1, -⟩ : r_29 = 1 ∧ _ ∧ _ := by rcases f49 with q | q; (exfalso; omega); exact q
            have hx2 : (fun l r => thR w K tr len pi_ prr (fun c k => pu (4 * c + k)) l (fun v => v = till) r) p (if 0 < tmn_41 then 1 else 0) := by rw [← hod]; exact hx1
            have huq : ∀ l a b, (fun l r => thR w K tr len pi_ prr (fun c k => pu (4 * c + k)) l (fun v => v = till) r) l a → (fun l r => thR w K tr len pi_ prr (fun c k => pu (4 * c + k)) l (fun v => v = till) r) l b → a = b := fun l a b x y => thR_uq x y
            refine ⟨_, _, _, _, _, _, _, _, _, _, _, _, _, _, _, _, _, rfl, rfl, f44, f45, f46, ⟨by omega, by omega⟩, f48, hod, ⟨by omega, by omega, ?_, ?_⟩⟩
            · intro _
              refine ⟨by omega, ?_, ?_⟩
              · rintro ⟨e, e1, e2⟩
                rw [eL_0.mp e1, List.append_nil] at e2
                have := huq _ _ _ e2 hx2
                split at this <;> omega
              · constructor
                · intro _
                  by_cases hq : ha = 1
                  · exact Or.inl hq
                  · refine Or.inr ⟨[], eL_0.mpr rfl, ?_⟩
                    rw [List.append_nil]
                    rw [if_pos (by omega)] at hx2
                    exact hx2
                · rintro (q | ⟨e, e1, e2⟩)
                  · omega
                  · have e3 : (fun l r => thR w K tr len pi_ prr (fun c k => pu (4 * c + k)) l (fun v => v = till) r) p 1 := by have e4 := e2; rw [eL_0.mp e1, List.append_nil] at e4; exact e4
                    have := huq _ _ _ e3 hx2
                    split at this <;> omega
            · intro q; omega
          · refine Rx.walk 3 (pc' := 59) (L' := [some (.ref 0), some (.int (iz left)), some (.int (iz 3)), some (.long (jz till)), none, none]) (st' := []) (h' := cmH (u1 (u1 (u1 (u1 (u1 (u1 (u1 (u1 (u1 (u1 (u1 z 21 K) 22 pi_) 23 len) 24 tr) 28 M) 39 rm_34) 40 mv_37) 46 tmn_41) 47 tm_38) 56 1) 57 1) zl (uf (uf (uf (uf (uf (uf (uf (uf (uf (uf (uf f 5 va) 8 prr) 9 pu) 10 pp_30) 11 li_31) 12 ty_32) 16 mk_36) 17 gv_33) 20 cu_43) 21 ct_40) 22 od) (uf (uf (uf fl 15 rs_35) 18 tl_42) 19 tt_39) tx) rfl ?_
            refine Rx.ret rfl ?_
            have hl0 : left = 0 := by omega
            subst hl0
            obtain ⟨-, hx1, -⟩ : r_29 = 1 ∧ _ ∧ _ := by rcases f49 with q | q; (exfalso; omega); exact q
            have hx2 : (fun l r => thR w K tr len pi_ prr (fun c k => pu (4 * c + k)) l (fun v => v = till) r) p (if 0 < tmn_41 then 1 else 0) := by rw [← hod]; exact hx1
            have huq : ∀ l a b, (fun l r => thR w K tr len pi_ prr (fun c k => pu (4 * c + k)) l (fun v => v = till) r) l a → (fun l r => thR w K tr len pi_ prr (fun c k => pu (4 * c + k)) l (fun v => v = till) r) l b → a = b := fun l a b x y => thR_uq x y
            refine ⟨_, _, _, _, _, _, _, _, _, _, _, _, _, _, _, _, _, rfl, rfl, f44, f45, f46, ⟨by omega, by omega⟩, f48, hod, ⟨by omega, by omega, ?_, ?_⟩⟩
            · intro _
              refine ⟨by omega, ?_, ?_⟩
              · rintro ⟨e, e1, e2⟩
                rw [eL_0.mp e1, List.append_nil] at e2
                have := huq _ _ _ e2 hx2
                split at this <;> omega
              · constructor
                · intro _
                  by_cases hq : ha = 1
                  · exact Or.inl hq
                  · refine Or.inr ⟨[], eL_0.mpr rfl, ?_⟩
                    rw [List.append_nil]
                    rw [if_pos (by omega)] at hx2
                    exact hx2
                · rintro (q | ⟨e, e1, e2⟩)
                  · omega
                  · have e3 : (fun l r => thR w K tr len pi_ prr (fun c k => pu (4 * c + k)) l (fun v => v = till) r) p 1 := by have e4 := e2; rw [eL_0.mp e1, List.append_nil] at e4; exact e4
                    have := huq _ _ _ e3 hx2
                    split at this <;> omega
            · intro q; omega
set_option maxRecDepth 100000 in
set_option maxHeartbeats 4000000 in
theorem m_goChain2_l (d : Nat) (z : Nat → Int) (zl : Nat → Int) (f : Nat → Int → Int) (fl : Nat → Int → Int) (tx : Nat)  (left : Int) (p : List Int) (till : Int) (M : Int) (K : Int) (len : Int) (pi_ : Int) (tr : Int) (va : Int → Int) (w : Int → Int) (pu : Int → Int) (prr : Int → Int) (to0 : Int) (ha0 : Int) (mv0 : Int) (hK : 1 ≤ K) (hlen : 1 ≤ len ∧ len ≤ 5) (hpi : 1 ≤ pi_ ∧ pi_ ≤ 2) (htr : 0 ≤ tr ∧ tr ≤ 1) (hw : wOK w) (hva : ∀ k : Int, 0 ≤ k → k < K → va k = w (k + 1)) (hK4 : K ≤ 4) (hcm : cuM K M pu prr) (hvt : vT K len pi_ till) (hin : inR M p ∧ p.length = 2) (hleft : 0 ≤ left ∧ left < 16) (hlm : ∀ x : Int, 0 ≤ x → x < 4 → hb left x = 1 → x < M) (hrb : rb left 0 ≤ 2) (hl0 : left ≠ 0) (hmv0 : mv0 + 25600 < 2147483648) (P : Option Value → AmH → Prop) (hx0 : ∀ (to' : Int) (ha' : Int) (od' : Int → Int) (pp' : Int → Int) (li' : Int → Int) (ty' : Int → Int) (gv' : Int → Int) (rm' : Int) (rs' : Int → Int) (mk' : Int → Int) (mv' : Int) (tm' : Int) (tt' : Int → Int) (ct' : Int → Int) (tmn' : Int) (tl' : Int → Int) (cu' : Int → Int), (∀ k : Int, 0 ≤ k → k < 4 → 0 ≤ gv' k ∧ gv' k ≤ 4) → (0 ≤ mv') → (∀ j : Int, 0 ≤ j → j < 72000 → 0 ≤ mk' j ∧ mk' j ≤ mv') → (mv0 ≤ mv' ∧ mv' ≤ mv0 + 25600) → (0 ≤ tmn' ∧ tmn' ≤ 200) → (lsI 2 od' = p) → (gcX (gcA (fun l r => thR w K tr len pi_ prr (fun c k => pu (4 * c + k)) l (fun v => v = till) r) p left) to0 ha0 to' ha') → P (none) (cmH (u1 (u1 (u1 (u1 (u1 (u1 (u1 (u1 (u1 (u1 (u1 z 21 K) 22 pi_) 23 len) 24 tr) 28 M) 39 rm') 40 mv') 46 tmn') 47 tm') 56 ha') 57 to') zl (uf (uf (uf (uf (uf (uf (uf (uf (uf (uf (uf f 5 va) 8 prr) 9 pu) 10 pp') 11 li') 12 ty') 16 mk') 17 gv') 20 cu') 21 ct') 22 od') (uf (uf (uf fl 15 rs') 18 tl') 19 tt') tx)) : ∀ (kF : Nat) (c : Int) (cb : Int) (to : Int) (ha : Int) (od : Int → Int) (tmn : Int) (tl : Int → Int) (cu : Int → Int) (pp : Int → Int) (li : Int → Int) (ty : Int → Int) (gv : Int → Int) (rm : Int) (rs : Int → Int) (mk : Int → Int) (mv : Int) (tm : Int) (tt : Int → Int) (ct : Int → Int), (0 ≤ c) → (c ≤ M) → (0 ≤ cb ∧ cb + rb left c ≤ 2) → (mv0 ≤ mv ∧ mv ≤ mv0 + 12800 * cb) → (∀ k : Int, 0 ≤ k → k < 4 → 0 ≤ gv k ∧ gv k ≤ 4) → (0 ≤ mv) → (∀ j : Int, 0 ≤ j → j < 72000 → 0 ≤ mk j ∧ mk j ≤ mv) → (0 ≤ tmn ∧ tmn ≤ 200) → (lsI 2 od = p) → (gcX (gcH (fun l r => thR w K tr len pi_ prr (fun c k => pu (4 * c + k)) l (fun v => v = till) r) p left c) to0 ha0 to ha) → (4 - c) < (kF : Int) → Rx (d + 55) m_X12_goChain 63 [some (.ref 0), some (.int (iz left)), some (.int (iz 2)), some (.long (jz till)), none, some (.int (iz c))] [] (cmH (u1 (u1 (u1 (u1 (u1 (u1 (u1 (u1 (u1 (u1 (u1 z 21 K) 22 pi_) 23 len) 24 tr) 28 M) 39 rm) 40 mv) 46 tmn) 47 tm) 56 ha) 57 to) zl (uf (uf (uf (uf (uf (uf (uf (uf (uf (uf (uf f 5 va) 8 prr) 9 pu) 10 pp) 11 li) 12 ty) 16 mk) 17 gv) 20 cu) 21 ct) 22 od) (uf (uf (uf fl 15 rs) 18 tl) 19 tt) tx) P := by
  have hM0 := hcm.1
  have hM4 := hcm.2.1
  have hrn := rb_nn left 0
  intro kF
  induction kF with
  | zero =>
    intro c cb to ha od tmn tl cu pp li ty gv rm rs mk mv tm tt ct c0 c1 hcb hmq hg hmv hmk htn hod hX hk
    exfalso; omega
  | succ kF ih =>
    intro c cb to ha od tmn tl cu pp li ty gv rm rs mk mv tm tt ct c0 c1 hcb hmq hg hmv hmk htn hod hX hk
    have hX1 := hX.1
    have hX2 := hX.2.1
    have hrc := rb_nn left c
    have hrc1 := rb_nn left (c + 1)
    have hrs := fun q => rb_s (left := left) c0 (show c < 4 from q)
    have hbb := hb_b left c
    refine Rx.walk 3 (pc' := 69) (L' := [some (.ref 0), some (.int (iz left)), some (.int (iz 2)), some (.long (jz till)), none, some (.int (iz c))]) (st' := [.int (iz M), .int (iz c)]) (h' := cmH (u1 (u1 (u1 (u1 (u1 (u1 (u1 (u1 (u1 (u1 (u1 z 21 K) 22 pi_) 23 len) 24 tr) 28 M) 39 rm) 40 mv) 46 tmn) 47 tm) 56 ha) 57 to) zl (uf (uf (uf (uf (uf (uf (uf (uf (uf (uf (uf f 5 va) 8 prr) 9 pu) 10 pp) 11 li) 12 ty) 16 mk) 17 gv) 20 cu) 21 ct) 22 od) (uf (uf (uf fl 15 rs) 18 tl) 19 tt) tx) rfl ?_
    refine Rx.ge2 rfl rfl ⟨by omega, by omega⟩ ⟨by omega, by omega⟩ (fun b1 => ?_) (fun b1 => ?_)
    · refine Rx.ret rfl ?_
      exact hx0 _ _ _ _ _ _ _ _ _ _ _ _ _ _ _ _ _ hg hmv hmk ⟨by omega, by omega⟩ htn hod (gcX_c hX (fun r => (gcH_e hl0 hleft.1 hleft.2 (fun x a b q => by have := hlm x a b q; omega) r).symm))
    · refine Rx.walk 2 (pc' := 76) (L' := [some (.ref 0), some (.int (iz left)), some (.int (iz 2)), some (.long (jz till)), none, some (.int (iz c))]) (st' := [.int (iz to)]) (h' := cmH (u1 (u1 (u1 (u1 (u1 (u1 (u1 (u1 (u1 (u1 (u1 z 21 K) 22 pi_) 23 len) 24 tr) 28 M) 39 rm) 40 mv) 46 tmn) 47 tm) 56 ha) 57 to) zl (uf (uf (uf (uf (uf (uf (uf (uf (uf (uf (uf f 5 va) 8 prr) 9 pu) 10 pp) 11 li) 12 ty) 16 mk) 17 gv) 20 cu) 21 ct) 22 od) (uf (uf (uf fl 15 rs) 18 tl) 19 tt) tx) rfl ?_
      refine Rx.eq1 rfl rfl ⟨by omega, by omega⟩ (fun b2 => ?_) (fun b2 => ?_)
      · refine Rx.ret rfl ?_
        exact hx0 _ _ _ _ _ _ _ _ _ _ _ _ _ _ _ _ _ hg hmv hmk ⟨by omega, by omega⟩ htn hod (gcX_u hX (by omega) (fun r ⟨x, e, x0, x1, x2, x3⟩ => ⟨x :: e, x2, x3⟩))
      · refine Rx.walk 2 (pc' := 82) (L' := [some (.ref 0), some (.int (iz left)), some (.int (iz 2)), some (.long (jz till)), none, some (.int (iz c))]) (st' := [.int (iz c), .int (iz left)]) (h' := cmH (u1 (u1 (u1 (u1 (u1 (u1 (u1 (u1 (u1 (u1 (u1 z 21 K) 22 pi_) 23 len) 24 tr) 28 M) 39 rm) 40 mv) 46 tmn) 47 tm) 56 ha) 57 to) zl (uf (uf (uf (uf (uf (uf (uf (uf (uf (uf (uf f 5 va) 8 prr) 9 pu) 10 pp) 11 li) 12 ty) 16 mk) 17 gv) 20 cu) 21 ct) 22 od) (uf (uf (uf fl 15 rs) 18 tl) 19 tt) tx) rfl ?_
        refine Rx.callx (m' := m_X12_has) (as := [.int (iz left), .int (iz c)]) (rest := []) rfl (n_has _ (cmH (u1 (u1 (u1 (u1 (u1 (u1 (u1 (u1 (u1 (u1 (u1 z 21 K) 22 pi_) 23 len) 24 tr) 28 M) 39 rm) 40 mv) 46 tmn) 47 tm) 56 ha) 57 to) zl (uf (uf (uf (uf (uf (uf (uf (uf (uf (uf (uf f 5 va) 8 prr) 9 pu) 10 pp) 11 li) 12 ty) 16 mk) 17 gv) 20 cu) 21 ct) 22 od) (uf (uf (uf fl 15 rs) 18 tl) 19 tt) tx)  left c (by first | assumption | omega) (by first | assumption | omega) (by first | assumption | omega) (by first | assumption | omega)) (fun v5 h6 q7 => ?_)
        obtain ⟨r_3, rfl, rfl, f4⟩ := q7
        refine Rx.walk 0 (pc' := 85) (L' := [some (.ref 0), some (.int (iz left)), some (.int (iz 2)), some (.long (jz till)), none, some (.int (iz c))]) (st' := [.int (iz r_3)]) (h' := cmH (u1 (u1 (u1 (u1 (u1 (u1 (u1 (u1 (u1 (u1 (u1 z 21 K) 22 pi_) 23 len) 24 tr) 28 M) 39 rm) 40 mv) 46 tmn) 47 tm) 56 ha) 57 to) zl (uf (uf (uf (uf (uf (uf (uf (uf (uf (uf (uf f 5 va) 8 prr) 9 pu) 10 pp) 11 li) 12 ty) 16 mk) 17 gv) 20 cu) 21 ct) 22 od) (uf (uf (uf fl 15 rs) 18 tl) 19 tt) tx) rfl ?_
        refine Rx.ne1 rfl rfl ⟨by omega, by omega⟩ (fun b8 => ?_) (fun b8 => ?_)
        · refine Rx.walk 4 (pc' := 98) (L' := [some (.ref 0), some (.int (iz left)), some (.int (iz 2)), some (.long (jz till)), none, some (.int (iz c))]) (st' := [.int (iz c), .int (iz 2), .ref 22]) (h' := cmH (u1 (u1 (u1 (u1 (u1 (u1 (u1 (u1 (u1 (u1 (u1 z 21 K) 22 pi_) 23 len) 24 tr) 28 M) 39 rm) 40 mv) 46 tmn) 47 tm) 56 ha) 57 to) zl (uf (uf (uf (uf (uf (uf (uf (uf (uf (uf (uf f 5 va) 8 prr) 9 pu) 10 pp) 11 li) 12 ty) 16 mk) 17 gv) 20 cu) 21 ct) 22 od) (uf (uf (uf fl 15 rs) 18 tl) 19 tt) tx) rfl ?_
          refine Rx.ias (g := od) (h' := cmH (u1 (u1 (u1 (u1 (u1 (u1 (u1 (u1 (u1 (u1 (u1 z 21 K) 22 pi_) 23 len) 24 tr) 28 M) 39 rm) 40 mv) 46 tmn) 47 tm) 56 ha) 57 to) zl (uf (uf (uf (uf (uf (uf (uf (uf (uf (uf (uf f 5 va) 8 prr) 9 pu) 10 pp) 11 li) 12 ty) 16 mk) 17 gv) 20 cu) 21 ct) 22 (iu od 2 c)) (uf (uf (uf fl 15 rs) 18 tl) 19 tt) tx) rfl rfl (by omega) (by omega) (by omega) rfl ?_
          refine Rx.walk 4 (pc' := 104) (L' := [some (.ref 0), some (.int (iz left)), some (.int (iz 2)), some (.long (jz till)), none, some (.int (iz c))]) (st' := [.int (iz c), .int (iz 1), .int (iz left), .ref 0]) (h' := cmH (u1 (u1 (u1 (u1 (u1 (u1 (u1 (u1 (u1 (u1 (u1 z 21 K) 22 pi_) 23 len) 24 tr) 28 M) 39 rm) 40 mv) 46 tmn) 47 tm) 56 ha) 57 to) zl (uf (uf (uf (uf (uf (uf (uf (uf (uf (uf (uf f 5 va) 8 prr) 9 pu) 10 pp) 11 li) 12 ty) 16 mk) 17 gv) 20 cu) 21 ct) 22 (iu od 2 c)) (uf (uf (uf fl 15 rs) 18 tl) 19 tt) tx) rfl ?_
          refine Rx.ishl (c := (p2 c)) rfl (p2_shl (by omega) (by omega)) ?_
          refine Rx.walk 1 (pc' := 106) (L' := [some (.ref 0), some (.int (iz left)), some (.int (iz 2)), some (.long (jz till)), none, some (.int (iz c))]) (st' := [.int (iz (-1)), .int (iz (p2 c)), .int (iz left), .ref 0]) (h' := cmH (u1 (u1 (u1 (u1 (u1 (u1 (u1 (u1 (u1 (u1 (u1 z 21 K) 22 pi_) 23 len) 24 tr) 28 M) 39 rm) 40 mv) 46 tmn) 47 tm) 56 ha) 57 to) zl (uf (uf (uf (uf (uf (uf (uf (uf (uf (uf (uf f 5 va) 8 prr) 9 pu) 10 pp) 11 li) 12 ty) 16 mk) 17 gv) 20 cu) 21 ct) 22 (iu od 2 c)) (uf (uf (uf fl 15 rs) 18 tl) 19 tt) tx) rfl ?_
          refine Rx.ixor (c := (-1 - p2 c)) rfl (p2_xor c0 (by omega)) ?_
          refine Rx.iand (c := (left - p2 c)) rfl (and_not' hleft.1 hleft.2 c0 (by omega) (by omega)) ?_
          refine Rx.walk 2 (pc' := 110) (L' := [some (.ref 0), some (.int (iz left)), some (.int (iz 2)), some (.long (jz till)), none, some (.int (iz c))]) (st' := [.int (iz 1), .int (iz 2), .int (iz (left - p2 c)), .ref 0]) (h' := cmH (u1 (u1 (u1 (u1 (u1 (u1 (u1 (u1 (u1 (u1 (u1 z 21 K) 22 pi_) 23 len) 24 tr) 28 M) 39 rm) 40 mv) 46 tmn) 47 tm) 56 ha) 57 to) zl (uf (uf (uf (uf (uf (uf (uf (uf (uf (uf (uf f 5 va) 8 prr) 9 pu) 10 pp) 11 li) 12 ty) 16 mk) 17 gv) 20 cu) 21 ct) 22 (iu od 2 c)) (uf (uf (uf fl 15 rs) 18 tl) 19 tt) tx) rfl ?_
          refine Rx.iadd rfl ?_
          refine Rx.walk 0 (pc' := 111) (L' := [some (.ref 0), some (.int (iz left)), some (.int (iz 2)), some (.long (jz till)), none, some (.int (iz c))]) (st' := [.int (iz 3), .int (iz (left - p2 c)), .ref 0]) (h' := cmH (u1 (u1 (u1 (u1 (u1 (u1 (u1 (u1 (u1 (u1 (u1 z 21 K) 22 pi_) 23 len) 24 tr) 28 M) 39 rm) 40 mv) 46 tmn) 47 tm) 56 ha) 57 to) zl (uf (uf (uf (uf (uf (uf (uf (uf (uf (uf (uf f 5 va) 8 prr) 9 pu) 10 pp) 11 li) 12 ty) 16 mk) 17 gv) 20 cu) 21 ct) 22 (iu od 2 c)) (uf (uf (uf fl 15 rs) 18 tl) 19 tt) tx) rfl ?_
          refine Rx.walk 1 (pc' := 112) (L' := [some (.ref 0), some (.int (iz left)), some (.int (iz 2)), some (.long (jz till)), none, some (.int (iz c))]) (st' := [.long (jz till), .int (iz 3), .int (iz (left - p2 c)), .ref 0]) (h' := cmH (u1 (u1 (u1 (u1 (u1 (u1 (u1 (u1 (u1 (u1 (u1 z 21 K) 22 pi_) 23 len) 24 tr) 28 M) 39 rm) 40 mv) 46 tmn) 47 tm) 56 ha) 57 to) zl (uf (uf (uf (uf (uf (uf (uf (uf (uf (uf (uf f 5 va) 8 prr) 9 pu) 10 pp) 11 li) 12 ty) 16 mk) 17 gv) 20 cu) 21 ct) 22 (iu od 2 c)) (uf (uf (uf fl 15 rs) 18 tl) 19 tt) tx) rfl ?_
          have hbc : hb left c = 1 := by omega
          obtain ⟨hp1, hp2⟩ := rb_p hleft.1 hleft.2 c0 (show c < 4 by omega) hbc
          refine Rx.callx (m' := m_X12_goChain) (as := [.ref 0, .int (iz (left - p2 c)), .int (iz 3), .long (jz till)]) (rest := []) rfl (m_goChain3 _ (u1 (u1 (u1 (u1 (u1 (u1 (u1 (u1 (u1 (u1 (u1 z 21 K) 22 pi_) 23 len) 24 tr) 28 M) 39 rm) 40 mv) 46 tmn) 47 tm) 56 ha) 57 to) zl (uf (uf (uf (uf (uf (uf (uf (uf (uf (uf (uf f 5 va) 8 prr) 9 pu) 10 pp) 11 li) 12 ty) 16 mk) 17 gv) 20 cu) 21 ct) 22 (iu od 2 c)) (uf (uf (uf fl 15 rs) 18 tl) 19 tt) tx  (left - p2 c) (p ++ [c]) till M K len pi_ tr va w pu prr to ha (iu od 2 c) tmn tl cu pp li ty gv rm rs mk mv tm tt ct (by first | assumption | omega) (by first | assumption | omega) (by first | assumption | omega) (by first | assumption | omega) (by first | assumption | omega) (by first | assumption | omega) (by first | assumption | omega) (by first | assumption | omega) (by first | assumption | omega) ⟨inR_app.mpr ⟨hin.1, fun x hx => by rw [List.mem_singleton] at hx; omega⟩, by rw [List.length_append, hin.2]; rfl⟩ hp2 (fun x a b q => hlm x a b ((hb_p hleft.1 hleft.2 c0 (by omega) a b hbc).mp q).1) (by omega) hg hmv hmk htn (lsI_push hod) hX1 hX2 (by omega)) (fun v33 h34 q35 => ?_)
          obtain ⟨to_9, ha_10, od_11, pp_12, li_13, ty_14, gv_15, rm_16, rs_17, mk_18, mv_19, tm_20, tt_21, ct_22, tmn_23, tl_24, cu_25, rfl, rfl, f26, f27, f28, f29, f30, f31, f32⟩ := q35
          refine Rx.walk 0 (pc' := 115) (L' := [some (.ref 0), some (.int (iz left)), some (.int (iz 2)), some (.long (jz till)), none, some (.int (iz c))]) (st' := []) (h' := cmH (u1 (u1 (u1 (u1 (u1 (u1 (u1 (u1 (u1 (u1 (u1 z 21 K) 22 pi_) 23 len) 24 tr) 28 M) 39 rm_16) 40 mv_19) 46 tmn_23) 47 tm_20) 56 ha_10) 57 to_9) zl (uf (uf (uf (uf (uf (uf (uf (uf (uf (uf (uf f 5 va) 8 prr) 9 pu) 10 pp_12) 11 li_13) 12 ty_14) 16 mk_18) 17 gv_15) 20 cu_25) 21 ct_22) 22 od_11) (uf (uf (uf fl 15 rs_17) 18 tl_24) 19 tt_21) tx) rfl ?_
          refine Rx.iinc (b := 1) rfl rfl rfl ?_
          refine Rx.walk 0 (pc' := 118) (L' := [some (.ref 0), some (.int (iz left)), some (.int (iz 2)), some (.long (jz till)), none, some (.int (iz (c + 1)))]) (st' := []) (h' := cmH (u1 (u1 (u1 (u1 (u1 (u1 (u1 (u1 (u1 (u1 (u1 z 21 K) 22 pi_) 23 len) 24 tr) 28 M) 39 rm_16) 40 mv_19) 46 tmn_23) 47 tm_20) 56 ha_10) 57 to_9) zl (uf (uf (uf (uf (uf (uf (uf (uf (uf (uf (uf f 5 va) 8 prr) 9 pu) 10 pp_12) 11 li_13) 12 ty_14) 16 mk_18) 17 gv_15) 20 cu_25) 21 ct_22) 22 od_11) (uf (uf (uf fl 15 rs_17) 18 tl_24) 19 tt_21) tx) rfl ?_
          refine Rx.walk 1 (pc' := 63) (L' := [some (.ref 0), some (.int (iz left)), some (.int (iz 2)), some (.long (jz till)), none, some (.int (iz (c + 1)))]) (st' := []) (h' := cmH (u1 (u1 (u1 (u1 (u1 (u1 (u1 (u1 (u1 (u1 (u1 z 21 K) 22 pi_) 23 len) 24 tr) 28 M) 39 rm_16) 40 mv_19) 46 tmn_23) 47 tm_20) 56 ha_10) 57 to_9) zl (uf (uf (uf (uf (uf (uf (uf (uf (uf (uf (uf f 5 va) 8 prr) 9 pu) 10 pp_12) 11 li_13) 12 ty_14) 16 mk_18) 17 gv_15) 20 cu_25) 21 ct_22) 22 od_11) (uf (uf (uf fl 15 rs_17) 18 tl_24) 19 tt_21) tx) rfl ?_
          have hrs1 := hrs (by omega)
          exact ih (c + 1) (cb + 1) to_9 ha_10 od_11 tmn_23 tl_24 cu_25 pp_12 li_13 ty_14 gv_15 rm_16 rs_17 mk_18 mv_19 tm_20 tt_21 ct_22 (by first | assumption | omega) (by first | assumption | omega) ⟨by omega, by omega⟩ ⟨by omega, by omega⟩ f26 f27 f28 f30 (lsI_pre f31) (gcX_tr hX f32 (fun r => gcH_s hbc hleft.1 hleft.2 c0 (by omega) r)) (by first | assumption | omega) 
        · refine Rx.walk 1 (pc' := 115) (L' := [some (.ref 0), some (.int (iz left)), some (.int (iz 2)), some (.long (jz till)), none, some (.int (iz c))]) (st' := []) (h' := cmH (u1 (u1 (u1 (u1 (u1 (u1 (u1 (u1 (u1 (u1 (u1 z 21 K) 22 pi_) 23 len) 24 tr) 28 M) 39 rm) 40 mv) 46 tmn) 47 tm) 56 ha) 57 to) zl (uf (uf (uf (uf (uf (uf (uf (uf (uf (uf (uf f 5 va) 8 prr) 9 pu) 10 pp) 11 li) 12 ty) 16 mk) 17 gv) 20 cu) 21 ct) 22 od) (uf (uf (uf fl 15 rs) 18 tl) 19 tt) tx) rfl ?_
          refine Rx.iinc (b := 1) rfl rfl rfl ?_
          refine Rx.walk 0 (pc' := 118) (L' := [some (.ref 0), some (.int (iz left)), some (.int (iz 2)), some (.long (jz till)), none, some (.int (iz (c + 1)))]) (st' := []) (h' := cmH (u1 (u1 (u1 (u1 (u1 (u1 (u1 (u1 (u1 (u1 (u1 z 21 K) 22 pi_) 23 len) 24 tr) 28 M) 39 rm) 40 mv) 46 tmn) 47 tm) 56 ha) 57 to) zl (uf (uf (uf (uf (uf (uf (uf (uf (uf (uf (uf f 5 va) 8 prr) 9 pu) 10 pp) 11 li) 12 ty) 16 mk) 17 gv) 20 cu) 21 ct) 22 od) (uf (uf (uf fl 15 rs) 18 tl) 19 tt) tx) rfl ?_
          refine Rx.walk 1 (pc' := 63) (L' := [some (.ref 0), some (.int (iz left)), some (.int (iz 2)), some (.long (jz till)), none, some (.int (iz (c + 1)))]) (st' := []) (h' := cmH (u1 (u1 (u1 (u1 (u1 (u1 (u1 (u1 (u1 (u1 (u1 z 21 K) 22 pi_) 23 len) 24 tr) 28 M) 39 rm) 40 mv) 46 tmn) 47 tm) 56 ha) 57 to) zl (uf (uf (uf (uf (uf (uf (uf (uf (uf (uf (uf f 5 va) 8 prr) 9 pu) 10 pp) 11 li) 12 ty) 16 mk) 17 gv) 20 cu) 21 ct) 22 od) (uf (uf (uf fl 15 rs) 18 tl) 19 tt) tx) rfl ?_
          have hrs1 := hrs (by omega)
          exact ih (c + 1) cb to ha od tmn tl cu pp li ty gv rm rs mk mv tm tt ct (by first | assumption | omega) (by first | assumption | omega) ⟨by omega, by omega⟩ ⟨by omega, by omega⟩ hg hmv hmk htn hod (gcX_c hX (fun r => (gcH_n (show hb left c ≠ 1 by omega) hleft.1 hleft.2 r).symm)) (by first | assumption | omega) 
set_option maxRecDepth 100000 in
set_option maxHeartbeats 4000000 in
theorem m_goChain2 (d : Nat) (z : Nat → Int) (zl : Nat → Int) (f : Nat → Int → Int) (fl : Nat → Int → Int) (tx : Nat)  (left : Int) (p : List Int) (till : Int) (M : Int) (K : Int) (len : Int) (pi_ : Int) (tr : Int) (va : Int → Int) (w : Int → Int) (pu : Int → Int) (prr : Int → Int) (to : Int) (ha : Int) (od : Int → Int) (tmn : Int) (tl : Int → Int) (cu : Int → Int) (pp : Int → Int) (li : Int → Int) (ty : Int → Int) (gv : Int → Int) (rm : Int) (rs : Int → Int) (mk : Int → Int) (mv : Int) (tm : Int) (tt : Int → Int) (ct : Int → Int) (hK : 1 ≤ K) (hlen : 1 ≤ len ∧ len ≤ 5) (hpi : 1 ≤ pi_ ∧ pi_ ≤ 2) (htr : 0 ≤ tr ∧ tr ≤ 1) (hw : wOK w) (hva : ∀ k : Int, 0 ≤ k → k < K → va k = w (k + 1)) (hK4 : K ≤ 4) (hcm : cuM K M pu prr) (hvt : vT K len pi_ till) (hin : inR M p ∧ p.length = 2) (hleft : 0 ≤ left ∧ left < 16) (hlm : ∀ x : Int, 0 ≤ x → x < 4 → hb left x = 1 → x < M) (hrb : rb left 0 ≤ 2) (hg : ∀ k : Int, 0 ≤ k → k < 4 → 0 ≤ gv k ∧ gv k ≤ 4) (hmv : 0 ≤ mv) (hmk : ∀ j : Int, 0 ≤ j → j < 72000 → 0 ≤ mk j ∧ mk j ≤ mv) (htn : 0 ≤ tmn ∧ tmn ≤ 200) (hod : lsI 2 od = p) (hto : to = 0 ∨ to = 1) (hha : ha = 0 ∨ ha = 1) (hmv0 : mv + 25600 < 2147483648) : Rx (d + 55) m_X12_goChain 0 (am_ent [.ref 0, .int (iz left), .int (iz 2), .long (jz till)] 6) [] (cmH (u1 (u1 (u1 (u1 (u1 (u1 (u1 (u1 (u1 (u1 (u1 z 21 K) 22 pi_) 23 len) 24 tr) 28 M) 39 rm) 40 mv) 46 tmn) 47 tm) 56 ha) 57 to) zl (uf (uf (uf (uf (uf (uf (uf (uf (uf (uf (uf f 5 va) 8 prr) 9 pu) 10 pp) 11 li) 12 ty) 16 mk) 17 gv) 20 cu) 21 ct) 22 od) (uf (uf (uf fl 15 rs) 18 tl) 19 tt) tx) (fun rv h => ∃ to' : Int, ∃ ha' : Int, ∃ od' : Int → Int, ∃ pp' : Int → Int, ∃ li' : Int → Int, ∃ ty' : Int → Int, ∃ gv' : Int → Int, ∃ rm' : Int, ∃ rs' : Int → Int, ∃ mk' : Int → Int, ∃ mv' : Int, ∃ tm' : Int, ∃ tt' : Int → Int, ∃ ct' : Int → Int, ∃ tmn' : Int, ∃ tl' : Int → Int, ∃ cu' : Int → Int, rv = none ∧ h = cmH (u1 (u1 (u1 (u1 (u1 (u1 (u1 (u1 (u1 (u1 (u1 z 21 K) 22 pi_) 23 len) 24 tr) 28 M) 39 rm') 40 mv') 46 tmn') 47 tm') 56 ha') 57 to') zl (uf (uf (uf (uf (uf (uf (uf (uf (uf (uf (uf f 5 va) 8 prr) 9 pu) 10 pp') 11 li') 12 ty') 16 mk') 17 gv') 20 cu') 21 ct') 22 od') (uf (uf (uf fl 15 rs') 18 tl') 19 tt') tx ∧ (∀ k : Int, 0 ≤ k → k < 4 → 0 ≤ gv' k ∧ gv' k ≤ 4) ∧ 0 ≤ mv' ∧ (∀ j : Int, 0 ≤ j → j < 72000 → 0 ≤ mk' j ∧ mk' j ≤ mv') ∧ (mv ≤ mv' ∧ mv' ≤ mv + 25600) ∧ (0 ≤ tmn' ∧ tmn' ≤ 200) ∧ lsI 2 od' = p ∧ gcX (gcA (fun l r => thR w K tr len pi_ prr (fun c k => pu (4 * c + k)) l (fun v => v = till) r) p left) to ha to' ha') := by
  have hM0 := hcm.1
  have hM4 := hcm.2.1
  have hrn := rb_nn left 0
  refine Rx.walk 0 (pc' := 0) (L' := [some (.ref 0), some (.int (iz left)), some (.int (iz 2)), some (.long (jz till)), none, none]) (st' := []) (h' := cmH (u1 (u1 (u1 (u1 (u1 (u1 (u1 (u1 (u1 (u1 (u1 z 21 K) 22 pi_) 23 len) 24 tr) 28 M) 39 rm) 40 mv) 46 tmn) 47 tm) 56 ha) 57 to) zl (uf (uf (uf (uf (uf (uf (uf (uf (uf (uf (uf f 5 va) 8 prr) 9 pu) 10 pp) 11 li) 12 ty) 16 mk) 17 gv) 20 cu) 21 ct) 22 od) (uf (uf (uf fl 15 rs) 18 tl) 19 tt) tx) rfl ?_
  refine Rx.walk 1 (pc' := 1) (L' := [some (.ref 0), some (.int (iz left)), some (.int (iz 2)), some (.long (jz till)), none, none]) (st' := [.int (iz left)]) (h' := cmH (u1 (u1 (u1 (u1 (u1 (u1 (u1 (u1 (u1 (u1 (u1 z 21 K) 22 pi_) 23 len) 24 tr) 28 M) 39 rm) 40 mv) 46 tmn) 47 tm) 56 ha) 57 to) zl (uf (uf (uf (uf (uf (uf (uf (uf (uf (uf (uf f 5 va) 8 prr) 9 pu) 10 pp) 11 li) 12 ty) 16 mk) 17 gv) 20 cu) 21 ct) 22 od) (uf (uf (uf fl 15 rs) 18 tl) 19 tt) tx) rfl ?_
  refine Rx.ne1 rfl rfl ⟨by omega, by omega⟩ (fun b1 => ?_) (fun b1 => ?_)
  · refine Rx.walk 2 (pc' := 63) (L' := [some (.ref 0), some (.int (iz left)), some (.int (iz 2)), some (.long (jz till)), none, some (.int (iz 0))]) (st' := []) (h' := cmH (u1 (u1 (u1 (u1 (u1 (u1 (u1 (u1 (u1 (u1 (u1 z 21 K) 22 pi_) 23 len) 24 tr) 28 M) 39 rm) 40 mv) 46 tmn) 47 tm) 56 ha) 57 to) zl (uf (uf (uf (uf (uf (uf (uf (uf (uf (uf (uf f 5 va) 8 prr) 9 pu) 10 pp) 11 li) 12 ty) 16 mk) 17 gv) 20 cu) 21 ct) 22 od) (uf (uf (uf fl 15 rs) 18 tl) 19 tt) tx) rfl ?_
    have hl0 : left ≠ 0 := by omega
    refine m_goChain2_l _ (u1 (u1 (u1 (u1 (u1 (u1 (u1 (u1 (u1 (u1 (u1 z 21 K) 22 pi_) 23 len) 24 tr) 28 M) 39 rm) 40 mv) 46 tmn) 47 tm) 56 ha) 57 to) zl (uf (uf (uf (uf (uf (uf (uf (uf (uf (uf (uf f 5 va) 8 prr) 9 pu) 10 pp) 11 li) 12 ty) 16 mk) 17 gv) 20 cu) 21 ct) 22 od) (uf (uf (uf fl 15 rs) 18 tl) 19 tt) tx  left p till M K len pi_ tr va w pu prr to ha mv (by first | assumption | omega) (by first | assumption | omega) (by first | assumption | omega) (by first | assumption | omega) (by first | assumption | omega) hva (by first | assumption | omega) hcm hvt hin (by first | assumption | omega) hlm (by first | assumption | omega) hl0 (by first | assumption | omega) _ ?_ ((4 - 0) + 1 : Int).toNat 0 0 to ha od tmn tl cu pp li ty gv rm rs mk mv tm tt ct (by first | assumption | omega) (by first | assumption | omega) ⟨by omega, by omega⟩ ⟨by omega, by omega⟩ hg hmv hmk htn hod (gcX_i hto hha (fun r ⟨x, e, x0, x1, _⟩ => by omega)) (by omega) 
    intro to_2 ha_3 od_4 pp_5 li_6 ty_7 gv_8 rm_9 rs_10 mk_11 mv_12 tm_13 tt_14 ct_15 tmn_16 tl_17 cu_18 f19 f20 f21 f22 f23 f24 f25
    show (fun (rv : Option Value) (h : AmH) => ∃ to' : Int, ∃ ha' : Int, ∃ od' : Int → Int, ∃ pp' : Int → Int, ∃ li' : Int → Int, ∃ ty' : Int → Int, ∃ gv' : Int → Int, ∃ rm' : Int, ∃ rs' : Int → Int, ∃ mk' : Int → Int, ∃ mv' : Int, ∃ tm' : Int, ∃ tt' : Int → Int, ∃ ct' : Int → Int, ∃ tmn' : Int, ∃ tl' : Int → Int, ∃ cu' : Int → Int, rv = none ∧ h = cmH (u1 (u1 (u1 (u1 (u1 (u1 (u1 (u1 (u1 (u1 (u1 z 21 K) 22 pi_) 23 len) 24 tr) 28 M) 39 rm') 40 mv') 46 tmn') 47 tm') 56 ha') 57 to') zl (uf (uf (uf (uf (uf (uf (uf (uf (uf (uf (uf f 5 va) 8 prr) 9 pu) 10 pp') 11 li') 12 ty') 16 mk') 17 gv') 20 cu') 21 ct') 22 od') (uf (uf (uf fl 15 rs') 18 tl') 19 tt') tx ∧ (∀ k : Int, 0 ≤ k → k < 4 → 0 ≤ gv' k ∧ gv' k ≤ 4) ∧ 0 ≤ mv' ∧ (∀ j : Int, 0 ≤ j → j < 72000 → 0 ≤ mk' j ∧ mk' j ≤ mv') ∧ (mv ≤ mv' ∧ mv' ≤ mv + 25600) ∧ (0 ≤ tmn' ∧ tmn' ≤ 200) ∧ lsI 2 od' = p ∧ gcX (gcA (fun l r => thR w K tr len pi_ prr (fun c k => pu (4 * c + k)) l (fun v => v = till) r) p left) to ha to' ha') (none) (cmH (u1 (u1 (u1 (u1 (u1 (u1 (u1 (u1 (u1 (u1 (u1 z 21 K) 22 pi_) 23 len) 24 tr) 28 M) 39 rm_9) 40 mv_12) 46 tmn_16) 47 tm_13) 56 ha_3) 57 to_2) zl (uf (uf (uf (uf (uf (uf (uf (uf (uf (uf (uf f 5 va) 8 prr) 9 pu) 10 pp_5) 11 li_6) 12 ty_7) 16 mk_11) 17 gv_8) 20 cu_18) 21 ct_15) 22 od_4) (uf (uf (uf fl 15 rs_10) 18 tl_17) 19 tt_14) tx)
    exact ⟨_, _, _, _, _, _, _, _, _, _, _, _, _, _, _, _, _, rfl, rfl, f19, f20, f21, f22, f23, f24, f25⟩
  · refine Rx.walk 3 (pc' := 9) (L' := [some (.ref 0), some (.int (iz left)), some (.int (iz 2)), some (.long (jz till)), none, none]) (st' := [.int (iz to), .ref 0]) (h' := cmH (u1 (u1 (u1 (u1 (u1 (u1 (u1 (u1 (u1 (u1 (u1 z 21 K) 22 pi_) 23 len) 24 tr) 28 M) 39 rm) 40 mv) 46 tmn) 47 tm) 56 ha) 57 to) zl (uf (uf (uf (uf (uf (uf (uf (uf (uf (uf (uf f 5 va) 8 prr) 9 pu) 10 pp) 11 li) 12 ty) 16 mk) 17 gv) 20 cu) 21 ct) 22 od) (uf (uf (uf fl 15 rs) 18 tl) 19 tt) tx) rfl ?_
    refine Rx.eq1 rfl rfl ⟨by omega, by omega⟩ (fun b26 => ?_) (fun b26 => ?_)
    · refine Rx.walk 5 (pc' := 34) (L' := [some (.ref 0), some (.int (iz left)), some (.int (iz 2)), some (.long (jz till)), none, none]) (st' := [.int (iz ha), .ref 0]) (h' := cmH (u1 (u1 (u1 (u1 (u1 (u1 (u1 (u1 (u1 (u1 (u1 z 21 K) 22 pi_) 23 len) 24 tr) 28 M) 39 rm) 40 mv) 46 tmn) 47 tm) 56 ha) 57 0) zl (uf (uf (uf (uf (uf (uf (uf (uf (uf (uf (uf f 5 va) 8 prr) 9 pu) 10 pp) 11 li) 12 ty) 16 mk) 17 gv) 20 cu) 21 ct) 22 od) (uf (uf (uf fl 15 rs) 18 tl) 19 tt) tx) rfl ?_
      refine Rx.ne1 rfl rfl ⟨by omega, by omega⟩ (fun b27 => ?_) (fun b27 => ?_)
      · refine Rx.walk 3 (pc' := 59) (L' := [some (.ref 0), some (.int (iz left)), some (.int (iz 2)), some (.long (jz till)), none, none]) (st' := []) (h' := cmH (u1 (u1 (u1 (u1 (u1 (u1 (u1 (u1 (u1 (u1 (u1 z 21 K) 22 pi_) 23 len) 24 tr) 28 M) 39 rm) 40 mv) 46 tmn) 47 tm) 56 1) 57 0) zl (uf (uf (uf (uf (uf (uf (uf (uf (uf (uf (uf f 5 va) 8 prr) 9 pu) 10 pp) 11 li) 12 ty) 16 mk) 17 gv) 20 cu) 21 ct) 22 od) (uf (uf (uf fl 15 rs) 18 tl) 19 tt) tx) rfl ?_
        refine Rx.ret rfl ?_
        have hl0 : left = 0 := by omega
        subst hl0
        refine ⟨_, _, _, _, _, _, _, _, _, _, _, _, _, _, _, _, _, rfl, rfl, hg, hmv, hmk, ⟨by omega, by omega⟩, htn, hod, ⟨by omega, by omega, fun q => by omega, fun q => Or.inl (by omega)⟩⟩
      · refine Rx.walk 2 (pc' := 41) (L' := [some (.ref 0), some (.int (iz left)), some (.int (iz 2)), some (.long (jz till)), none, none]) (st' := [.int (iz 0), .ref 0]) (h' := cmH (u1 (u1 (u1 (u1 (u1 (u1 (u1 (u1 (u1 (u1 (u1 z 21 K) 22 pi_) 23 len) 24 tr) 28 M) 39 rm) 40 mv) 46 tmn) 47 tm) 56 ha) 57 0) zl (uf (uf (uf (uf (uf (uf (uf (uf (uf (uf (uf f 5 va) 8 prr) 9 pu) 10 pp) 11 li) 12 ty) 16 mk) 17 gv) 20 cu) 21 ct) 22 od) (uf (uf (uf fl 15 rs) 18 tl) 19 tt) tx) rfl ?_
        refine Rx.eq1 rfl rfl ⟨by omega, by omega⟩ (fun b28 => ?_) (fun b28 => by omega)
        refine Rx.walk 2 (pc' := 59) (L' := [some (.ref 0), some (.int (iz left)), some (.int (iz 2)), some (.long (jz till)), none, none]) (st' := []) (h' := cmH (u1 (u1 (u1 (u1 (u1 (u1 (u1 (u1 (u1 (u1 (u1 z 21 K) 22 pi_) 23 len) 24 tr) 28 M) 39 rm) 40 mv) 46 tmn) 47 tm) 56 0) 57 0) zl (uf (uf (uf (uf (uf (uf (uf (uf (uf (uf (uf f 5 va) 8 prr) 9 pu) 10 pp) 11 li) 12 ty) 16 mk) 17 gv) 20 cu) 21 ct) 22 od) (uf (uf (uf fl 15 rs) 18 tl) 19 tt) tx) rfl ?_
        refine Rx.ret rfl ?_
        have hl0 : left = 0 := by omega
        subst hl0
        refine ⟨_, _, _, _, _, _, _, _, _, _, _, _, _, _, _, _, _, rfl, rfl, hg, hmv, hmk, ⟨by omega, by omega⟩, htn, hod, ⟨by omega, by omega, fun q => by omega, fun q => Or.inl (by omega)⟩⟩
    · refine Rx.walk 3 (pc' := 15) (L' := [some (.ref 0), some (.int (iz left)), some (.int (iz 2)), some (.long (jz till)), none, none]) (st' := [.int (iz 2), .long (jz till), .ref 0, .ref 0]) (h' := cmH (u1 (u1 (u1 (u1 (u1 (u1 (u1 (u1 (u1 (u1 (u1 z 21 K) 22 pi_) 23 len) 24 tr) 28 M) 39 rm) 40 mv) 46 tmn) 47 tm) 56 ha) 57 to) zl (uf (uf (uf (uf (uf (uf (uf (uf (uf (uf (uf f 5 va) 8 prr) 9 pu) 10 pp) 11 li) 12 ty) 16 mk) 17 gv) 20 cu) 21 ct) 22 od) (uf (uf (uf fl 15 rs) 18 tl) 19 tt) tx) rfl ?_
      refine Rx.callx (m' := m_X12_goOrder) (as := [.ref 0, .long (jz till), .int (iz 2)]) (rest := [.ref 0]) rfl (m_goOrder _ (u1 (u1 (u1 (u1 (u1 (u1 (u1 (u1 (u1 (u1 (u1 z 21 K) 22 pi_) 23 len) 24 tr) 28 M) 39 rm) 40 mv) 46 tmn) 47 tm) 56 ha) 57 to) zl (uf (uf (uf (uf (uf (uf (uf (uf (uf (uf (uf f 5 va) 8 prr) 9 pu) 10 pp) 11 li) 12 ty) 16 mk) 17 gv) 20 cu) 21 ct) 22 od) (uf (uf (uf fl 15 rs) 18 tl) 19 tt) tx  till 2 od M K len pi_ tr va w pu prr tmn tl cu pp li ty gv rm rs mk mv tm tt ct (by first | assumption | omega) (by first | assumption | omega) (by first | assumption | omega) (by first | assumption | omega) (by first | assumption | omega) (by first | assumption | omega) (by first | assumption | omega) (by first | assumption | omega) ⟨by omega, by omega⟩ (fun i a b => lsI_in hod hin.1 i a (by omega)) hvt hg (by first | assumption | omega) hmk (by omega)) (fun v50 h51 q52 => ?_)
      obtain ⟨r_29, pp_30, li_31, ty_32, gv_33, rm_34, rs_35, mk_36, mv_37, tm_38, tt_39, ct_40, tmn_41, tl_42, cu_43, rfl, rfl, f44, f45, f46, f47, f48, f49⟩ := q52
      refine Rx.walk 0 (pc' := 18) (L' := [some (.ref 0), some (.int (iz left)), some (.int (iz 2)), some (.long (jz till)), none, none]) (st' := [.int (iz r_29), .ref 0]) (h' := cmH (u1 (u1 (u1 (u1 (u1 (u1 (u1 (u1 (u1 (u1 (u1 z 21 K) 22 pi_) 23 len) 24 tr) 28 M) 39 rm_34) 40 mv_37) 46 tmn_41) 47 tm_38) 56 ha) 57 to) zl (uf (uf (uf (uf (uf (uf (uf (uf (uf (uf (uf f 5 va) 8 prr) 9 pu) 10 pp_30) 11 li_31) 12 ty_32) 16 mk_36) 17 gv_33) 20 cu_43) 21 ct_40) 22 od) (uf (uf (uf fl 15 rs_35) 18 tl_42) 19 tt_39) tx) rfl ?_
      refine Rx.eq1 rfl rfl ⟨by omega, by omega⟩ (fun b53 => ?_) (fun b53 => ?_)
      · refine Rx.walk 5 (pc' := 34) (L' := [some (.ref 0), some (.int (iz left)), some (.int (iz 2)), some (.long (jz till)), none, none]) (st' := [.int (iz ha), .ref 0]) (h' := cmH (u1 (u1 (u1 (u1 (u1 (u1 (u1 (u1 (u1 (u1 (u1 z 21 K) 22 pi_) 23 len) 24 tr) 28 M) 39 rm_34) 40 mv_37) 46 tmn_41) 47 tm_38) 56 ha) 57 0) zl (uf (uf (uf (uf (uf (uf (uf (uf (uf (uf (uf f 5 va) 8 prr) 9 pu) 10 pp_30) 11 li_31) 12 ty_32) 16 mk_36) 17 gv_33) 20 cu_43) 21 ct_40) 22 od) (uf (uf (uf fl 15 rs_35) 18 tl_42) 19 tt_39) tx) rfl ?_
        refine Rx.ne1 rfl rfl ⟨by omega, by omega⟩ (fun b54 => ?_) (fun b54 => ?_)
        · refine Rx.walk 3 (pc' := 59) (L' := [some (.ref 0), some (.int (iz left)), some (.int (iz 2)), some (.long (jz till)), none, none]) (st' := []) (h' := cmH (u1 (u1 (u1 (u1 (u1 (u1 (u1 (u1 (u1 (u1 (u1 z 21 K) 22 pi_) 23 len) 24 tr) 28 M) 39 rm_34) 40 mv_37) 46 tmn_41) 47 tm_38) 56 1) 57 0) zl (uf (uf (uf (uf (uf (uf (uf (uf (uf (uf (uf f 5 va) 8 prr) 9 pu) 10 pp_30) 11 li_31) 12 ty_32) 16 mk_36) 17 gv_33) 20 cu_43) 21 ct_40) 22 od) (uf (uf (uf fl 15 rs_35) 18 tl_42) 19 tt_39) tx) rfl ?_
          refine Rx.ret rfl ?_
          have hl0 : left = 0 := by omega
          subst hl0
          refine ⟨_, _, _, _, _, _, _, _, _, _, _, _, _, _, _, _, _, rfl, rfl, f44, f45, f46, ⟨by omega, by omega⟩, f48, hod, ⟨by omega, by omega, ?_, ?_⟩⟩
          · exact fun q => by omega
          · intro _
            refine Or.inr ⟨[], eL_0.mpr rfl, ?_⟩
            rw [List.append_nil, ← hod]
            rcases f49 with q | q
            · exact q.2
            · exfalso; omega
        · refine Rx.walk 2 (pc' := 41) (L' := [some (.ref 0), some (.int (iz left)), some (.int (iz 2)), some (.long (jz till)), none, none]) (st' := [.int (iz 0), .ref 0]) (h' := cmH (u1 (u1 (u1 (u1 (u1 (u1 (u1 (u1 (u1 (u1 (u1 z 21 K) 22 pi_) 23 len) 24 tr) 28 M) 39 rm_34) 40 mv_37) 46 tmn_41) 47 tm_38) 56 ha) 57 0) zl (uf (uf (uf (uf (uf (uf (uf (uf (uf (uf (uf f 5 va) 8 prr) 9 pu) 10 pp_30) 11 li_31) 12 ty_32) 16 mk_36) 17 gv_33) 20 cu_43) 21 ct_40) 22 od) (uf (uf (uf fl 15 rs_35) 18 tl_42) 19 tt_39) tx) rfl ?_
          refine Rx.eq1 rfl rfl ⟨by omega, by omega⟩ (fun b55 => ?_) (fun b55 => by omega)
          refine Rx.walk 2 (pc' := 59) (L' := [some (.ref 0), some (.int (iz left)), some (.int (iz 2)), some (.long (jz till)), none, none]) (st' := []) (h' := cmH (u1 (u1 (u1 (u1 (u1 (u1 (u1 (u1 (u1 (u1 (u1 z 21 K) 22 pi_) 23 len) 24 tr) 28 M) 39 rm_34) 40 mv_37) 46 tmn_41) 47 tm_38) 56 0) 57 0) zl (uf (uf (uf (uf (uf (uf (uf (uf (uf (uf (uf f 5 va) 8 prr) 9 pu) 10 pp_30) 11 li_31) 12 ty_32) 16 mk_36) 17 gv_33) 20 cu_43) 21 ct_40) 22 od) (uf (uf (uf fl 15 rs_35) 18 tl_42) 19 tt_39) tx) rfl ?_
          refine Rx.ret rfl ?_
          have hl0 : left = 0 := by omega
          subst hl0
          refine ⟨_, _, _, _, _, _, _, _, _, _, _, _, _, _, _, _, _, rfl, rfl, f44, f45, f46, ⟨by omega, by omega⟩, f48, hod, ⟨by omega, by omega, ?_, ?_⟩⟩
          · exact fun q => by omega
          · intro _
            refine Or.inr ⟨[], eL_0.mpr rfl, ?_⟩
            rw [List.append_nil, ← hod]
            rcases f49 with q | q
            · exact q.2
            · exfalso; omega
      · refine Rx.walk 6 (pc' := 34) (L' := [some (.ref 0), some (.int (iz left)), some (.int (iz 2)), some (.long (jz till)), none, none]) (st' := [.int (iz ha), .ref 0]) (h' := cmH (u1 (u1 (u1 (u1 (u1 (u1 (u1 (u1 (u1 (u1 (u1 z 21 K) 22 pi_) 23 len) 24 tr) 28 M) 39 rm_34) 40 mv_37) 46 tmn_41) 47 tm_38) 56 ha) 57 1) zl (uf (uf (uf (uf (uf (uf (uf (uf (uf (uf (uf f 5 va) 8 prr) 9 pu) 10 pp_30) 11 li_31) 12 ty_32) 16 mk_36) 17 gv_33) 20 cu_43) 21 ct_40) 22 od) (uf (uf (uf fl 15 rs_35) 18 tl_42) 19 tt_39) tx) rfl ?_
        refine Rx.ne1 rfl rfl ⟨by omega, by omega⟩ (fun b56 => ?_) (fun b56 => ?_)
        · refine Rx.walk 3 (pc' := 59) (L' := [some (.ref 0), some (.int (iz left)), some (.int (iz 2)), some (.long (jz till)), none, none]) (st' := []) (h' := cmH (u1 (u1 (u1 (u1 (u1 (u1 (u1 (u1 (u1 (u1 (u1 z 21 K) 22 pi_) 23 len) 24 tr) 28 M) 39 rm_34) 40 mv_37) 46 tmn_41) 47 tm_38) 56 1) 57 1) zl (uf (uf (uf (uf (uf (uf (uf (uf (uf (uf (uf f 5 va) 8 prr) 9 pu) 10 pp_30) 11 li_31) 12 ty_32) 16 mk_36) 17 gv_33) 20 cu_43) 21 ct_40) 22 od) (uf (uf (uf fl 15 rs_35) 18 tl_42) 19 tt_39) tx) rfl ?_
          refine Rx.ret rfl ?_
          have hl0 : left = 0 := by omega
          subst hl0
          obtain ⟨-, hx1, -⟩ : r_29 = 1 ∧ _ ∧ _ := by rcases f49 with q | q; (exfalso; omega); exact q
          have hx2 : (fun l r => thR w K tr len pi_ prr (fun c k => pu (4 * c + k)) l (fun v => v = till) r) p (if 0 < tmn_41 then 1 else 0) := by rw [← hod]; exact hx1
          have huq : ∀ l a b, (fun l r => thR w K tr len pi_ prr (fun c k => pu (4 * c + k)) l (fun v => v = till) r) l a → (fun l r => thR w K tr len pi_ prr (fun c k => pu (4 * c + k)) l (fun v => v = till) r) l b → a = b := fun l a b x y => thR_uq x y
          refine ⟨_, _, _, _, _, _, _, _, _, _, _, _, _, _, _, _, _, rfl, rfl, f44, f45, f46, ⟨by omega, by omega⟩, f48, hod, ⟨by omega, by omega, ?_, ?_⟩⟩
          · intro _
            refine ⟨by omega, ?_, ?_⟩
            · rintro ⟨e, e1, e2⟩
              rw [eL_0.mp e1, List.append_nil] at e2
              have := huq _ _ _ e2 hx2
              split at this <;> omega
            · constructor
              · intro _
                by_cases hq : ha = 1
                · exact Or.inl hq
                · refine Or.inr ⟨[], eL_0.mpr rfl, ?_⟩
                  rw [List.append_nil]
                  rw [if_pos (by omega)] at hx2
                  exact hx2
              · rintro (q | ⟨e, e1, e2⟩)
                · omega
                · have e3 : (fun l r => thR w K tr len pi_ prr (fun c k => pu (4 * c + k)) l (fun v => v = till) r) p 1 := by have e4 := e2; rw [eL_0.mp e1, List.append_nil] at e4; exact e4
                  have := huq _ _ _ e3 hx2
                  split at this <;> omega
          · intro q; omega
        · refine Rx.walk 2 (pc' := 41) (L' := [some (.ref 0), some (.int (iz left)), some (.int (iz 2)), some (.long (jz till)), none, none]) (st' := [.int (iz 1), .ref 0]) (h' := cmH (u1 (u1 (u1 (u1 (u1 (u1 (u1 (u1 (u1 (u1 (u1 z 21 K) 22 pi_) 23 len) 24 tr) 28 M) 39 rm_34) 40 mv_37) 46 tmn_41) 47 tm_38) 56 ha) 57 1) zl (uf (uf (uf (uf (uf (uf (uf (uf (uf (uf (uf f 5 va) 8 prr) 9 pu) 10 pp_30) 11 li_31) 12 ty_32) 16 mk_36) 17 gv_33) 20 cu_43) 21 ct_40) 22 od) (uf (uf (uf fl 15 rs_35) 18 tl_42) 19 tt_39) tx) rfl ?_
          refine Rx.eq1 rfl rfl ⟨by omega, by omega⟩ (fun b57 => by omega) (fun b57 => ?_)
          refine Rx.walk 2 (pc' := 48) (L' := [some (.ref 0), some (.int (iz left)), some (.int (iz 2)), some (.long (jz till)), none, none]) (st' := [.int (iz tmn_41), .ref 0]) (h' := cmH (u1 (u1 (u1 (u1 (u1 (u1 (u1 (u1 (u1 (u1 (u1 z 21 K) 22 pi_) 23 len) 24 tr) 28 M) 39 rm_34) 40 mv_37) 46 tmn_41) 47 tm_38) 56 ha) 57 1) zl (uf (uf (uf (uf (uf (uf (uf (uf (uf (uf (uf f 5 va) 8 prr) 9 pu) 10 pp_30) 11 li_31) 12 ty_32) 16 mk_36) 17 gv_33) 20 cu_43) 21 ct_40) 22 od) (uf (uf (uf fl 15 rs_35) 18 tl_42) 19 tt_39) tx) rfl ?_
          refine Rx.le1 rfl rfl ⟨by omega, by omega⟩ (fun b58 => ?_) (fun b58 => ?_)
          · refine Rx.walk 2 (pc' := 59) (L' := [some (.ref 0), some (.int (iz left)), some (.int (iz 2)), some (.long (jz till)), none, none]) (st' := []) (h' := cmH (u1 (u1 (u1 (u1 (u1 (u1 (u1 (u1 (u1 (u1 (u1 z 21 K) 22 pi_) 23 len) 24 tr) 28 M) 39 rm_34) 40 mv_37) 46 tmn_41) 47 tm_38) 56 0) 57 1) zl (uf (uf (uf (uf (uf (uf (uf (uf (uf (uf (uf f 5 va) 8 prr) 9 pu) 10 pp_30) 11 li_31) 12 ty_32) 16 mk_36) 17 gv_33) 20 cu_43) 21 ct_40) 22 od) (uf (uf (uf fl 15 rs_35) 18 tl_42) 19 tt_39) tx) rfl ?_
            refine Rx.ret rfl ?_
            have hl0 : left = 0 := by omega
            subst hl0
            obtain ⟨-, hx1, -⟩ : r_29 = 1 ∧ _ ∧ _ := by rcases f49 with q | q; (exfalso; omega); exact q
            have hx2 : (fun l r => thR w K tr len pi_ prr (fun c k => pu (4 * c + k)) l (fun v => v = till) r) p (if 0 < tmn_41 then 1 else 0) := by rw [← hod]; exact hx1
            have huq : ∀ l a b, (fun l r => thR w K tr len pi_ prr (fun c k => pu (4 * c + k)) l (fun v => v = till) r) l a → (fun l r => thR w K tr len pi_ prr (fun c k => pu (4 * c + k)) l (fun v => v = till) r) l b → a = b := fun l a b x y => thR_uq x y
            refine ⟨_, _, _, _, _, _, _, _, _, _, _, _, _, _, _, _, _, rfl, rfl, f44, f45, f46, ⟨by omega, by omega⟩, f48, hod, ⟨by omega, by omega, ?_, ?_⟩⟩
            · intro _
              refine ⟨by omega, ?_, ?_⟩
              · rintro ⟨e, e1, e2⟩
                rw [eL_0.mp e1, List.append_nil] at e2
                have := huq _ _ _ e2 hx2
                split at this <;> omega
              · constructor
                · intro _
                  by_cases hq : ha = 1
                  · exact Or.inl hq
                  · refine Or.inr ⟨[], eL_0.mpr rfl, ?_⟩
                    rw [List.append_nil]
                    rw [if_pos (by omega)] at hx2
                    exact hx2
                · rintro (q | ⟨e, e1, e2⟩)
                  · omega
                  · have e3 : (fun l r => thR w K tr len pi_ prr (fun c k => pu (4 * c + k)) l (fun v => v = till) r) p 1 := by have e4 := e2; rw [eL_0.mp e1, List.append_nil] at e4; exact e4
                    have := huq _ _ _ e3 hx2
                    split at this <;> omega
            · intro q; omega
          · refine Rx.walk 3 (pc' := 59) (L' := [some (.ref 0), some (.int (iz left)), some (.int (iz 2)), some (.long (jz till)), none, none]) (st' := []) (h' := cmH (u1 (u1 (u1 (u1 (u1 (u1 (u1 (u1 (u1 (u1 (u1 z 21 K) 22 pi_) 23 len) 24 tr) 28 M) 39 rm_34) 40 mv_37) 46 tmn_41) 47 tm_38) 56 1) 57 1) zl (uf (uf (uf (uf (uf (uf (uf (uf (uf (uf (uf f 5 va) 8 prr) 9 pu) 10 pp_30) 11 li_31) 12 ty_32) 16 mk_36) 17 gv_33) 20 cu_43) 21 ct_40) 22 od) (uf (uf (uf fl 15 rs_35) 18 tl_42) 19 tt_39) tx) rfl ?_
            refine Rx.ret rfl ?_
            have hl0 : left = 0 := by omega
            subst hl0
            obtain ⟨-, hx1, -⟩ : r_29 = 1 ∧ _ ∧ _ := by rcases f49 with q | q; (exfalso; omega); exact q
            have hx2 : (fun l r => thR w K tr len pi_ prr (fun c k => pu (4 * c + k)) l (fun v => v = till) r) p (if 0 < tmn_41 then 1 else 0) := by rw [← hod]; exact hx1
            have huq : ∀ l a b, (fun l r => thR w K tr len pi_ prr (fun c k => pu (4 * c + k)) l (fun v => v = till) r) l a → (fun l r => thR w K tr len pi_ prr (fun c k => pu (4 * c + k)) l (fun v => v = till) r) l b → a = b := fun l a b x y => thR_uq x y
            refine ⟨_, _, _, _, _, _, _, _, _, _, _, _, _, _, _, _, _, rfl, rfl, f44, f45, f46, ⟨by omega, by omega⟩, f48, hod, ⟨by omega, by omega, ?_, ?_⟩⟩
            · intro _
              refine ⟨by omega, ?_, ?_⟩
              · rintro ⟨e, e1, e2⟩
                rw [eL_0.mp e1, List.append_nil] at e2
                have := huq _ _ _ e2 hx2
                split at this <;> omega
              · constructor
                · intro _
                  by_cases hq : ha = 1
                  · exact Or.inl hq
                  · refine Or.inr ⟨[], eL_0.mpr rfl, ?_⟩
                    rw [List.append_nil]
                    rw [if_pos (by omega)] at hx2
                    exact hx2
                · rintro (q | ⟨e, e1, e2⟩)
                  · omega
                  · have e3 : (fun l r => thR w K tr len pi_ prr (fun c k => pu (4 * c + k)) l (fun v => v = till) r) p 1 := by have e4 := e2; rw [eL_0.mp e1, List.append_nil] at e4; exact e4
                    have := huq _ _ _ e3 hx2
                    split at this <;> omega
            · intro q; omega
set_option maxRecDepth 100000 in
set_option maxHeartbeats 4000000 in
theorem m_goChain1_l (d : Nat) (z : Nat → Int) (zl : Nat → Int) (f : Nat → Int → Int) (fl : Nat → Int → Int) (tx : Nat)  (left : Int) (p : List Int) (till : Int) (M : Int) (K : Int) (len : Int) (pi_ : Int) (tr : Int) (va : Int → Int) (w : Int → Int) (pu : Int → Int) (prr : Int → Int) (to0 : Int) (ha0 : Int) (mv0 : Int) (hK : 1 ≤ K) (hlen : 1 ≤ len ∧ len ≤ 5) (hpi : 1 ≤ pi_ ∧ pi_ ≤ 2) (htr : 0 ≤ tr ∧ tr ≤ 1) (hw : wOK w) (hva : ∀ k : Int, 0 ≤ k → k < K → va k = w (k + 1)) (hK4 : K ≤ 4) (hcm : cuM K M pu prr) (hvt : vT K len pi_ till) (hin : inR M p ∧ p.length = 1) (hleft : 0 ≤ left ∧ left < 16) (hlm : ∀ x : Int, 0 ≤ x → x < 4 → hb left x = 1 → x < M) (hrb : rb left 0 ≤ 3) (hl0 : left ≠ 0) (hmv0 : mv0 + 76800 < 2147483648) (P : Option Value → AmH → Prop) (hx0 : ∀ (to' : Int) (ha' : Int) (od' : Int → Int) (pp' : Int → Int) (li' : Int → Int) (ty' : Int → Int) (gv' : Int → Int) (rm' : Int) (rs' : Int → Int) (mk' : Int → Int) (mv' : Int) (tm' : Int) (tt' : Int → Int) (ct' : Int → Int) (tmn' : Int) (tl' : Int → Int) (cu' : Int → Int), (∀ k : Int, 0 ≤ k → k < 4 → 0 ≤ gv' k ∧ gv' k ≤ 4) → (0 ≤ mv') → (∀ j : Int, 0 ≤ j → j < 72000 → 0 ≤ mk' j ∧ mk' j ≤ mv') → (mv0 ≤ mv' ∧ mv' ≤ mv0 + 76800) → (0 ≤ tmn' ∧ tmn' ≤ 200) → (lsI 1 od' = p) → (gcX (gcA (fun l r => thR w K tr len pi_ prr (fun c k => pu (4 * c + k)) l (fun v => v = till) r) p left) to0 ha0 to' ha') → P (none) (cmH (u1 (u1 (u1 (u1 (u1 (u1 (u1 (u1 (u1 (u1 (u1 z 21 K) 22 pi_) 23 len) 24 tr) 28 M) 39 rm') 40 mv') 46 tmn') 47 tm') 56 ha') 57 to') zl (uf (uf (uf (uf (uf (uf (uf (uf (uf (uf (uf f 5 va) 8 prr) 9 pu) 10 pp') 11 li') 12 ty') 16 mk') 17 gv') 20 cu') 21 ct') 22 od') (uf (uf (uf fl 15 rs') 18 tl') 19 tt') tx)) : ∀ (kF : Nat) (c : Int) (cb : Int) (to : Int) (ha : Int) (od : Int → Int) (tmn : Int) (tl : Int → Int) (cu : Int → Int) (pp : Int → Int) (li : Int → Int) (ty : Int → Int) (gv : Int → Int) (rm : Int) (rs : Int → Int) (mk : Int → Int) (mv : Int) (tm : Int) (tt : Int → Int) (ct : Int → Int), (0 ≤ c) → (c ≤ M) → (0 ≤ cb ∧ cb + rb left c ≤ 3) → (mv0 ≤ mv ∧ mv ≤ mv0 + 25600 * cb) → (∀ k : Int, 0 ≤ k → k < 4 → 0 ≤ gv k ∧ gv k ≤ 4) → (0 ≤ mv) → (∀ j : Int, 0 ≤ j → j < 72000 → 0 ≤ mk j ∧ mk j ≤ mv) → (0 ≤ tmn ∧ tmn ≤ 200) → (lsI 1 od = p) → (gcX (gcH (fun l r => thR w K tr len pi_ prr (fun c k => pu (4 * c + k)) l (fun v => v = till) r) p left c) to0 ha0 to ha) → (4 - c) < (kF : Int) → Rx (d + 56) m_X12_goChain 63 [some (.ref 0), some (.int (iz left)), some (.int (iz 1)), some (.long (jz till)), none, some (.int (iz c))] [] (cmH (u1 (u1 (u1 (u1 (u1 (u1 (u1 (u1 (u1 (u1 (u1 z 21 K) 22 pi_) 23 len) 24 tr) 28 M) 39 rm) 40 mv) 46 tmn) 47 tm) 56 ha) 57 to) zl (uf (uf (uf (uf (uf (uf (uf (uf (uf (uf (uf f 5 va) 8 prr) 9 pu) 10 pp) 11 li) 12 ty) 16 mk) 17 gv) 20 cu) 21 ct) 22 od) (uf (uf (uf fl 15 rs) 18 tl) 19 tt) tx) P := by
  have hM0 := hcm.1
  have hM4 := hcm.2.1
  have hrn := rb_nn left 0
  intro kF
  induction kF with
  | zero =>
    intro c cb to ha od tmn tl cu pp li ty gv rm rs mk mv tm tt ct c0 c1 hcb hmq hg hmv hmk htn hod hX hk
    exfalso; omega
  | succ kF ih =>
    intro c cb to ha od tmn tl cu pp li ty gv rm rs mk mv tm tt ct c0 c1 hcb hmq hg hmv hmk htn hod hX hk
    have hX1 := hX.1
    have hX2 := hX.2.1
    have hrc := rb_nn left c
    have hrc1 := rb_nn left (c + 1)
    have hrs := fun q => rb_s (left := left) c0 (show c < 4 from q)
    have hbb := hb_b left c
    refine Rx.walk 3 (pc' := 69) (L' := [some (.ref 0), some (.int (iz left)), some (.int (iz 1)), some (.long (jz till)), none, some (.int (iz c))]) (st' := [.int (iz M), .int (iz c)]) (h' := cmH (u1 (u1 (u1 (u1 (u1 (u1 (u1 (u1 (u1 (u1 (u1 z 21 K) 22 pi_) 23 len) 24 tr) 28 M) 39 rm) 40 mv) 46 tmn) 47 tm) 56 ha) 57 to) zl (uf (uf (uf (uf (uf (uf (uf (uf (uf (uf (uf f 5 va) 8 prr) 9 pu) 10 pp) 11 li) 12 ty) 16 mk) 17 gv) 20 cu) 21 ct) 22 od) (uf (uf (uf fl 15 rs) 18 tl) 19 tt) tx) rfl ?_
    refine Rx.ge2 rfl rfl ⟨by omega, by omega⟩ ⟨by omega, by omega⟩ (fun b1 => ?_) (fun b1 => ?_)
    · refine Rx.ret rfl ?_
      exact hx0 _ _ _ _ _ _ _ _ _ _ _ _ _ _ _ _ _ hg hmv hmk ⟨by omega, by omega⟩ htn hod (gcX_c hX (fun r => (gcH_e hl0 hleft.1 hleft.2 (fun x a b q => by have := hlm x a b q; omega) r).symm))
    · refine Rx.walk 2 (pc' := 76) (L' := [some (.ref 0), some (.int (iz left)), some (.int (iz 1)), some (.long (jz till)), none, some (.int (iz c))]) (st' := [.int (iz to)]) (h' := cmH (u1 (u1 (u1 (u1 (u1 (u1 (u1 (u1 (u1 (u1 (u1 z 21 K) 22 pi_) 23 len) 24 tr) 28 M) 39 rm) 40 mv) 46 tmn) 47 tm) 56 ha) 57 to) zl (uf (uf (uf (uf (uf (uf (uf (uf (uf (uf (uf f 5 va) 8 prr) 9 pu) 10 pp) 11 li) 12 ty) 16 mk) 17 gv) 20 cu) 21 ct) 22 od) (uf (uf (uf fl 15 rs) 18 tl) 19 tt) tx) rfl ?_
      refine Rx.eq1 rfl rfl ⟨by omega, by omega⟩ (fun b2 => ?_) (fun b2 => ?_)
      · refine Rx.ret rfl ?_
        exact hx0 _ _ _ _ _ _ _ _ _ _ _ _ _ _ _ _ _ hg hmv hmk ⟨by omega, by omega⟩ htn hod (gcX_u hX (by omega) (fun r ⟨x, e, x0, x1, x2, x3⟩ => ⟨x :: e, x2, x3⟩))
      · refine Rx.walk 2 (pc' := 82) (L' := [some (.ref 0), some (.int (iz left)), some (.int (iz 1)), some (.long (jz till)), none, some (.int (iz c))]) (st' := [.int (iz c), .int (iz left)]) (h' := cmH (u1 (u1 (u1 (u1 (u1 (u1 (u1 (u1 (u1 (u1 (u1 z 21 K) 22 pi_) 23 len) 24 tr) 28 M) 39 rm) 40 mv) 46 tmn) 47 tm) 56 ha) 57 to) zl (uf (uf (uf (uf (uf (uf (uf (uf (uf (uf (uf f 5 va) 8 prr) 9 pu) 10 pp) 11 li) 12 ty) 16 mk) 17 gv) 20 cu) 21 ct) 22 od) (uf (uf (uf fl 15 rs) 18 tl) 19 tt) tx) rfl ?_
        refine Rx.callx (m' := m_X12_has) (as := [.int (iz left), .int (iz c)]) (rest := []) rfl (n_has _ (cmH (u1 (u1 (u1 (u1 (u1 (u1 (u1 (u1 (u1 (u1 (u1 z 21 K) 22 pi_) 23 len) 24 tr) 28 M) 39 rm) 40 mv) 46 tmn) 47 tm) 56 ha) 57 to) zl (uf (uf (uf (uf (uf (uf (uf (uf (uf (uf (uf f 5 va) 8 prr) 9 pu) 10 pp) 11 li) 12 ty) 16 mk) 17 gv) 20 cu) 21 ct) 22 od) (uf (uf (uf fl 15 rs) 18 tl) 19 tt) tx)  left c (by first | assumption | omega) (by first | assumption | omega) (by first | assumption | omega) (by first | assumption | omega)) (fun v5 h6 q7 => ?_)
        obtain ⟨r_3, rfl, rfl, f4⟩ := q7
        refine Rx.walk 0 (pc' := 85) (L' := [some (.ref 0), some (.int (iz left)), some (.int (iz 1)), some (.long (jz till)), none, some (.int (iz c))]) (st' := [.int (iz r_3)]) (h' := cmH (u1 (u1 (u1 (u1 (u1 (u1 (u1 (u1 (u1 (u1 (u1 z 21 K) 22 pi_) 23 len) 24 tr) 28 M) 39 rm) 40 mv) 46 tmn) 47 tm) 56 ha) 57 to) zl (uf (uf (uf (uf (uf (uf (uf (uf (uf (uf (uf f 5 va) 8 prr) 9 pu) 10 pp) 11 li) 12 ty) 16 mk) 17 gv) 20 cu) 21 ct) 22 od) (uf (uf (uf fl 15 rs) 18 tl) 19 tt) tx) rfl ?_
        refine Rx.ne1 rfl rfl ⟨by omega, by omega⟩ (fun b8 => ?_) (fun b8 => ?_)
        · refine Rx.walk 4 (pc' := 98) (L' := [some (.ref 0), some (.int (iz left)), some (.int (iz 1)), some (.long (jz till)), none, some (.int (iz c))]) (st' := [.int (iz c), .int (iz 1), .ref 22]) (h' := cmH (u1 (u1 (u1 (u1 (u1 (u1 (u1 (u1 (u1 (u1 (u1 z 21 K) 22 pi_) 23 len) 24 tr) 28 M) 39 rm) 40 mv) 46 tmn) 47 tm) 56 ha) 57 to) zl (uf (uf (uf (uf (uf (uf (uf (uf (uf (uf (uf f 5 va) 8 prr) 9 pu) 10 pp) 11 li) 12 ty) 16 mk) 17 gv) 20 cu) 21 ct) 22 od) (uf (uf (uf fl 15 rs) 18 tl) 19 tt) tx) rfl ?_
          refine Rx.ias (g := od) (h' := cmH (u1 (u1 (u1 (u1 (u1 (u1 (u1 (u1 (u1 (u1 (u1 z 21 K) 22 pi_) 23 len) 24 tr) 28 M) 39 rm) 40 mv) 46 tmn) 47 tm) 56 ha) 57 to) zl (uf (uf (uf (uf (uf (uf (uf (uf (uf (uf (uf f 5 va) 8 prr) 9 pu) 10 pp) 11 li) 12 ty) 16 mk) 17 gv) 20 cu) 21 ct) 22 (iu od 1 c)) (uf (uf (uf fl 15 rs) 18 tl) 19 tt) tx) rfl rfl (by omega) (by omega) (by omega) rfl ?_
          refine Rx.walk 4 (pc' := 104) (L' := [some (.ref 0), some (.int (iz left)), some (.int (iz 1)), some (.long (jz till)), none, some (.int (iz c))]) (st' := [.int (iz c), .int (iz 1), .int (iz left), .ref 0]) (h' := cmH (u1 (u1 (u1 (u1 (u1 (u1 (u1 (u1 (u1 (u1 (u1 z 21 K) 22 pi_) 23 len) 24 tr) 28 M) 39 rm) 40 mv) 46 tmn) 47 tm) 56 ha) 57 to) zl (uf (uf (uf (uf (uf (uf (uf (uf (uf (uf (uf f 5 va) 8 prr) 9 pu) 10 pp) 11 li) 12 ty) 16 mk) 17 gv) 20 cu) 21 ct) 22 (iu od 1 c)) (uf (uf (uf fl 15 rs) 18 tl) 19 tt) tx) rfl ?_
          refine Rx.ishl (c := (p2 c)) rfl (p2_shl (by omega) (by omega)) ?_
          refine Rx.walk 1 (pc' := 106) (L' := [some (.ref 0), some (.int (iz left)), some (.int (iz 1)), some (.long (jz till)), none, some (.int (iz c))]) (st' := [.int (iz (-1)), .int (iz (p2 c)), .int (iz left), .ref 0]) (h' := cmH (u1 (u1 (u1 (u1 (u1 (u1 (u1 (u1 (u1 (u1 (u1 z 21 K) 22 pi_) 23 len) 24 tr) 28 M) 39 rm) 40 mv) 46 tmn) 47 tm) 56 ha) 57 to) zl (uf (uf (uf (uf (uf (uf (uf (uf (uf (uf (uf f 5 va) 8 prr) 9 pu) 10 pp) 11 li) 12 ty) 16 mk) 17 gv) 20 cu) 21 ct) 22 (iu od 1 c)) (uf (uf (uf fl 15 rs) 18 tl) 19 tt) tx) rfl ?_
          refine Rx.ixor (c := (-1 - p2 c)) rfl (p2_xor c0 (by omega)) ?_
          refine Rx.iand (c := (left - p2 c)) rfl (and_not' hleft.1 hleft.2 c0 (by omega) (by omega)) ?_
          refine Rx.walk 2 (pc' := 110) (L' := [some (.ref 0), some (.int (iz left)), some (.int (iz 1)), some (.long (jz till)), none, some (.int (iz c))]) (st' := [.int (iz 1), .int (iz 1), .int (iz (left - p2 c)), .ref 0]) (h' := cmH (u1 (u1 (u1 (u1 (u1 (u1 (u1 (u1 (u1 (u1 (u1 z 21 K) 22 pi_) 23 len) 24 tr) 28 M) 39 rm) 40 mv) 46 tmn) 47 tm) 56 ha) 57 to) zl (uf (uf (uf (uf (uf (uf (uf (uf (uf (uf (uf f 5 va) 8 prr) 9 pu) 10 pp) 11 li) 12 ty) 16 mk) 17 gv) 20 cu) 21 ct) 22 (iu od 1 c)) (uf (uf (uf fl 15 rs) 18 tl) 19 tt) tx) rfl ?_
          refine Rx.iadd rfl ?_
          refine Rx.walk 0 (pc' := 111) (L' := [some (.ref 0), some (.int (iz left)), some (.int (iz 1)), some (.long (jz till)), none, some (.int (iz c))]) (st' := [.int (iz 2), .int (iz (left - p2 c)), .ref 0]) (h' := cmH (u1 (u1 (u1 (u1 (u1 (u1 (u1 (u1 (u1 (u1 (u1 z 21 K) 22 pi_) 23 len) 24 tr) 28 M) 39 rm) 40 mv) 46 tmn) 47 tm) 56 ha) 57 to) zl (uf (uf (uf (uf (uf (uf (uf (uf (uf (uf (uf f 5 va) 8 prr) 9 pu) 10 pp) 11 li) 12 ty) 16 mk) 17 gv) 20 cu) 21 ct) 22 (iu od 1 c)) (uf (uf (uf fl 15 rs) 18 tl) 19 tt) tx) rfl ?_
          refine Rx.walk 1 (pc' := 112) (L' := [some (.ref 0), some (.int (iz left)), some (.int (iz 1)), some (.long (jz till)), none, some (.int (iz c))]) (st' := [.long (jz till), .int (iz 2), .int (iz (left - p2 c)), .ref 0]) (h' := cmH (u1 (u1 (u1 (u1 (u1 (u1 (u1 (u1 (u1 (u1 (u1 z 21 K) 22 pi_) 23 len) 24 tr) 28 M) 39 rm) 40 mv) 46 tmn) 47 tm) 56 ha) 57 to) zl (uf (uf (uf (uf (uf (uf (uf (uf (uf (uf (uf f 5 va) 8 prr) 9 pu) 10 pp) 11 li) 12 ty) 16 mk) 17 gv) 20 cu) 21 ct) 22 (iu od 1 c)) (uf (uf (uf fl 15 rs) 18 tl) 19 tt) tx) rfl ?_
          have hbc : hb left c = 1 := by omega
          obtain ⟨hp1, hp2⟩ := rb_p hleft.1 hleft.2 c0 (show c < 4 by omega) hbc
          refine Rx.callx (m' := m_X12_goChain) (as := [.ref 0, .int (iz (left - p2 c)), .int (iz 2), .long (jz till)]) (rest := []) rfl (m_goChain2 _ (u1 (u1 (u1 (u1 (u1 (u1 (u1 (u1 (u1 (u1 (u1 z 21 K) 22 pi_) 23 len) 24 tr) 28 M) 39 rm) 40 mv) 46 tmn) 47 tm) 56 ha) 57 to) zl (uf (uf (uf (uf (uf (uf (uf (uf (uf (uf (uf f 5 va) 8 prr) 9 pu) 10 pp) 11 li) 12 ty) 16 mk) 17 gv) 20 cu) 21 ct) 22 (iu od 1 c)) (uf (uf (uf fl 15 rs) 18 tl) 19 tt) tx  (left - p2 c) (p ++ [c]) till M K len pi_ tr va w pu prr to ha (iu od 1 c) tmn tl cu pp li ty gv rm rs mk mv tm tt ct (by first | assumption | omega) (by first | assumption | omega) (by first | assumption | omega) (by first | assumption | omega) (by first | assumption | omega) (by first | assumption | omega) (by first | assumption | omega) (by first | assumption | omega) (by first | assumption | omega) ⟨inR_app.mpr ⟨hin.1, fun x hx => by rw [List.mem_singleton] at hx; omega⟩, by rw [List.length_append, hin.2]; rfl⟩ hp2 (fun x a b q => hlm x a b ((hb_p hleft.1 hleft.2 c0 (by omega) a b hbc).mp q).1) (by omega) hg hmv hmk htn (lsI_push hod) hX1 hX2 (by omega)) (fun v33 h34 q35 => ?_)
          obtain ⟨to_9, ha_10, od_11, pp_12, li_13, ty_14, gv_15, rm_16, rs_17, mk_18, mv_19, tm_20, tt_21, ct_22, tmn_23, tl_24, cu_25, rfl, rfl, f26, f27, f28, f29, f30, f31, f32⟩ := q35
          refine Rx.walk 0 (pc' := 115) (L' := [some (.ref 0), some (.int (iz left)), some (.int (iz 1)), some (.long (jz till)), none, some (.int (iz c))]) (st' := []) (h' := cmH (u1 (u1 (u1 (u1 (u1 (u1 (u1 (u1 (u1 (u1 (u1 z 21 K) 22 pi_) 23 len) 24 tr) 28 M) 39 rm_16) 40 mv_19) 46 tmn_23) 47 tm_20) 56 ha_10) 57 to_9) zl (uf (uf (uf (uf (uf (uf (uf (uf (uf (uf (uf f 5 va) 8 prr) 9 pu) 10 pp_12) 11 li_13) 12 ty_14) 16 mk_18) 17 gv_15) 20 cu_25) 21 ct_22) 22 od_11) (uf (uf (uf fl 15 rs_17) 18 tl_24) 19 tt_21) tx) rfl ?_
          refine Rx.iinc (b := 1) rfl rfl rfl ?_
          refine Rx.walk 0 (pc' := 118) (L' := [some (.ref 0), some (.int (iz left)), some (.int (iz 1)), some (.long (jz till)), none, some (.int (iz (c + 1)))]) (st' := []) (h' := cmH (u1 (u1 (u1 (u1 (u1 (u1 (u1 (u1 (u1 (u1 (u1 z 21 K) 22 pi_) 23 len) 24 tr) 28 M) 39 rm_16) 40 mv_19) 46 tmn_23) 47 tm_20) 56 ha_10) 57 to_9) zl (uf (uf (uf (uf (uf (uf (uf (uf (uf (uf (uf f 5 va) 8 prr) 9 pu) 10 pp_12) 11 li_13) 12 ty_14) 16 mk_18) 17 gv_15) 20 cu_25) 21 ct_22) 22 od_11) (uf (uf (uf fl 15 rs_17) 18 tl_24) 19 tt_21) tx) rfl ?_
          refine Rx.walk 1 (pc' := 63) (L' := [some (.ref 0), some (.int (iz left)), some (.int (iz 1)), some (.long (jz till)), none, some (.int (iz (c + 1)))]) (st' := []) (h' := cmH (u1 (u1 (u1 (u1 (u1 (u1 (u1 (u1 (u1 (u1 (u1 z 21 K) 22 pi_) 23 len) 24 tr) 28 M) 39 rm_16) 40 mv_19) 46 tmn_23) 47 tm_20) 56 ha_10) 57 to_9) zl (uf (uf (uf (uf (uf (uf (uf (uf (uf (uf (uf f 5 va) 8 prr) 9 pu) 10 pp_12) 11 li_13) 12 ty_14) 16 mk_18) 17 gv_15) 20 cu_25) 21 ct_22) 22 od_11) (uf (uf (uf fl 15 rs_17) 18 tl_24) 19 tt_21) tx) rfl ?_
          have hrs1 := hrs (by omega)
          exact ih (c + 1) (cb + 1) to_9 ha_10 od_11 tmn_23 tl_24 cu_25 pp_12 li_13 ty_14 gv_15 rm_16 rs_17 mk_18 mv_19 tm_20 tt_21 ct_22 (by first | assumption | omega) (by first | assumption | omega) ⟨by omega, by omega⟩ ⟨by omega, by omega⟩ f26 f27 f28 f30 (lsI_pre f31) (gcX_tr hX f32 (fun r => gcH_s hbc hleft.1 hleft.2 c0 (by omega) r)) (by first | assumption | omega) 
        · refine Rx.walk 1 (pc' := 115) (L' := [some (.ref 0), some (.int (iz left)), some (.int (iz 1)), some (.long (jz till)), none, some (.int (iz c))]) (st' := []) (h' := cmH (u1 (u1 (u1 (u1 (u1 (u1 (u1 (u1 (u1 (u1 (u1 z 21 K) 22 pi_) 23 len) 24 tr) 28 M) 39 rm) 40 mv) 46 tmn) 47 tm) 56 ha) 57 to) zl (uf (uf (uf (uf (uf (uf (uf (uf (uf (uf (uf f 5 va) 8 prr) 9 pu) 10 pp) 11 li) 12 ty) 16 mk) 17 gv) 20 cu) 21 ct) 22 od) (uf (uf (uf fl 15 rs) 18 tl) 19 tt) tx) rfl ?_
          refine Rx.iinc (b := 1) rfl rfl rfl ?_
          refine Rx.walk 0 (pc' := 118) (L' := [some (.ref 0), some (.int (iz left)), some (.int (iz 1)), some (.long (jz till)), none, some (.int (iz (c + 1)))]) (st' := []) (h' := cmH (u1 (u1 (u1 (u1 (u1 (u1 (u1 (u1 (u1 (u1 (u1 z 21 K) 22 pi_) 23 len) 24 tr) 28 M) 39 rm) 40 mv) 46 tmn) 47 tm) 56 ha) 57 to) zl (uf (uf (uf (uf (uf (uf (uf (uf (uf (uf (uf f 5 va) 8 prr) 9 pu) 10 pp) 11 li) 12 ty) 16 mk) 17 gv) 20 cu) 21 ct) 22 od) (uf (uf (uf fl 15 rs) 18 tl) 19 tt) tx) rfl ?_
          refine Rx.walk 1 (pc' := 63) (L' := [some (.ref 0), some (.int (iz left)), some (.int (iz 1)), some (.long (jz till)), none, some (.int (iz (c + 1)))]) (st' := []) (h' := cmH (u1 (u1 (u1 (u1 (u1 (u1 (u1 (u1 (u1 (u1 (u1 z 21 K) 22 pi_) 23 len) 24 tr) 28 M) 39 rm) 40 mv) 46 tmn) 47 tm) 56 ha) 57 to) zl (uf (uf (uf (uf (uf (uf (uf (uf (uf (uf (uf f 5 va) 8 prr) 9 pu) 10 pp) 11 li) 12 ty) 16 mk) 17 gv) 20 cu) 21 ct) 22 od) (uf (uf (uf fl 15 rs) 18 tl) 19 tt) tx) rfl ?_
          have hrs1 := hrs (by omega)
          exact ih (c + 1) cb to ha od tmn tl cu pp li ty gv rm rs mk mv tm tt ct (by first | assumption | omega) (by first | assumption | omega) ⟨by omega, by omega⟩ ⟨by omega, by omega⟩ hg hmv hmk htn hod (gcX_c hX (fun r => (gcH_n (show hb left c ≠ 1 by omega) hleft.1 hleft.2 r).symm)) (by first | assumption | omega) 
set_option maxRecDepth 100000 in
set_option maxHeartbeats 4000000 in
theorem m_goChain1 (d : Nat) (z : Nat → Int) (zl : Nat → Int) (f : Nat → Int → Int) (fl : Nat → Int → Int) (tx : Nat)  (left : Int) (p : List Int) (till : Int) (M : Int) (K : Int) (len : Int) (pi_ : Int) (tr : Int) (va : Int → Int) (w : Int → Int) (pu : Int → Int) (prr : Int → Int) (to : Int) (ha : Int) (od : Int → Int) (tmn : Int) (tl : Int → Int) (cu : Int → Int) (pp : Int → Int) (li : Int → Int) (ty : Int → Int) (gv : Int → Int) (rm : Int) (rs : Int → Int) (mk : Int → Int) (mv : Int) (tm : Int) (tt : Int → Int) (ct : Int → Int) (hK : 1 ≤ K) (hlen : 1 ≤ len ∧ len ≤ 5) (hpi : 1 ≤ pi_ ∧ pi_ ≤ 2) (htr : 0 ≤ tr ∧ tr ≤ 1) (hw : wOK w) (hva : ∀ k : Int, 0 ≤ k → k < K → va k = w (k + 1)) (hK4 : K ≤ 4) (hcm : cuM K M pu prr) (hvt : vT K len pi_ till) (hin : inR M p ∧ p.length = 1) (hleft : 0 ≤ left ∧ left < 16) (hlm : ∀ x : Int, 0 ≤ x → x < 4 → hb left x = 1 → x < M) (hrb : rb left 0 ≤ 3) (hg : ∀ k : Int, 0 ≤ k → k < 4 → 0 ≤ gv k ∧ gv k ≤ 4) (hmv : 0 ≤ mv) (hmk : ∀ j : Int, 0 ≤ j → j < 72000 → 0 ≤ mk j ∧ mk j ≤ mv) (htn : 0 ≤ tmn ∧ tmn ≤ 200) (hod : lsI 1 od = p) (hto : to = 0 ∨ to = 1) (hha : ha = 0 ∨ ha = 1) (hmv0 : mv + 76800 < 2147483648) : Rx (d + 56) m_X12_goChain 0 (am_ent [.ref 0, .int (iz left), .int (iz 1), .long (jz till)] 6) [] (cmH (u1 (u1 (u1 (u1 (u1 (u1 (u1 (u1 (u1 (u1 (u1 z 21 K) 22 pi_) 23 len) 24 tr) 28 M) 39 rm) 40 mv) 46 tmn) 47 tm) 56 ha) 57 to) zl (uf (uf (uf (uf (uf (uf (uf (uf (uf (uf (uf f 5 va) 8 prr) 9 pu) 10 pp) 11 li) 12 ty) 16 mk) 17 gv) 20 cu) 21 ct) 22 od) (uf (uf (uf fl 15 rs) 18 tl) 19 tt) tx) (fun rv h => ∃ to' : Int, ∃ ha' : Int, ∃ od' : Int → Int, ∃ pp' : Int → Int, ∃ li' : Int → Int, ∃ ty' : Int → Int, ∃ gv' : Int → Int, ∃ rm' : Int, ∃ rs' : Int → Int, ∃ mk' : Int → Int, ∃ mv' : Int, ∃ tm' : Int, ∃ tt' : Int → Int, ∃ ct' : Int → Int, ∃ tmn' : Int, ∃ tl' : Int → Int, ∃ cu' : Int → Int, rv = none ∧ h = cmH (u1 (u1 (u1 (u1 (u1 (u1 (u1 (u1 (u1 (u1 (u1 z 21 K) 22 pi_) 23 len) 24 tr) 28 M) 39 rm') 40 mv') 46 tmn') 47 tm') 56 ha') 57 to') zl (uf (uf (uf (uf (uf (uf (uf (uf (uf (uf (uf f 5 va) 8 prr) 9 pu) 10 pp') 11 li') 12 ty') 16 mk') 17 gv') 20 cu') 21 ct') 22 od') (uf (uf (uf fl 15 rs') 18 tl') 19 tt') tx ∧ (∀ k : Int, 0 ≤ k → k < 4 → 0 ≤ gv' k ∧ gv' k ≤ 4) ∧ 0 ≤ mv' ∧ (∀ j : Int, 0 ≤ j → j < 72000 → 0 ≤ mk' j ∧ mk' j ≤ mv') ∧ (mv ≤ mv' ∧ mv' ≤ mv + 76800) ∧ (0 ≤ tmn' ∧ tmn' ≤ 200) ∧ lsI 1 od' = p ∧ gcX (gcA (fun l r => thR w K tr len pi_ prr (fun c k => pu (4 * c + k)) l (fun v => v = till) r) p left) to ha to' ha') := by
  have hM0 := hcm.1
  have hM4 := hcm.2.1
  have hrn := rb_nn left 0
  refine Rx.walk 0 (pc' := 0) (L' := [some (.ref 0), some (.int (iz left)), some (.int (iz 1)), some (.long (jz till)), none, none]) (st' := []) (h' := cmH (u1 (u1 (u1 (u1 (u1 (u1 (u1 (u1 (u1 (u1 (u1 z 21 K) 22 pi_) 23 len) 24 tr) 28 M) 39 rm) 40 mv) 46 tmn) 47 tm) 56 ha) 57 to) zl (uf (uf (uf (uf (uf (uf (uf (uf (uf (uf (uf f 5 va) 8 prr) 9 pu) 10 pp) 11 li) 12 ty) 16 mk) 17 gv) 20 cu) 21 ct) 22 od) (uf (uf (uf fl 15 rs) 18 tl) 19 tt) tx) rfl ?_
  refine Rx.walk 1 (pc' := 1) (L' := [some (.ref 0), some (.int (iz left)), some (.int (iz 1)), some (.long (jz till)), none, none]) (st' := [.int (iz left)]) (h' := cmH (u1 (u1 (u1 (u1 (u1 (u1 (u1 (u1 (u1 (u1 (u1 z 21 K) 22 pi_) 23 len) 24 tr) 28 M) 39 rm) 40 mv) 46 tmn) 47 tm) 56 ha) 57 to) zl (uf (uf (uf (uf (uf (uf (uf (uf (uf (uf (uf f 5 va) 8 prr) 9 pu) 10 pp) 11 li) 12 ty) 16 mk) 17 gv) 20 cu) 21 ct) 22 od) (uf (uf (uf fl 15 rs) 18 tl) 19 tt) tx) rfl ?_
  refine Rx.ne1 rfl rfl ⟨by omega, by omega⟩ (fun b1 => ?_) (fun b1 => ?_)
  · refine Rx.walk 2 (pc' := 63) (L' := [some (.ref 0), some (.int (iz left)), some (.int (iz 1)), some (.long (jz till)), none, some (.int (iz 0))]) (st' := []) (h' := cmH (u1 (u1 (u1 (u1 (u1 (u1 (u1 (u1 (u1 (u1 (u1 z 21 K) 22 pi_) 23 len) 24 tr) 28 M) 39 rm) 40 mv) 46 tmn) 47 tm) 56 ha) 57 to) zl (uf (uf (uf (uf (uf (uf (uf (uf (uf (uf (uf f 5 va) 8 prr) 9 pu) 10 pp) 11 li) 12 ty) 16 mk) 17 gv) 20 cu) 21 ct) 22 od) (uf (uf (uf fl 15 rs) 18 tl) 19 tt) tx) rfl ?_
    have hl0 : left ≠ 0 := by omega
    refine m_goChain1_l _ (u1 (u1 (u1 (u1 (u1 (u1 (u1 (u1 (u1 (u1 (u1 z 21 K) 22 pi_) 23 len) 24 tr) 28 M) 39 rm) 40 mv) 46 tmn) 47 tm) 56 ha) 57 to) zl (uf (uf (uf (uf (uf (uf (uf (uf (uf (uf (uf f 5 va) 8 prr) 9 pu) 10 pp) 11 li) 12 ty) 16 mk) 17 gv) 20 cu) 21 ct) 22 od) (uf (uf (uf fl 15 rs) 18 tl) 19 tt) tx  left p till M K len pi_ tr va w pu prr to ha mv (by first | assumption | omega) (by first | assumption | omega) (by first | assumption | omega) (by first | assumption | omega) (by first | assumption | omega) hva (by first | assumption | omega) hcm hvt hin (by first | assumption | omega) hlm (by first | assumption | omega) hl0 (by first | assumption | omega) _ ?_ ((4 - 0) + 1 : Int).toNat 0 0 to ha od tmn tl cu pp li ty gv rm rs mk mv tm tt ct (by first | assumption | omega) (by first | assumption | omega) ⟨by omega, by omega⟩ ⟨by omega, by omega⟩ hg hmv hmk htn hod (gcX_i hto hha (fun r ⟨x, e, x0, x1, _⟩ => by omega)) (by omega) 
    intro to_2 ha_3 od_4 pp_5 li_6 ty_7 gv_8 rm_9 rs_10 mk_11 mv_12 tm_13 tt_14 ct_15 tmn_16 tl_17 cu_18 f19 f20 f21 f22 f23 f24 f25
    show (fun (rv : Option Value) (h : AmH) => ∃ to' : Int, ∃ ha' : Int, ∃ od' : Int → Int, ∃ pp' : Int → Int, ∃ li' : Int → Int, ∃ ty' : Int → Int, ∃ gv' : Int → Int, ∃ rm' : Int, ∃ rs' : Int → Int, ∃ mk' : Int → Int, ∃ mv' : Int, ∃ tm' : Int, ∃ tt' : Int → Int, ∃ ct' : Int → Int, ∃ tmn' : Int, ∃ tl' : Int → Int, ∃ cu' : Int → Int, rv = none ∧ h = cmH (u1 (u1 (u1 (u1 (u1 (u1 (u1 (u1 (u1 (u1 (u1 z 21 K) 22 pi_) 23 len) 24 tr) 28 M) 39 rm') 40 mv') 46 tmn') 47 tm') 56 ha') 57 to') zl (uf (uf (uf (uf (uf (uf (uf (uf (uf (uf (uf f 5 va) 8 prr) 9 pu) 10 pp') 11 li') 12 ty') 16 mk') 17 gv') 20 cu') 21 ct') 22 od') (uf (uf (uf fl 15 rs') 18 tl') 19 tt') tx ∧ (∀ k : Int, 0 ≤ k → k < 4 → 0 ≤ gv' k ∧ gv' k ≤ 4) ∧ 0 ≤ mv' ∧ (∀ j : Int, 0 ≤ j → j < 72000 → 0 ≤ mk' j ∧ mk' j ≤ mv') ∧ (mv ≤ mv' ∧ mv' ≤ mv + 76800) ∧ (0 ≤ tmn' ∧ tmn' ≤ 200) ∧ lsI 1 od' = p ∧ gcX (gcA (fun l r => thR w K tr len pi_ prr (fun c k => pu (4 * c + k)) l (fun v => v = till) r) p left) to ha to' ha') (none) (cmH (u1 (u1 (u1 (u1 (u1 (u1 (u1 (u1 (u1 (u1 (u1 z 21 K) 22 pi_) 23 len) 24 tr) 28 M) 39 rm_9) 40 mv_12) 46 tmn_16) 47 tm_13) 56 ha_3) 57 to_2) zl (uf (uf (uf (uf (uf (uf (uf (uf (uf (uf (uf f 5 va) 8 prr) 9 pu) 10 pp_5) 11 li_6) 12 ty_7) 16 mk_11) 17 gv_8) 20 cu_18) 21 ct_15) 22 od_4) (uf (uf (uf fl 15 rs_10) 18 tl_17) 19 tt_14) tx)
    exact ⟨_, _, _, _, _, _, _, _, _, _, _, _, _, _, _, _, _, rfl, rfl, f19, f20, f21, f22, f23, f24, f25⟩
  · refine Rx.walk 3 (pc' := 9) (L' := [some (.ref 0), some (.int (iz left)), some (.int (iz 1)), some (.long (jz till)), none, none]) (st' := [.int (iz to), .ref 0]) (h' := cmH (u1 (u1 (u1 (u1 (u1 (u1 (u1 (u1 (u1 (u1 (u1 z 21 K) 22 pi_) 23 len) 24 tr) 28 M) 39 rm) 40 mv) 46 tmn) 47 tm) 56 ha) 57 to) zl (uf (uf (uf (uf (uf (uf (uf (uf (uf (uf (uf f 5 va) 8 prr) 9 pu) 10 pp) 11 li) 12 ty) 16 mk) 17 gv) 20 cu) 21 ct) 22 od) (uf (uf (uf fl 15 rs) 18 tl) 19 tt) tx) rfl ?_
    refine Rx.eq1 rfl rfl ⟨by omega, by omega⟩ (fun b26 => ?_) (fun b26 => ?_)
    · refine Rx.walk 5 (pc' := 34) (L' := [some (.ref 0), some (.int (iz left)), some (.int (iz 1)), some (.long (jz till)), none, none]) (st' := [.int (iz ha), .ref 0]) (h' := cmH (u1 (u1 (u1 (u1 (u1 (u1 (u1 (u1 (u1 (u1 (u1 z 21 K) 22 pi_) 23 len) 24 tr) 28 M) 39 rm) 40 mv) 46 tmn) 47 tm) 56 ha) 57 0) zl (uf (uf (uf (uf (uf (uf (uf (uf (uf (uf (uf f 5 va) 8 prr) 9 pu) 10 pp) 11 li) 12 ty) 16 mk) 17 gv) 20 cu) 21 ct) 22 od) (uf (uf (uf fl 15 rs) 18 tl) 19 tt) tx) rfl ?_
      refine Rx.ne1 rfl rfl ⟨by omega, by omega⟩ (fun b27 => ?_) (fun b27 => ?_)
      · refine Rx.walk 3 (pc' := 59) (L' := [some (.ref 0), some (.int (iz left)), some (.int (iz 1)), some (.long (jz till)), none, none]) (st' := []) (h' := cmH (u1 (u1 (u1 (u1 (u1 (u1 (u1 (u1 (u1 (u1 (u1 z 21 K) 22 pi_) 23 len) 24 tr) 28 M) 39 rm) 40 mv) 46 tmn) 47 tm) 56 1) 57 0) zl (uf (uf (uf (uf (uf (uf (uf (uf (uf (uf (uf f 5 va) 8 prr) 9 pu) 10 pp) 11 li) 12 ty) 16 mk) 17 gv) 20 cu) 21 ct) 22 od) (uf (uf (uf fl 15 rs) 18 tl) 19 tt) tx) rfl ?_
        refine Rx.ret rfl ?_
        have hl0 : left = 0 := by omega
        subst hl0
        refine ⟨_, _, _, _, _, _, _, _, _, _, _, _, _, _, _, _, _, rfl, rfl, hg, hmv, hmk, ⟨by omega, by omega⟩, htn, hod, ⟨by omega, by omega, fun q => by omega, fun q => Or.inl (by omega)⟩⟩
      · refine Rx.walk 2 (pc' := 41) (L' := [some (.ref 0), some (.int (iz left)), some (.int (iz 1)), some (.long (jz till)), none, none]) (st' := [.int (iz 0), .ref 0]) (h' := cmH (u1 (u1 (u1 (u1 (u1 (u1 (u1 (u1 (u1 (u1 (u1 z 21 K) 22 pi_) 23 len) 24 tr) 28 M) 39 rm) 40 mv) 46 tmn) 47 tm) 56 ha) 57 0) zl (uf (uf (uf (uf (uf (uf (uf (uf (uf (uf (uf f 5 va) 8 prr) 9 pu) 10 pp) 11 li) 12 ty) 16 mk) 17 gv) 20 cu) 21 ct) 22 od) (uf (uf (uf fl 15 rs) 18 tl) 19 tt) tx) rfl ?_
        refine Rx.eq1 rfl rfl ⟨by omega, by omega⟩ (fun b28 => ?_) (fun b28 => by omega)
        refine Rx.walk 2 (pc' := 59) (L' := [some (.ref 0), some (.int (iz left)), some (.int (iz 1)), some (.long (jz till)), none, none]) (st' := []) (h' := cmH (u1 (u1 (u1 (u1 (u1 (u1 (u1 (u1 (u1 (u1 (u1 z 21 K) 22 pi_) 23 len) 24 tr) 28 M) 39 rm) 40 mv) 46 tmn) 47 tm) 56 0) 57 0) zl (uf (uf (uf (uf (uf (uf (uf (uf (uf (uf (uf f 5 va) 8 prr) 9 pu) 10 pp) 11 li) 12 ty) 16 mk) 17 gv) 20 cu) 21 ct) 22 od) (uf (uf (uf fl 15 rs) 18 tl) 19 tt) tx) rfl ?_
        refine Rx.ret rfl ?_
        have hl0 : left = 0 := by omega
        subst hl0
        refine ⟨_, _, _, _, _, _, _, _, _, _, _, _, _, _, _, _, _, rfl, rfl, hg, hmv, hmk, ⟨by omega, by omega⟩, htn, hod, ⟨by omega, by omega, fun q => by omega, fun q => Or.inl (by omega)⟩⟩
    · refine Rx.walk 3 (pc' := 15) (L' := [some (.ref 0), some (.int (iz left)), some (.int (iz 1)), some (.long (jz till)), none, none]) (st' := [.int (iz 1), .long (jz till), .ref 0, .ref 0]) (h' := cmH (u1 (u1 (u1 (u1 (u1 (u1 (u1 (u1 (u1 (u1 (u1 z 21 K) 22 pi_) 23 len) 24 tr) 28 M) 39 rm) 40 mv) 46 tmn) 47 tm) 56 ha) 57 to) zl (uf (uf (uf (uf (uf (uf (uf (uf (uf (uf (uf f 5 va) 8 prr) 9 pu) 10 pp) 11 li) 12 ty) 16 mk) 17 gv) 20 cu) 21 ct) 22 od) (uf (uf (uf fl 15 rs) 18 tl) 19 tt) tx) rfl ?_
      refine Rx.callx (m' := m_X12_goOrder) (as := [.ref 0, .long (jz till), .int (iz 1)]) (rest := [.ref 0]) rfl (m_goOrder _ (u1 (u1 (u1 (u1 (u1 (u1 (u1 (u1 (u1 (u1 (u1 z 21 K) 22 pi_) 23 len) 24 tr) 28 M) 39 rm) 40 mv) 46 tmn) 47 tm) 56 ha) 57 to) zl (uf (uf (uf (uf (uf (uf (uf (uf (uf (uf (uf f 5 va) 8 prr) 9 pu) 10 pp) 11 li) 12 ty) 16 mk) 17 gv) 20 cu) 21 ct) 22 od) (uf (uf (uf fl 15 rs) 18 tl) 19 tt) tx  till 1 od M K len pi_ tr va w pu prr tmn tl cu pp li ty gv rm rs mk mv tm tt ct (by first | assumption | omega) (by first | assumption | omega) (by first | assumption | omega) (by first | assumption | omega) (by first | assumption | omega) (by first | assumption | omega) (by first | assumption | omega) (by first | assumption | omega) ⟨by omega, by omega⟩ (fun i a b => lsI_in hod hin.1 i a (by omega)) hvt hg (by first | assumption | omega) hmk (by omega)) (fun v50 h51 q52 => ?_)
      obtain ⟨r_29, pp_30, li_31, ty_32, gv_33, rm_34, rs_35, mk_36, mv_37, tm_38, tt_39, ct_40, tmn_41, tl_42, cu_43, rfl, rfl, f44, f45, f46, f47, f48, f49⟩ := q52
      refine Rx.walk 0 (pc' := 18) (L' := [some (.ref 0), some (.int (iz left)), some (.int (iz 1)), some (.long (jz till)), none, none]) (st' := [.int (iz r_29), .ref 0]) (h' := cmH (u1 (u1 (u1 (u1 (u1 (u1 (u1 (u1 (u1 (u1 (u1 z 21 K) 22 pi_) 23 len) 24 tr) 28 M) 39 rm_34) 40 mv_37) 46 tmn_41) 47 tm_38) 56 ha) 57 to) zl (uf (uf (uf (uf (uf (uf (uf (uf (uf (uf (uf f 5 va) 8 prr) 9 pu) 10 pp_30) 11 li_31) 12 ty_32) 16 mk_36) 17 gv_33) 20 cu_43) 21 ct_40) 22 od) (uf (uf (uf fl 15 rs_35) 18 tl_42) 19 tt_39) tx) rfl ?_
      refine Rx.eq1 rfl rfl ⟨by omega, by omega⟩ (fun b53 => ?_) (fun b53 => ?_)
      · refine Rx.walk 5 (pc' := 34) (L' := [some (.ref 0), some (.int (iz left)), some (.int (iz 1)), some (.long (jz till)), none, none]) (st' := [.int (iz ha), .ref 0]) (h' := cmH (u1 (u1 (u1 (u1 (u1 (u1 (u1 (u1 (u1 (u1 (u1 z 21 K) 22 pi_) 23 len) 24 tr) 28 M) 39 rm_34) 40 mv_37) 46 tmn_41) 47 tm_38) 56 ha) 57 0) zl (uf (uf (uf (uf (uf (uf (uf (uf (uf (uf (uf f 5 va) 8 prr) 9 pu) 10 pp_30) 11 li_31) 12 ty_32) 16 mk_36) 17 gv_33) 20 cu_43) 21 ct_40) 22 od) (uf (uf (uf fl 15 rs_35) 18 tl_42) 19 tt_39) tx) rfl ?_
        refine Rx.ne1 rfl rfl ⟨by omega, by omega⟩ (fun b54 => ?_) (fun b54 => ?_)
        · refine Rx.walk 3 (pc' := 59) (L' := [some (.ref 0), some (.int (iz left)), some (.int (iz 1)), some (.long (jz till)), none, none]) (st' := []) (h' := cmH (u1 (u1 (u1 (u1 (u1 (u1 (u1 (u1 (u1 (u1 (u1 z 21 K) 22 pi_) 23 len) 24 tr) 28 M) 39 rm_34) 40 mv_37) 46 tmn_41) 47 tm_38) 56 1) 57 0) zl (uf (uf (uf (uf (uf (uf (uf (uf (uf (uf (uf f 5 va) 8 prr) 9 pu) 10 pp_30) 11 li_31) 12 ty_32) 16 mk_36) 17 gv_33) 20 cu_43) 21 ct_40) 22 od) (uf (uf (uf fl 15 rs_35) 18 tl_42) 19 tt_39) tx) rfl ?_
          refine Rx.ret rfl ?_
          have hl0 : left = 0 := by omega
          subst hl0
          refine ⟨_, _, _, _, _, _, _, _, _, _, _, _, _, _, _, _, _, rfl, rfl, f44, f45, f46, ⟨by omega, by omega⟩, f48, hod, ⟨by omega, by omega, ?_, ?_⟩⟩
          · exact fun q => by omega
          · intro _
            refine Or.inr ⟨[], eL_0.mpr rfl, ?_⟩
            rw [List.append_nil, ← hod]
            rcases f49 with q | q
            · exact q.2
            · exfalso; omega
        · refine Rx.walk 2 (pc' := 41) (L' := [some (.ref 0), some (.int (iz left)), some (.int (iz 1)), some (.long (jz till)), none, none]) (st' := [.int (iz 0), .ref 0]) (h' := cmH (u1 (u1 (u1 (u1 (u1 (u1 (u1 (u1 (u1 (u1 (u1 z 21 K) 22 pi_) 23 len) 24 tr) 28 M) 39 rm_34) 40 mv_37) 46 tmn_41) 47 tm_38) 56 ha) 57 0) zl (uf (uf (uf (uf (uf (uf (uf (uf (uf (uf (uf f 5 va) 8 prr) 9 pu) 10 pp_30) 11 li_31) 12 ty_32) 16 mk_36) 17 gv_33) 20 cu_43) 21 ct_40) 22 od) (uf (uf (uf fl 15 rs_35) 18 tl_42) 19 tt_39) tx) rfl ?_
          refine Rx.eq1 rfl rfl ⟨by omega, by omega⟩ (fun b55 => ?_) (fun b55 => by omega)
          refine Rx.walk 2 (pc' := 59) (L' := [some (.ref 0), some (.int (iz left)), some (.int (iz 1)), some (.long (jz till)), none, none]) (st' := []) (h' := cmH (u1 (u1 (u1 (u1 (u1 (u1 (u1 (u1 (u1 (u1 (u1 z 21 K) 22 pi_) 23 len) 24 tr) 28 M) 39 rm_34) 40 mv_37) 46 tmn_41) 47 tm_38) 56 0) 57 0) zl (uf (uf (uf (uf (uf (uf (uf (uf (uf (uf (uf f 5 va) 8 prr) 9 pu) 10 pp_30) 11 li_31) 12 ty_32) 16 mk_36) 17 gv_33) 20 cu_43) 21 ct_40) 22 od) (uf (uf (uf fl 15 rs_35) 18 tl_42) 19 tt_39) tx) rfl ?_
          refine Rx.ret rfl ?_
          have hl0 : left = 0 := by omega
          subst hl0
          refine ⟨_, _, _, _, _, _, _, _, _, _, _, _, _, _, _, _, _, rfl, rfl, f44, f45, f46, ⟨by omega, by omega⟩, f48, hod, ⟨by omega, by omega, ?_, ?_⟩⟩
          · exact fun q => by omega
          · intro _
            refine Or.inr ⟨[], eL_0.mpr rfl, ?_⟩
            rw [List.append_nil, ← hod]
            rcases f49 with q | q
            · exact q.2
            · exfalso; omega
      · refine Rx.walk 6 (pc' := 34) (L' := [some (.ref 0), some (.int (iz left)), some (.int (iz 1)), some (.long (jz till)), none, none]) (st' := [.int (iz ha), .ref 0]) (h' := cmH (u1 (u1 (u1 (u1 (u1 (u1 (u1 (u1 (u1 (u1 (u1 z 21 K) 22 pi_) 23 len) 24 tr) 28 M) 39 rm_34) 40 mv_37) 46 tmn_41) 47 tm_38) 56 ha) 57 1) zl (uf (uf (uf (uf (uf (uf (uf (uf (uf (uf (uf f 5 va) 8 prr) 9 pu) 10 pp_30) 11 li_31) 12 ty_32) 16 mk_36) 17 gv_33) 20 cu_43) 21 ct_40) 22 od) (uf (uf (uf fl 15 rs_35) 18 tl_42) 19 tt_39) tx) rfl ?_
        refine Rx.ne1 rfl rfl ⟨by omega, by omega⟩ (fun b56 => ?_) (fun b56 => ?_)
        · refine Rx.walk 3 (pc' := 59) (L' := [some (.ref 0), some (.int (iz left)), some (.int (iz 1)), some (.long (jz till)), none, none]) (st' := []) (h' := cmH (u1 (u1 (u1 (u1 (u1 (u1 (u1 (u1 (u1 (u1 (u1 z 21 K) 22 pi_) 23 len) 24 tr) 28 M) 39 rm_34) 40 mv_37) 46 tmn_41) 47 tm_38) 56 1) 57 1) zl (uf (uf (uf (uf (uf (uf (uf (uf (uf (uf (uf f 5 va) 8 prr) 9 pu) 10 pp_30) 11 li_31) 12 ty_32) 16 mk_36) 17 gv_33) 20 cu_43) 21 ct_40) 22 od) (uf (uf (uf fl 15 rs_35) 18 tl_42) 19 tt_39) tx) rfl ?_
          refine Rx.ret rfl ?_
          have hl0 : left = 0 := by omega
          subst hl0
          obtain ⟨-, hx1, -⟩ : r_29 = 1 ∧ _ ∧ _ := by rcases f49 with q | q; (exfalso; omega); exact q
          have hx2 : (fun l r => thR w K tr len pi_ prr (fun c k => pu (4 * c + k)) l (fun v => v = till) r) p (if 0 < tmn_41 then 1 else 0) := by rw [← hod]; exact hx1
          have huq : ∀ l a b, (fun l r => thR w K tr len pi_ prr (fun c k => pu (4 * c + k)) l (fun v => v = till) r) l a → (fun l r => thR w K tr len pi_ prr (fun c k => pu (4 * c + k)) l (fun v => v = till) r) l b → a = b := fun l a b x y => thR_uq x y
          refine ⟨_, _, _, _, _, _, _, _, _, _, _, _, _, _, _, _, _, rfl, rfl, f44, f45, f46, ⟨by omega, by omega⟩, f48, hod, ⟨by omega, by omega, ?_, ?_⟩⟩
          · intro _
            refine ⟨by omega, ?_, ?_⟩
            · rintro ⟨e, e1, e2⟩
              rw [eL_0.mp e1, List.append_nil] at e2
              have := huq _ _ _ e2 hx2
              split at this <;> omega
            · constructor
              · intro _
                by_cases hq : ha = 1
                · exact Or.inl hq
                · refine Or.inr ⟨[], eL_0.mpr rfl, ?_⟩
                  rw [List.append_nil]
                  rw [if_pos (by omega)] at hx2
                  exact hx2
              · rintro (q | ⟨e, e1, e2⟩)
                · omega
                · have e3 : (fun l r => thR w K tr len pi_ prr (fun c k => pu (4 * c + k)) l (fun v => v = till) r) p 1 := by have e4 := e2; rw [eL_0.mp e1, List.append_nil] at e4; exact e4
                  have := huq _ _ _ e3 hx2
                  split at this <;> omega
          · intro q; omega
        · refine Rx.walk 2 (pc' := 41) (L' := [some (.ref 0), some (.int (iz left)), some (.int (iz 1)), some (.long (jz till)), none, none]) (st' := [.int (iz 1), .ref 0]) (h' := cmH (u1 (u1 (u1 (u1 (u1 (u1 (u1 (u1 (u1 (u1 (u1 z 21 K) 22 pi_) 23 len) 24 tr) 28 M) 39 rm_34) 40 mv_37) 46 tmn_41) 47 tm_38) 56 ha) 57 1) zl (uf (uf (uf (uf (uf (uf (uf (uf (uf (uf (uf f 5 va) 8 prr) 9 pu) 10 pp_30) 11 li_31) 12 ty_32) 16 mk_36) 17 gv_33) 20 cu_43) 21 ct_40) 22 od) (uf (uf (uf fl 15 rs_35) 18 tl_42) 19 tt_39) tx) rfl ?_
          refine Rx.eq1 rfl rfl ⟨by omega, by omega⟩ (fun b57 => by omega) (fun b57 => ?_)
          refine Rx.walk 2 (pc' := 48) (L' := [some (.ref 0), some (.int (iz left)), some (.int (iz 1)), some (.long (jz till)), none, none]) (st' := [.int (iz tmn_41), .ref 0]) (h' := cmH (u1 (u1 (u1 (u1 (u1 (u1 (u1 (u1 (u1 (u1 (u1 z 21 K) 22 pi_) 23 len) 24 tr) 28 M) 39 rm_34) 40 mv_37) 46 tmn_41) 47 tm_38) 56 ha) 57 1) zl (uf (uf (uf (uf (uf (uf (uf (uf (uf (uf (uf f 5 va) 8 prr) 9 pu) 10 pp_30) 11 li_31) 12 ty_32) 16 mk_36) 17 gv_33) 20 cu_43) 21 ct_40) 22 od) (uf (uf (uf fl 15 rs_35) 18 tl_42) 19 tt_39) tx) rfl ?_
          refine Rx.le1 rfl rfl ⟨by omega, by omega⟩ (fun b58 => ?_) (fun b58 => ?_)
          · refine Rx.walk 2 (pc' := 59) (L' := [some (.ref 0), some (.int (iz left)), some (.int (iz 1)), some (.long (jz till)), none, none]) (st' := []) (h' := cmH (u1 (u1 (u1 (u1 (u1 (u1 (u1 (u1 (u1 (u1 (u1 z 21 K) 22 pi_) 23 len) 24 tr) 28 M) 39 rm_34) 40 mv_37) 46 tmn_41) 47 tm_38) 56 0) 57 1) zl (uf (uf (uf (uf (uf (uf (uf (uf (uf (uf (uf f 5 va) 8 prr) 9 pu) 10 pp_30) 11 li_31) 12 ty_32) 16 mk_36) 17 gv_33) 20 cu_43) 21 ct_40) 22 od) (uf (uf (uf fl 15 rs_35) 18 tl_42) 19 tt_39) tx) rfl ?_
            refine Rx.ret rfl ?_
            have hl0 : left = 0 := by omega
            subst hl0
            obtain ⟨-, hx1, -⟩ : r_29 = 1 ∧ _ ∧ _ := by rcases f49 with q | q; (exfalso; omega); exact q
            have hx2 : (fun l r => thR w K tr len pi_ prr (fun c k => pu (4 * c + k)) l (fun v => v = till) r) p (if 0 < tmn_41 then 1 else 0) := by rw [← hod]; exact hx1
            have huq : ∀ l a b, (fun l r => thR w K tr len pi_ prr (fun c k => pu (4 * c + k)) l (fun v => v = till) r) l a → (fun l r => thR w K tr len pi_ prr (fun c k => pu (4 * c + k)) l (fun v => v = till) r) l b → a = b := fun l a b x y => thR_uq x y
            refine ⟨_, _, _, _, _, _, _, _, _, _, _, _, _, _, _, _, _, rfl, rfl, f44, f45, f46, ⟨by omega, by omega⟩, f48, hod, ⟨by omega, by omega, ?_, ?_⟩⟩
            · intro _
              refine ⟨by omega, ?_, ?_⟩
              · rintro ⟨e, e1, e2⟩
                rw [eL_0.mp e1, List.append_nil] at e2
                have := huq _ _ _ e2 hx2
                split at this <;> omega
              · constructor
                · intro _
                  by_cases hq : ha = 1
                  · exact Or.inl hq
                  · refine Or.inr ⟨[], eL_0.mpr rfl, ?_⟩
                    rw [List.append_nil]
                    rw [if_pos (by omega)] at hx2
                    exact hx2
                · rintro (q | ⟨e, e1, e2⟩)
                  · omega
                  · have e3 : (fun l r => thR w K tr len pi_ prr (fun c k => pu (4 * c + k)) l (fun v => v = till) r) p 1 := by have e4 := e2; rw [eL_0.mp e1, List.append_nil] at e4; exact e4
                    have := huq _ _ _ e3 hx2
                    split at this <;> omega
            · intro q; omega
          · refine Rx.walk 3 (pc' := 59) (L' := [some (.ref 0), some (.int (iz left)), some (.int (iz 1)), some (.long (jz till)), none, none]) (st' := []) (h' := cmH (u1 (u1 (u1 (u1 (u1 (u1 (u1 (u1 (u1 (u1 (u1 z 21 K) 22 pi_) 23 len) 24 tr) 28 M) 39 rm_34) 40 mv_37) 46 tmn_41) 47 tm_38) 56 1) 57 1) zl (uf (uf (uf (uf (uf (uf (uf (uf (uf (uf (uf f 5 va) 8 prr) 9 pu) 10 pp_30) 11 li_31) 12 ty_32) 16 mk_36) 17 gv_33) 20 cu_43) 21 ct_40) 22 od) (uf (uf (uf fl 15 rs_35) 18 tl_42) 19 tt_39) tx) rfl ?_
            refine Rx.ret rfl ?_
            have hl0 : left = 0 := by omega
            subst hl0
            obtain ⟨-, hx1, -⟩ : r_29 = 1 ∧ _ ∧ _ := by rcases f49 with q | q; (exfalso; omega); exact q
            have hx2 : (fun l r => thR w K tr len pi_ prr (fun c k => pu (4 * c + k)) l (fun v => v = till) r) p (if 0 < tmn_41 then 1 else 0) := by rw [← hod]; exact hx1
            have huq : ∀ l a b, (fun l r => thR w K tr len pi_ prr (fun c k => pu (4 * c + k)) l (fun v => v = till) r) l a → (fun l r => thR w K tr len pi_ prr (fun c k => pu (4 * c + k)) l (fun v => v = till) r) l b → a = b := fun l a b x y => thR_uq x y
            refine ⟨_, _, _, _, _, _, _, _, _, _, _, _, _, _, _, _, _, rfl, rfl, f44, f45, f46, ⟨by omega, by omega⟩, f48, hod, ⟨by omega, by omega, ?_, ?_⟩⟩
            · intro _
              refine ⟨by omega, ?_, ?_⟩
              · rintro ⟨e, e1, e2⟩
                rw [eL_0.mp e1, List.append_nil] at e2
                have := huq _ _ _ e2 hx2
                split at this <;> omega
              · constructor
                · intro _
                  by_cases hq : ha = 1
                  · exact Or.inl hq
                  · refine Or.inr ⟨[], eL_0.mpr rfl, ?_⟩
                    rw [List.append_nil]
                    rw [if_pos (by omega)] at hx2
                    exact hx2
                · rintro (q | ⟨e, e1, e2⟩)
                  · omega
                  · have e3 : (fun l r => thR w K tr len pi_ prr (fun c k => pu (4 * c + k)) l (fun v => v = till) r) p 1 := by have e4 := e2; rw [eL_0.mp e1, List.append_nil] at e4; exact e4
                    have := huq _ _ _ e3 hx2
                    split at this <;> omega
            · intro q; omega
set_option maxRecDepth 100000 in
set_option maxHeartbeats 4000000 in
theorem m_goChain0_l (d : Nat) (z : Nat → Int) (zl : Nat → Int) (f : Nat → Int → Int) (fl : Nat → Int → Int) (tx : Nat)  (left : Int) (p : List Int) (till : Int) (M : Int) (K : Int) (len : Int) (pi_ : Int) (tr : Int) (va : Int → Int) (w : Int → Int) (pu : Int → Int) (prr : Int → Int) (to0 : Int) (ha0 : Int) (mv0 : Int) (hK : 1 ≤ K) (hlen : 1 ≤ len ∧ len ≤ 5) (hpi : 1 ≤ pi_ ∧ pi_ ≤ 2) (htr : 0 ≤ tr ∧ tr ≤ 1) (hw : wOK w) (hva : ∀ k : Int, 0 ≤ k → k < K → va k = w (k + 1)) (hK4 : K ≤ 4) (hcm : cuM K M pu prr) (hvt : vT K len pi_ till) (hin : inR M p ∧ p.length = 0) (hleft : 0 ≤ left ∧ left < 16) (hlm : ∀ x : Int, 0 ≤ x → x < 4 → hb left x = 1 → x < M) (hrb : rb left 0 ≤ 4) (hl0 : left ≠ 0) (hmv0 : mv0 + 307200 < 2147483648) (P : Option Value → AmH → Prop) (hx0 : ∀ (to' : Int) (ha' : Int) (od' : Int → Int) (pp' : Int → Int) (li' : Int → Int) (ty' : Int → Int) (gv' : Int → Int) (rm' : Int) (rs' : Int → Int) (mk' : Int → Int) (mv' : Int) (tm' : Int) (tt' : Int → Int) (ct' : Int → Int) (tmn' : Int) (tl' : Int → Int) (cu' : Int → Int), (∀ k : Int, 0 ≤ k → k < 4 → 0 ≤ gv' k ∧ gv' k ≤ 4) → (0 ≤ mv') → (∀ j : Int, 0 ≤ j → j < 72000 → 0 ≤ mk' j ∧ mk' j ≤ mv') → (mv0 ≤ mv' ∧ mv' ≤ mv0 + 307200) → (0 ≤ tmn' ∧ tmn' ≤ 200) → (lsI 0 od' = p) → (gcX (gcA (fun l r => thR w K tr len pi_ prr (fun c k => pu (4 * c + k)) l (fun v => v = till) r) p left) to0 ha0 to' ha') → P (none) (cmH (u1 (u1 (u1 (u1 (u1 (u1 (u1 (u1 (u1 (u1 (u1 z 21 K) 22 pi_) 23 len) 24 tr) 28 M) 39 rm') 40 mv') 46 tmn') 47 tm') 56 ha') 57 to') zl (uf (uf (uf (uf (uf (uf (uf (uf (uf (uf (uf f 5 va) 8 prr) 9 pu) 10 pp') 11 li') 12 ty') 16 mk') 17 gv') 20 cu') 21 ct') 22 od') (uf (uf (uf fl 15 rs') 18 tl') 19 tt') tx)) : ∀ (kF : Nat) (c : Int) (cb : Int) (to : Int) (ha : Int) (od : Int → Int) (tmn : Int) (tl : Int → Int) (cu : Int → Int) (pp : Int → Int) (li : Int → Int) (ty : Int → Int) (gv : Int → Int) (rm : Int) (rs : Int → Int) (mk : Int → Int) (mv : Int) (tm : Int) (tt : Int → Int) (ct : Int → Int), (0 ≤ c) → (c ≤ M) → (0 ≤ cb ∧ cb + rb left c ≤ 4) → (mv0 ≤ mv ∧ mv ≤ mv0 + 76800 * cb) → (∀ k : Int, 0 ≤ k → k < 4 → 0 ≤ gv k ∧ gv k ≤ 4) → (0 ≤ mv) → (∀ j : Int, 0 ≤ j → j < 72000 → 0 ≤ mk j ∧ mk j ≤ mv) → (0 ≤ tmn ∧ tmn ≤ 200) → (lsI 0 od = p) → (gcX (gcH (fun l r => thR w K tr len pi_ prr (fun c k => pu (4 * c + k)) l (fun v => v = till) r) p left c) to0 ha0 to ha) → (4 - c) < (kF : Int) → Rx (d + 57) m_X12_goChain 63 [some (.ref 0), some (.int (iz left)), some (.int (iz 0)), some (.long (jz till)), none, some (.int (iz c))] [] (cmH (u1 (u1 (u1 (u1 (u1 (u1 (u1 (u1 (u1 (u1 (u1 z 21 K) 22 pi_) 23 len) 24 tr) 28 M) 39 rm) 40 mv) 46 tmn) 47 tm) 56 ha) 57 to) zl (uf (uf (uf (uf (uf (uf (uf (uf (uf (uf (uf f 5 va) 8 prr) 9 pu) 10 pp) 11 li) 12 ty) 16 mk) 17 gv) 20 cu) 21 ct) 22 od) (uf (uf (uf fl 15 rs) 18 tl) 19 tt) tx) P := by
  have hM0 := hcm.1
  have hM4 := hcm.2.1
  have hrn := rb_nn left 0
  intro kF
  induction kF with
  | zero =>
    intro c cb to ha od tmn tl cu pp li ty gv rm rs mk mv tm tt ct c0 c1 hcb hmq hg hmv hmk htn hod hX hk
    exfalso; omega
  | succ kF ih =>
    intro c cb to ha od tmn tl cu pp li ty gv rm rs mk mv tm tt ct c0 c1 hcb hmq hg hmv hmk htn hod hX hk
    have hX1 := hX.1
    have hX2 := hX.2.1
    have hrc := rb_nn left c
    have hrc1 := rb_nn left (c + 1)
    have hrs := fun q => rb_s (left := left) c0 (show c < 4 from q)
    have hbb := hb_b left c
    refine Rx.walk 3 (pc' := 69) (L' := [some (.ref 0), some (.int (iz left)), some (.int (iz 0)), some (.long (jz till)), none, some (.int (iz c))]) (st' := [.int (iz M), .int (iz c)]) (h' := cmH (u1 (u1 (u1 (u1 (u1 (u1 (u1 (u1 (u1 (u1 (u1 z 21 K) 22 pi_) 23 len) 24 tr) 28 M) 39 rm) 40 mv) 46 tmn) 47 tm) 56 ha) 57 to) zl (uf (uf (uf (uf (uf (uf (uf (uf (uf (uf (uf f 5 va) 8 prr) 9 pu) 10 pp) 11 li) 12 ty) 16 mk) 17 gv) 20 cu) 21 ct) 22 od) (uf (uf (uf fl 15 rs) 18 tl) 19 tt) tx) rfl ?_
    refine Rx.ge2 rfl rfl ⟨by omega, by omega⟩ ⟨by omega, by omega⟩ (fun b1 => ?_) (fun b1 => ?_)
    · refine Rx.ret rfl ?_
      exact hx0 _ _ _ _ _ _ _ _ _ _ _ _ _ _ _ _ _ hg hmv hmk ⟨by omega, by omega⟩ htn hod (gcX_c hX (fun r => (gcH_e hl0 hleft.1 hleft.2 (fun x a b q => by have := hlm x a b q; omega) r).symm))
    · refine Rx.walk 2 (pc' := 76) (L' := [some (.ref 0), some (.int (iz left)), some (.int (iz 0)), some (.long (jz till)), none, some (.int (iz c))]) (st' := [.int (iz to)]) (h' := cmH (u1 (u1 (u1 (u1 (u1 (u1 (u1 (u1 (u1 (u1 (u1 z 21 K) 22 pi_) 23 len) 24 tr) 28 M) 39 rm) 40 mv) 46 tmn) 47 tm) 56 ha) 57 to) zl (uf (uf (uf (uf (uf (uf (uf (uf (uf (uf (uf f 5 va) 8 prr) 9 pu) 10 pp) 11 li) 12 ty) 16 mk) 17 gv) 20 cu) 21 ct) 22 od) (uf (uf (uf fl 15 rs) 18 tl) 19 tt) tx) rfl ?_
      refine Rx.eq1 rfl rfl ⟨by omega, by omega⟩ (fun b2 => ?_) (fun b2 => ?_)
      · refine Rx.ret rfl ?_
        exact hx0 _ _ _ _ _ _ _ _ _ _ _ _ _ _ _ _ _ hg hmv hmk ⟨by omega, by omega⟩ htn hod (gcX_u hX (by omega) (fun r ⟨x, e, x0, x1, x2, x3⟩ => ⟨x :: e, x2, x3⟩))
      · refine Rx.walk 2 (pc' := 82) (L' := [some (.ref 0), some (.int (iz left)), some (.int (iz 0)), some (.long (jz till)), none, some (.int (iz c))]) (st' := [.int (iz c), .int (iz left)]) (h' := cmH (u1 (u1 (u1 (u1 (u1 (u1 (u1 (u1 (u1 (u1 (u1 z 21 K) 22 pi_) 23 len) 24 tr) 28 M) 39 rm) 40 mv) 46 tmn) 47 tm) 56 ha) 57 to) zl (uf (uf (uf (uf (uf (uf (uf (uf (uf (uf (uf f 5 va) 8 prr) 9 pu) 10 pp) 11 li) 12 ty) 16 mk) 17 gv) 20 cu) 21 ct) 22 od) (uf (uf (uf fl 15 rs) 18 tl) 19 tt) tx) rfl ?_
        refine Rx.callx (m' := m_X12_has) (as := [.int (iz left), .int (iz c)]) (rest := []) rfl (n_has _ (cmH (u1 (u1 (u1 (u1 (u1 (u1 (u1 (u1 (u1 (u1 (u1 z 21 K) 22 pi_) 23 len) 24 tr) 28 M) 39 rm) 40 mv) 46 tmn) 47 tm) 56 ha) 57 to) zl (uf (uf (uf (uf (uf (uf (uf (uf (uf (uf (uf f 5 va) 8 prr) 9 pu) 10 pp) 11 li) 12 ty) 16 mk) 17 gv) 20 cu) 21 ct) 22 od) (uf (uf (uf fl 15 rs) 18 tl) 19 tt) tx)  left c (by first | assumption | omega) (by first | assumption | omega) (by first | assumption | omega) (by first | assumption | omega)) (fun v5 h6 q7 => ?_)
        obtain ⟨r_3, rfl, rfl, f4⟩ := q7
        refine Rx.walk 0 (pc' := 85) (L' := [some (.ref 0), some (.int (iz left)), some (.int (iz 0)), some (.long (jz till)), none, some (.int (iz c))]) (st' := [.int (iz r_3)]) (h' := cmH (u1 (u1 (u1 (u1 (u1 (u1 (u1 (u1 (u1 (u1 (u1 z 21 K) 22 pi_) 23 len) 24 tr) 28 M) 39 rm) 40 mv) 46 tmn) 47 tm) 56 ha) 57 to) zl (uf (uf (uf (uf (uf (uf (uf (uf (uf (uf (uf f 5 va) 8 prr) 9 pu) 10 pp) 11 li) 12 ty) 16 mk) 17 gv) 20 cu) 21 ct) 22 od) (uf (uf (uf fl 15 rs) 18 tl) 19 tt) tx) rfl ?_
        refine Rx.ne1 rfl rfl ⟨by omega, by omega⟩ (fun b8 => ?_) (fun b8 => ?_)
        · refine Rx.walk 4 (pc' := 98) (L' := [some (.ref 0), some (.int (iz left)), some (.int (iz 0)), some (.long (jz till)), none, some (.int (iz c))]) (st' := [.int (iz c), .int (iz 0), .ref 22]) (h' := cmH (u1 (u1 (u1 (u1 (u1 (u1 (u1 (u1 (u1 (u1 (u1 z 21 K) 22 pi_) 23 len) 24 tr) 28 M) 39 rm) 40 mv) 46 tmn) 47 tm) 56 ha) 57 to) zl (uf (uf (uf (uf (uf (uf (uf (uf (uf (uf (uf f 5 va) 8 prr) 9 pu) 10 pp) 11 li) 12 ty) 16 mk) 17 gv) 20 cu) 21 ct) 22 od) (uf (uf (uf fl 15 rs) 18 tl) 19 tt) tx) rfl ?_
          refine Rx.ias (g := od) (h' := cmH (u1 (u1 (u1 (u1 (u1 (u1 (u1 (u1 (u1 (u1 (u1 z 21 K) 22 pi_) 23 len) 24 tr) 28 M) 39 rm) 40 mv) 46 tmn) 47 tm) 56 ha) 57 to) zl (uf (uf (uf (uf (uf (uf (uf (uf (uf (uf (uf f 5 va) 8 prr) 9 pu) 10 pp) 11 li) 12 ty) 16 mk) 17 gv) 20 cu) 21 ct) 22 (iu od 0 c)) (uf (uf (uf fl 15 rs) 18 tl) 19 tt) tx) rfl rfl (by omega) (by omega) (by omega) rfl ?_
          refine Rx.walk 4 (pc' := 104) (L' := [some (.ref 0), some (.int (iz left)), some (.int (iz 0)), some (.long (jz till)), none, some (.int (iz c))]) (st' := [.int (iz c), .int (iz 1), .int (iz left), .ref 0]) (h' := cmH (u1 (u1 (u1 (u1 (u1 (u1 (u1 (u1 (u1 (u1 (u1 z 21 K) 22 pi_) 23 len) 24 tr) 28 M) 39 rm) 40 mv) 46 tmn) 47 tm) 56 ha) 57 to) zl (uf (uf (uf (uf (uf (uf (uf (uf (uf (uf (uf f 5 va) 8 prr) 9 pu) 10 pp) 11 li) 12 ty) 16 mk) 17 gv) 20 cu) 21 ct) 22 (iu od 0 c)) (uf (uf (uf fl 15 rs) 18 tl) 19 tt) tx) rfl ?_
          refine Rx.ishl (c := (p2 c)) rfl (p2_shl (by omega) (by omega)) ?_
          refine Rx.walk 1 (pc' := 106) (L' := [some (.ref 0), some (.int (iz left)), some (.int (iz 0)), some (.long (jz till)), none, some (.int (iz c))]) (st' := [.int (iz (-1)), .int (iz (p2 c)), .int (iz left), .ref 0]) (h' := cmH (u1 (u1 (u1 (u1 (u1 (u1 (u1 (u1 (u1 (u1 (u1 z 21 K) 22 pi_) 23 len) 24 tr) 28 M) 39 rm) 40 mv) 46 tmn) 47 tm) 56 ha) 57 to) zl (uf (uf (uf (uf (uf (uf (uf (uf (uf (uf (uf f 5 va) 8 prr) 9 pu) 10 pp) 11 li) 12 ty) 16 mk) 17 gv) 20 cu) 21 ct) 22 (iu od 0 c)) (uf (uf (uf fl 15 rs) 18 tl) 19 tt) tx) rfl ?_
          refine Rx.ixor (c := (-1 - p2 c)) rfl (p2_xor c0 (by omega)) ?_
          refine Rx.iand (c := (left - p2 c)) rfl (and_not' hleft.1 hleft.2 c0 (by omega) (by omega)) ?_
          refine Rx.walk 2 (pc' := 110) (L' := [some (.ref 0), some (.int (iz left)), some (.int (iz 0)), some (.long (jz till)), none, some (.int (iz c))]) (st' := [.int (iz 1), .int (iz 0), .int (iz (left - p2 c)), .ref 0]) (h' := cmH (u1 (u1 (u1 (u1 (u1 (u1 (u1 (u1 (u1 (u1 (u1 z 21 K) 22 pi_) 23 len) 24 tr) 28 M) 39 rm) 40 mv) 46 tmn) 47 tm) 56 ha) 57 to) zl (uf (uf (uf (uf (uf (uf (uf (uf (uf (uf (uf f 5 va) 8 prr) 9 pu) 10 pp) 11 li) 12 ty) 16 mk) 17 gv) 20 cu) 21 ct) 22 (iu od 0 c)) (uf (uf (uf fl 15 rs) 18 tl) 19 tt) tx) rfl ?_
          refine Rx.iadd rfl ?_
          refine Rx.walk 0 (pc' := 111) (L' := [some (.ref 0), some (.int (iz left)), some (.int (iz 0)), some (.long (jz till)), none, some (.int (iz c))]) (st' := [.int (iz 1), .int (iz (left - p2 c)), .ref 0]) (h' := cmH (u1 (u1 (u1 (u1 (u1 (u1 (u1 (u1 (u1 (u1 (u1 z 21 K) 22 pi_) 23 len) 24 tr) 28 M) 39 rm) 40 mv) 46 tmn) 47 tm) 56 ha) 57 to) zl (uf (uf (uf (uf (uf (uf (uf (uf (uf (uf (uf f 5 va) 8 prr) 9 pu) 10 pp) 11 li) 12 ty) 16 mk) 17 gv) 20 cu) 21 ct) 22 (iu od 0 c)) (uf (uf (uf fl 15 rs) 18 tl) 19 tt) tx) rfl ?_
          refine Rx.walk 1 (pc' := 112) (L' := [some (.ref 0), some (.int (iz left)), some (.int (iz 0)), some (.long (jz till)), none, some (.int (iz c))]) (st' := [.long (jz till), .int (iz 1), .int (iz (left - p2 c)), .ref 0]) (h' := cmH (u1 (u1 (u1 (u1 (u1 (u1 (u1 (u1 (u1 (u1 (u1 z 21 K) 22 pi_) 23 len) 24 tr) 28 M) 39 rm) 40 mv) 46 tmn) 47 tm) 56 ha) 57 to) zl (uf (uf (uf (uf (uf (uf (uf (uf (uf (uf (uf f 5 va) 8 prr) 9 pu) 10 pp) 11 li) 12 ty) 16 mk) 17 gv) 20 cu) 21 ct) 22 (iu od 0 c)) (uf (uf (uf fl 15 rs) 18 tl) 19 tt) tx) rfl ?_
          have hbc : hb left c = 1 := by omega
          obtain ⟨hp1, hp2⟩ := rb_p hleft.1 hleft.2 c0 (show c < 4 by omega) hbc
          refine Rx.callx (m' := m_X12_goChain) (as := [.ref 0, .int (iz (left - p2 c)), .int (iz 1), .long (jz till)]) (rest := []) rfl (m_goChain1 _ (u1 (u1 (u1 (u1 (u1 (u1 (u1 (u1 (u1 (u1 (u1 z 21 K) 22 pi_) 23 len) 24 tr) 28 M) 39 rm) 40 mv) 46 tmn) 47 tm) 56 ha) 57 to) zl (uf (uf (uf (uf (uf (uf (uf (uf (uf (uf (uf f 5 va) 8 prr) 9 pu) 10 pp) 11 li) 12 ty) 16 mk) 17 gv) 20 cu) 21 ct) 22 (iu od 0 c)) (uf (uf (uf fl 15 rs) 18 tl) 19 tt) tx  (left - p2 c) (p ++ [c]) till M K len pi_ tr va w pu prr to ha (iu od 0 c) tmn tl cu pp li ty gv rm rs mk mv tm tt ct (by first | assumption | omega) (by first | assumption | omega) (by first | assumption | omega) (by first | assumption | omega) (by first | assumption | omega) (by first | assumption | omega) (by first | assumption | omega) (by first | assumption | omega) (by first | assumption | omega) ⟨inR_app.mpr ⟨hin.1, fun x hx => by rw [List.mem_singleton] at hx; omega⟩, by rw [List.length_append, hin.2]; rfl⟩ hp2 (fun x a b q => hlm x a b ((hb_p hleft.1 hleft.2 c0 (by omega) a b hbc).mp q).1) (by omega) hg hmv hmk htn (lsI_push hod) hX1 hX2 (by omega)) (fun v33 h34 q35 => ?_)
          obtain ⟨to_9, ha_10, od_11, pp_12, li_13, ty_14, gv_15, rm_16, rs_17, mk_18, mv_19, tm_20, tt_21, ct_22, tmn_23, tl_24, cu_25, rfl, rfl, f26, f27, f28, f29, f30, f31, f32⟩ := q35
          refine Rx.walk 0 (pc' := 115) (L' := [some (.ref 0), some (.int (iz left)), some (.int (iz 0)), some (.long (jz till)), none, some (.int (iz c))]) (st' := []) (h' := cmH (u1 (u1 (u1 (u1 (u1 (u1 (u1 (u1 (u1 (u1 (u1 z 21 K) 22 pi_) 23 len) 24 tr) 28 M) 39 rm_16) 40 mv_19) 46 tmn_23) 47 tm_20) 56 ha_10) 57 to_9) zl (uf (uf (uf (uf (uf (uf (uf (uf (uf (uf (uf f 5 va) 8 prr) 9 pu) 10 pp_12) 11 li_13) 12 ty_14) 16 mk_18) 17 gv_15) 20 cu_25) 21 ct_22) 22 od_11) (uf (uf (uf fl 15 rs_17) 18 tl_24) 19 tt_21) tx) rfl ?_
          refine Rx.iinc (b := 1) rfl rfl rfl ?_
          refine Rx.walk 0 (pc' := 118) (L' := [some (.ref 0), some (.int (iz left)), some (.int (iz 0)), some (.long (jz till)), none, some (.int (iz (c + 1)))]) (st' := []) (h' := cmH (u1 (u1 (u1 (u1 (u1 (u1 (u1 (u1 (u1 (u1 (u1 z 21 K) 22 pi_) 23 len) 24 tr) 28 M) 39 rm_16) 40 mv_19) 46 tmn_23) 47 tm_20) 56 ha_10) 57 to_9) zl (uf (uf (uf (uf (uf (uf (uf (uf (uf (uf (uf f 5 va) 8 prr) 9 pu) 10 pp_12) 11 li_13) 12 ty_14) 16 mk_18) 17 gv_15) 20 cu_25) 21 ct_22) 22 od_11) (uf (uf (uf fl 15 rs_17) 18 tl_24) 19 tt_21) tx) rfl ?_
          refine Rx.walk 1 (pc' := 63) (L' := [some (.ref 0), some (.int (iz left)), some (.int (iz 0)), some (.long (jz till)), none, some (.int (iz (c + 1)))]) (st' := []) (h' := cmH (u1 (u1 (u1 (u1 (u1 (u1 (u1 (u1 (u1 (u1 (u1 z 21 K) 22 pi_) 23 len) 24 tr) 28 M) 39 rm_16) 40 mv_19) 46 tmn_23) 47 tm_20) 56 ha_10) 57 to_9) zl (uf (uf (uf (uf (uf (uf (uf (uf (uf (uf (uf f 5 va) 8 prr) 9 pu) 10 pp_12) 11 li_13) 12 ty_14) 16 mk_18) 17 gv_15) 20 cu_25) 21 ct_22) 22 od_11) (uf (uf (uf fl 15 rs_17) 18 tl_24) 19 tt_21) tx) rfl ?_
          have hrs1 := hrs (by omega)
          exact ih (c + 1) (cb + 1) to_9 ha_10 od_11 tmn_23 tl_24 cu_25 pp_12 li_13 ty_14 gv_15 rm_16 rs_17 mk_18 mv_19 tm_20 tt_21 ct_22 (by first | assumption | omega) (by first | assumption | omega) ⟨by omega, by omega⟩ ⟨by omega, by omega⟩ f26 f27 f28 f30 (lsI_pre f31) (gcX_tr hX f32 (fun r => gcH_s hbc hleft.1 hleft.2 c0 (by omega) r)) (by first | assumption | omega) 
        · refine Rx.walk 1 (pc' := 115) (L' := [some (.ref 0), some (.int (iz left)), some (.int (iz 0)), some (.long (jz till)), none, some (.int (iz c))]) (st' := []) (h' := cmH (u1 (u1 (u1 (u1 (u1 (u1 (u1 (u1 (u1 (u1 (u1 z 21 K) 22 pi_) 23 len) 24 tr) 28 M) 39 rm) 40 mv) 46 tmn) 47 tm) 56 ha) 57 to) zl (uf (uf (uf (uf (uf (uf (uf (uf (uf (uf (uf f 5 va) 8 prr) 9 pu) 10 pp) 11 li) 12 ty) 16 mk) 17 gv) 20 cu) 21 ct) 22 od) (uf (uf (uf fl 15 rs) 18 tl) 19 tt) tx) rfl ?_
          refine Rx.iinc (b := 1) rfl rfl rfl ?_
          refine Rx.walk 0 (pc' := 118) (L' := [some (.ref 0), some (.int (iz left)), some (.int (iz 0)), some (.long (jz till)), none, some (.int (iz (c + 1)))]) (st' := []) (h' := cmH (u1 (u1 (u1 (u1 (u1 (u1 (u1 (u1 (u1 (u1 (u1 z 21 K) 22 pi_) 23 len) 24 tr) 28 M) 39 rm) 40 mv) 46 tmn) 47 tm) 56 ha) 57 to) zl (uf (uf (uf (uf (uf (uf (uf (uf (uf (uf (uf f 5 va) 8 prr) 9 pu) 10 pp) 11 li) 12 ty) 16 mk) 17 gv) 20 cu) 21 ct) 22 od) (uf (uf (uf fl 15 rs) 18 tl) 19 tt) tx) rfl ?_
          refine Rx.walk 1 (pc' := 63) (L' := [some (.ref 0), some (.int (iz left)), some (.int (iz 0)), some (.long (jz till)), none, some (.int (iz (c + 1)))]) (st' := []) (h' := cmH (u1 (u1 (u1 (u1 (u1 (u1 (u1 (u1 (u1 (u1 (u1 z 21 K) 22 pi_) 23 len) 24 tr) 28 M) 39 rm) 40 mv) 46 tmn) 47 tm) 56 ha) 57 to) zl (uf (uf (uf (uf (uf (uf (uf (uf (uf (uf (uf f 5 va) 8 prr) 9 pu) 10 pp) 11 li) 12 ty) 16 mk) 17 gv) 20 cu) 21 ct) 22 od) (uf (uf (uf fl 15 rs) 18 tl) 19 tt) tx) rfl ?_
          have hrs1 := hrs (by omega)
          exact ih (c + 1) cb to ha od tmn tl cu pp li ty gv rm rs mk mv tm tt ct (by first | assumption | omega) (by first | assumption | omega) ⟨by omega, by omega⟩ ⟨by omega, by omega⟩ hg hmv hmk htn hod (gcX_c hX (fun r => (gcH_n (show hb left c ≠ 1 by omega) hleft.1 hleft.2 r).symm)) (by first | assumption | omega) 
set_option maxRecDepth 100000 in
set_option maxHeartbeats 4000000 in
theorem m_goChain0 (d : Nat) (z : Nat → Int) (zl : Nat → Int) (f : Nat → Int → Int) (fl : Nat → Int → Int) (tx : Nat)  (left : Int) (p : List Int) (till : Int) (M : Int) (K : Int) (len : Int) (pi_ : Int) (tr : Int) (va : Int → Int) (w : Int → Int) (pu : Int → Int) (prr : Int → Int) (to : Int) (ha : Int) (od : Int → Int) (tmn : Int) (tl : Int → Int) (cu : Int → Int) (pp : Int → Int) (li : Int → Int) (ty : Int → Int) (gv : Int → Int) (rm : Int) (rs : Int → Int) (mk : Int → Int) (mv : Int) (tm : Int) (tt : Int → Int) (ct : Int → Int) (hK : 1 ≤ K) (hlen : 1 ≤ len ∧ len ≤ 5) (hpi : 1 ≤ pi_ ∧ pi_ ≤ 2) (htr : 0 ≤ tr ∧ tr ≤ 1) (hw : wOK w) (hva : ∀ k : Int, 0 ≤ k → k < K → va k = w (k + 1)) (hK4 : K ≤ 4) (hcm : cuM K M pu prr) (hvt : vT K len pi_ till) (hin : inR M p ∧ p.length = 0) (hleft : 0 ≤ left ∧ left < 16) (hlm : ∀ x : Int, 0 ≤ x → x < 4 → hb left x = 1 → x < M) (hrb : rb left 0 ≤ 4) (hg : ∀ k : Int, 0 ≤ k → k < 4 → 0 ≤ gv k ∧ gv k ≤ 4) (hmv : 0 ≤ mv) (hmk : ∀ j : Int, 0 ≤ j → j < 72000 → 0 ≤ mk j ∧ mk j ≤ mv) (htn : 0 ≤ tmn ∧ tmn ≤ 200) (hod : lsI 0 od = p) (hto : to = 0 ∨ to = 1) (hha : ha = 0 ∨ ha = 1) (hmv0 : mv + 307200 < 2147483648) : Rx (d + 57) m_X12_goChain 0 (am_ent [.ref 0, .int (iz left), .int (iz 0), .long (jz till)] 6) [] (cmH (u1 (u1 (u1 (u1 (u1 (u1 (u1 (u1 (u1 (u1 (u1 z 21 K) 22 pi_) 23 len) 24 tr) 28 M) 39 rm) 40 mv) 46 tmn) 47 tm) 56 ha) 57 to) zl (uf (uf (uf (uf (uf (uf (uf (uf (uf (uf (uf f 5 va) 8 prr) 9 pu) 10 pp) 11 li) 12 ty) 16 mk) 17 gv) 20 cu) 21 ct) 22 od) (uf (uf (uf fl 15 rs) 18 tl) 19 tt) tx) (fun rv h => ∃ to' : Int, ∃ ha' : Int, ∃ od' : Int → Int, ∃ pp' : Int → Int, ∃ li' : Int → Int, ∃ ty' : Int → Int, ∃ gv' : Int → Int, ∃ rm' : Int, ∃ rs' : Int → Int, ∃ mk' : Int → Int, ∃ mv' : Int, ∃ tm' : Int, ∃ tt' : Int → Int, ∃ ct' : Int → Int, ∃ tmn' : Int, ∃ tl' : Int → Int, ∃ cu' : Int → Int, rv = none ∧ h = cmH (u1 (u1 (u1 (u1 (u1 (u1 (u1 (u1 (u1 (u1 (u1 z 21 K) 22 pi_) 23 len) 24 tr) 28 M) 39 rm') 40 mv') 46 tmn') 47 tm') 56 ha') 57 to') zl (uf (uf (uf (uf (uf (uf (uf (uf (uf (uf (uf f 5 va) 8 prr) 9 pu) 10 pp') 11 li') 12 ty') 16 mk') 17 gv') 20 cu') 21 ct') 22 od') (uf (uf (uf fl 15 rs') 18 tl') 19 tt') tx ∧ (∀ k : Int, 0 ≤ k → k < 4 → 0 ≤ gv' k ∧ gv' k ≤ 4) ∧ 0 ≤ mv' ∧ (∀ j : Int, 0 ≤ j → j < 72000 → 0 ≤ mk' j ∧ mk' j ≤ mv') ∧ (mv ≤ mv' ∧ mv' ≤ mv + 307200) ∧ (0 ≤ tmn' ∧ tmn' ≤ 200) ∧ lsI 0 od' = p ∧ gcX (gcA (fun l r => thR w K tr len pi_ prr (fun c k => pu (4 * c + k)) l (fun v => v = till) r) p left) to ha to' ha') := by
  have hM0 := hcm.1
  have hM4 := hcm.2.1
  have hrn := rb_nn left 0
  refine Rx.walk 0 (pc' := 0) (L' := [some (.ref 0), some (.int (iz left)), some (.int (iz 0)), some (.long (jz till)), none, none]) (st' := []) (h' := cmH (u1 (u1 (u1 (u1 (u1 (u1 (u1 (u1 (u1 (u1 (u1 z 21 K) 22 pi_) 23 len) 24 tr) 28 M) 39 rm) 40 mv) 46 tmn) 47 tm) 56 ha) 57 to) zl (uf (uf (uf (uf (uf (uf (uf (uf (uf (uf (uf f 5 va) 8 prr) 9 pu) 10 pp) 11 li) 12 ty) 16 mk) 17 gv) 20 cu) 21 ct) 22 od) (uf (uf (uf fl 15 rs) 18 tl) 19 tt) tx) rfl ?_
  refine Rx.walk 1 (pc' := 1) (L' := [some (.ref 0), some (.int (iz left)), some (.int (iz 0)), some (.long (jz till)), none, none]) (st' := [.int (iz left)]) (h' := cmH (u1 (u1 (u1 (u1 (u1 (u1 (u1 (u1 (u1 (u1 (u1 z 21 K) 22 pi_) 23 len) 24 tr) 28 M) 39 rm) 40 mv) 46 tmn) 47 tm) 56 ha) 57 to) zl (uf (uf (uf (uf (uf (uf (uf (uf (uf (uf (uf f 5 va) 8 prr) 9 pu) 10 pp) 11 li) 12 ty) 16 mk) 17 gv) 20 cu) 21 ct) 22 od) (uf (uf (uf fl 15 rs) 18 tl) 19 tt) tx) rfl ?_
  refine Rx.ne1 rfl rfl ⟨by omega, by omega⟩ (fun b1 => ?_) (fun b1 => ?_)
  · refine Rx.walk 2 (pc' := 63) (L' := [some (.ref 0), some (.int (iz left)), some (.int (iz 0)), some (.long (jz till)), none, some (.int (iz 0))]) (st' := []) (h' := cmH (u1 (u1 (u1 (u1 (u1 (u1 (u1 (u1 (u1 (u1 (u1 z 21 K) 22 pi_) 23 len) 24 tr) 28 M) 39 rm) 40 mv) 46 tmn) 47 tm) 56 ha) 57 to) zl (uf (uf (uf (uf (uf (uf (uf (uf (uf (uf (uf f 5 va) 8 prr) 9 pu) 10 pp) 11 li) 12 ty) 16 mk) 17 gv) 20 cu) 21 ct) 22 od) (uf (uf (uf fl 15 rs) 18 tl) 19 tt) tx) rfl ?_
    have hl0 : left ≠ 0 := by omega
    refine m_goChain0_l _ (u1 (u1 (u1 (u1 (u1 (u1 (u1 (u1 (u1 (u1 (u1 z 21 K) 22 pi_) 23 len) 24 tr) 28 M) 39 rm) 40 mv) 46 tmn) 47 tm) 56 ha) 57 to) zl (uf (uf (uf (uf (uf (uf (uf (uf (uf (uf (uf f 5 va) 8 prr) 9 pu) 10 pp) 11 li) 12 ty) 16 mk) 17 gv) 20 cu) 21 ct) 22 od) (uf (uf (uf fl 15 rs) 18 tl) 19 tt) tx  left p till M K len pi_ tr va w pu prr to ha mv (by first | assumption | omega) (by first | assumption | omega) (by first | assumption | omega) (by first | assumption | omega) (by first | assumption | omega) hva (by first | assumption | omega) hcm hvt hin (by first | assumption | omega) hlm (by first | assumption | omega) hl0 (by first | assumption | omega) _ ?_ ((4 - 0) + 1 : Int).toNat 0 0 to ha od tmn tl cu pp li ty gv rm rs mk mv tm tt ct (by first | assumption | omega) (by first | assumption | omega) ⟨by omega, by omega⟩ ⟨by omega, by omega⟩ hg hmv hmk htn hod (gcX_i hto hha (fun r ⟨x, e, x0, x1, _⟩ => by omega)) (by omega) 
    intro to_2 ha_3 od_4 pp_5 li_6 ty_7 gv_8 rm_9 rs_10 mk_11 mv_12 tm_13 tt_14 ct_15 tmn_16 tl_17 cu_18 f19 f20 f21 f22 f23 f24 f25
    show (fun (rv : Option Value) (h : AmH) => ∃ to' : Int, ∃ ha' : Int, ∃ od' : Int → Int, ∃ pp' : Int → Int, ∃ li' : Int → Int, ∃ ty' : Int → Int, ∃ gv' : Int → Int, ∃ rm' : Int, ∃ rs' : Int → Int, ∃ mk' : Int → Int, ∃ mv' : Int, ∃ tm' : Int, ∃ tt' : Int → Int, ∃ ct' : Int → Int, ∃ tmn' : Int, ∃ tl' : Int → Int, ∃ cu' : Int → Int, rv = none ∧ h = cmH (u1 (u1 (u1 (u1 (u1 (u1 (u1 (u1 (u1 (u1 (u1 z 21 K) 22 pi_) 23 len) 24 tr) 28 M) 39 rm') 40 mv') 46 tmn') 47 tm') 56 ha') 57 to') zl (uf (uf (uf (uf (uf (uf (uf (uf (uf (uf (uf f 5 va) 8 prr) 9 pu) 10 pp') 11 li') 12 ty') 16 mk') 17 gv') 20 cu') 21 ct') 22 od') (uf (uf (uf fl 15 rs') 18 tl') 19 tt') tx ∧ (∀ k : Int, 0 ≤ k → k < 4 → 0 ≤ gv' k ∧ gv' k ≤ 4) ∧ 0 ≤ mv' ∧ (∀ j : Int, 0 ≤ j → j < 72000 → 0 ≤ mk' j ∧ mk' j ≤ mv') ∧ (mv ≤ mv' ∧ mv' ≤ mv + 307200) ∧ (0 ≤ tmn' ∧ tmn' ≤ 200) ∧ lsI 0 od' = p ∧ gcX (gcA (fun l r => thR w K tr len pi_ prr (fun c k => pu (4 * c + k)) l (fun v => v = till) r) p left) to ha to' ha') (none) (cmH (u1 (u1 (u1 (u1 (u1 (u1 (u1 (u1 (u1 (u1 (u1 z 21 K) 22 pi_) 23 len) 24 tr) 28 M) 39 rm_9) 40 mv_12) 46 tmn_16) 47 tm_13) 56 ha_3) 57 to_2) zl (uf (uf (uf (uf (uf (uf (uf (uf (uf (uf (uf f 5 va) 8 prr) 9 pu) 10 pp_5) 11 li_6) 12 ty_7) 16 mk_11) 17 gv_8) 20 cu_18) 21 ct_15) 22 od_4) (uf (uf (uf fl 15 rs_10) 18 tl_17) 19 tt_14) tx)
    exact ⟨_, _, _, _, _, _, _, _, _, _, _, _, _, _, _, _, _, rfl, rfl, f19, f20, f21, f22, f23, f24, f25⟩
  · refine Rx.walk 3 (pc' := 9) (L' := [some (.ref 0), some (.int (iz left)), some (.int (iz 0)), some (.long (jz till)), none, none]) (st' := [.int (iz to), .ref 0]) (h' := cmH (u1 (u1 (u1 (u1 (u1 (u1 (u1 (u1 (u1 (u1 (u1 z 21 K) 22 pi_) 23 len) 24 tr) 28 M) 39 rm) 40 mv) 46 tmn) 47 tm) 56 ha) 57 to) zl (uf (uf (uf (uf (uf (uf (uf (uf (uf (uf (uf f 5 va) 8 prr) 9 pu) 10 pp) 11 li) 12 ty) 16 mk) 17 gv) 20 cu) 21 ct) 22 od) (uf (uf (uf fl 15 rs) 18 tl) 19 tt) tx) rfl ?_
    refine Rx.eq1 rfl rfl ⟨by omega, by omega⟩ (fun b26 => ?_) (fun b26 => ?_)
    · refine Rx.walk 5 (pc' := 34) (L' := [some (.ref 0), some (.int (iz left)), some (.int (iz 0)), some (.long (jz till)), none, none]) (st' := [.int (iz ha), .ref 0]) (h' := cmH (u1 (u1 (u1 (u1 (u1 (u1 (u1 (u1 (u1 (u1 (u1 z 21 K) 22 pi_) 23 len) 24 tr) 28 M) 39 rm) 40 mv) 46 tmn) 47 tm) 56 ha) 57 0) zl (uf (uf (uf (uf (uf (uf (uf (uf (uf (uf (uf f 5 va) 8 prr) 9 pu) 10 pp) 11 li) 12 ty) 16 mk) 17 gv) 20 cu) 21 ct) 22 od) (uf (uf (uf fl 15 rs) 18 tl) 19 tt) tx) rfl ?_
      refine Rx.ne1 rfl rfl ⟨by omega, by omega⟩ (fun b27 => ?_) (fun b27 => ?_)
      · refine Rx.walk 3 (pc' := 59) (L' := [some (.ref 0), some (.int (iz left)), some (.int (iz 0)), some (.long (jz till)), none, none]) (st' := []) (h' := cmH (u1 (u1 (u1 (u1 (u1 (u1 (u1 (u1 (u1 (u1 (u1 z 21 K) 22 pi_) 23 len) 24 tr) 28 M) 39 rm) 40 mv) 46 tmn) 47 tm) 56 1) 57 0) zl (uf (uf (uf (uf (uf (uf (uf (uf (uf (uf (uf f 5 va) 8 prr) 9 pu) 10 pp) 11 li) 12 ty) 16 mk) 17 gv) 20 cu) 21 ct) 22 od) (uf (uf (uf fl 15 rs) 18 tl) 19 tt) tx) rfl ?_
        refine Rx.ret rfl ?_
        have hl0 : left = 0 := by omega
        subst hl0
        refine ⟨_, _, _, _, _, _, _, _, _, _, _, _, _, _, _, _, _, rfl, rfl, hg, hmv, hmk, ⟨by omega, by omega⟩, htn, hod, ⟨by omega, by omega, fun q => by omega, fun q => Or.inl (by omega)⟩⟩
      · refine Rx.walk 2 (pc' := 41) (L' := [some (.ref 0), some (.int (iz left)), some (.int (iz 0)), some (.long (jz till)), none, none]) (st' := [.int (iz 0), .ref 0]) (h' := cmH (u1 (u1 (u1 (u1 (u1 (u1 (u1 (u1 (u1 (u1 (u1 z 21 K) 22 pi_) 23 len) 24 tr) 28 M) 39 rm) 40 mv) 46 tmn) 47 tm) 56 ha) 57 0) zl (uf (uf (uf (uf (uf (uf (uf (uf (uf (uf (uf f 5 va) 8 prr) 9 pu) 10 pp) 11 li) 12 ty) 16 mk) 17 gv) 20 cu) 21 ct) 22 od) (uf (uf (uf fl 15 rs) 18 tl) 19 tt) tx) rfl ?_
        refine Rx.eq1 rfl rfl ⟨by omega, by omega⟩ (fun b28 => ?_) (fun b28 => by omega)
        refine Rx.walk 2 (pc' := 59) (L' := [some (.ref 0), some (.int (iz left)), some (.int (iz 0)), some (.long (jz till)), none, none]) (st' := []) (h' := cmH (u1 (u1 (u1 (u1 (u1 (u1 (u1 (u1 (u1 (u1 (u1 z 21 K) 22 pi_) 23 len) 24 tr) 28 M) 39 rm) 40 mv) 46 tmn) 47 tm) 56 0) 57 0) zl (uf (uf (uf (uf (uf (uf (uf (uf (uf (uf (uf f 5 va) 8 prr) 9 pu) 10 pp) 11 li) 12 ty) 16 mk) 17 gv) 20 cu) 21 ct) 22 od) (uf (uf (uf fl 15 rs) 18 tl) 19 tt) tx) rfl ?_
        refine Rx.ret rfl ?_
        have hl0 : left = 0 := by omega
        subst hl0
        refine ⟨_, _, _, _, _, _, _, _, _, _, _, _, _, _, _, _, _, rfl, rfl, hg, hmv, hmk, ⟨by omega, by omega⟩, htn, hod, ⟨by omega, by omega, fun q => by omega, fun q => Or.inl (by omega)⟩⟩
    · refine Rx.walk 3 (pc' := 15) (L' := [some (.ref 0), some (.int (iz left)), some (.int (iz 0)), some (.long (jz till)), none, none]) (st' := [.int (iz 0), .long (jz till), .ref 0, .ref 0]) (h' := cmH (u1 (u1 (u1 (u1 (u1 (u1 (u1 (u1 (u1 (u1 (u1 z 21 K) 22 pi_) 23 len) 24 tr) 28 M) 39 rm) 40 mv) 46 tmn) 47 tm) 56 ha) 57 to) zl (uf (uf (uf (uf (uf (uf (uf (uf (uf (uf (uf f 5 va) 8 prr) 9 pu) 10 pp) 11 li) 12 ty) 16 mk) 17 gv) 20 cu) 21 ct) 22 od) (uf (uf (uf fl 15 rs) 18 tl) 19 tt) tx) rfl ?_
      refine Rx.callx (m' := m_X12_goOrder) (as := [.ref 0, .long (jz till), .int (iz 0)]) (rest := [.ref 0]) rfl (m_goOrder _ (u1 (u1 (u1 (u1 (u1 (u1 (u1 (u1 (u1 (u1 (u1 z 21 K) 22 pi_) 23 len) 24 tr) 28 M) 39 rm) 40 mv) 46 tmn) 47 tm) 56 ha) 57 to) zl (uf (uf (uf (uf (uf (uf (uf (uf (uf (uf (uf f 5 va) 8 prr) 9 pu) 10 pp) 11 li) 12 ty) 16 mk) 17 gv) 20 cu) 21 ct) 22 od) (uf (uf (uf fl 15 rs) 18 tl) 19 tt) tx  till 0 od M K len pi_ tr va w pu prr tmn tl cu pp li ty gv rm rs mk mv tm tt ct (by first | assumption | omega) (by first | assumption | omega) (by first | assumption | omega) (by first | assumption | omega) (by first | assumption | omega) (by first | assumption | omega) (by first | assumption | omega) (by first | assumption | omega) ⟨by omega, by omega⟩ (fun i a b => lsI_in hod hin.1 i a (by omega)) hvt hg (by first | assumption | omega) hmk (by omega)) (fun v50 h51 q52 => ?_)
      obtain ⟨r_29, pp_30, li_31, ty_32, gv_33, rm_34, rs_35, mk_36, mv_37, tm_38, tt_39, ct_40, tmn_41, tl_42, cu_43, rfl, rfl, f44, f45, f46, f47, f48, f49⟩ := q52
      refine Rx.walk 0 (pc' := 18) (L' := [some (.ref 0), some (.int (iz left)), some (.int (iz 0)), some (.long (jz till)), none, none]) (st' := [.int (iz r_29), .ref 0]) (h' := cmH (u1 (u1 (u1 (u1 (u1 (u1 (u1 (u1 (u1 (u1 (u1 z 21 K) 22 pi_) 23 len) 24 tr) 28 M) 39 rm_34) 40 mv_37) 46 tmn_41) 47 tm_38) 56 ha) 57 to) zl (uf (uf (uf (uf (uf (uf (uf (uf (uf (uf (uf f 5 va) 8 prr) 9 pu) 10 pp_30) 11 li_31) 12 ty_32) 16 mk_36) 17 gv_33) 20 cu_43) 21 ct_40) 22 od) (uf (uf (uf fl 15 rs_35) 18 tl_42) 19 tt_39) tx) rfl ?_
      refine Rx.eq1 rfl rfl ⟨by omega, by omega⟩ (fun b53 => ?_) (fun b53 => ?_)
      · refine Rx.walk 5 (pc' := 34) (L' := [some (.ref 0), some (.int (iz left)), some (.int (iz 0)), some (.long (jz till)), none, none]) (st' := [.int (iz ha), .ref 0]) (h' := cmH (u1 (u1 (u1 (u1 (u1 (u1 (u1 (u1 (u1 (u1 (u1 z 21 K) 22 pi_) 23 len) 24 tr) 28 M) 39 rm_34) 40 mv_37) 46 tmn_41) 47 tm_38) 56 ha) 57 0) zl (uf (uf (uf (uf (uf (uf (uf (uf (uf (uf (uf f 5 va) 8 prr) 9 pu) 10 pp_30) 11 li_31) 12 ty_32) 16 mk_36) 17 gv_33) 20 cu_43) 21 ct_40) 22 od) (uf (uf (uf fl 15 rs_35) 18 tl_42) 19 tt_39) tx) rfl ?_
        refine Rx.ne1 rfl rfl ⟨by omega, by omega⟩ (fun b54 => ?_) (fun b54 => ?_)
        · refine Rx.walk 3 (pc' := 59) (L' := [some (.ref 0), some (.int (iz left)), some (.int (iz 0)), some (.long (jz till)), none, none]) (st' := []) (h' := cmH (u1 (u1 (u1 (u1 (u1 (u1 (u1 (u1 (u1 (u1 (u1 z 21 K) 22 pi_) 23 len) 24 tr) 28 M) 39 rm_34) 40 mv_37) 46 tmn_41) 47 tm_38) 56 1) 57 0) zl (uf (uf (uf (uf (uf (uf (uf (uf (uf (uf (uf f 5 va) 8 prr) 9 pu) 10 pp_30) 11 li_31) 12 ty_32) 16 mk_36) 17 gv_33) 20 cu_43) 21 ct_40) 22 od) (uf (uf (uf fl 15 rs_35) 18 tl_42) 19 tt_39) tx) rfl ?_
          refine Rx.ret rfl ?_
          have hl0 : left = 0 := by omega
          subst hl0
          refine ⟨_, _, _, _, _, _, _, _, _, _, _, _, _, _, _, _, _, rfl, rfl, f44, f45, f46, ⟨by omega, by omega⟩, f48, hod, ⟨by omega, by omega, ?_, ?_⟩⟩
          · exact fun q => by omega
          · intro _
            refine Or.inr ⟨[], eL_0.mpr rfl, ?_⟩
            rw [List.append_nil, ← hod]
            rcases f49 with q | q
            · exact q.2
            · exfalso; omega
        · refine Rx.walk 2 (pc' := 41) (L' := [some (.ref 0), some (.int (iz left)), some (.int (iz 0)), some (.long (jz till)), none, none]) (st' := [.int (iz 0), .ref 0]) (h' := cmH (u1 (u1 (u1 (u1 (u1 (u1 (u1 (u1 (u1 (u1 (u1 z 21 K) 22 pi_) 23 len) 24 tr) 28 M) 39 rm_34) 40 mv_37) 46 tmn_41) 47 tm_38) 56 ha) 57 0) zl (uf (uf (uf (uf (uf (uf (uf (uf (uf (uf (uf f 5 va) 8 prr) 9 pu) 10 pp_30) 11 li_31) 12 ty_32) 16 mk_36) 17 gv_33) 20 cu_43) 21 ct_40) 22 od) (uf (uf (uf fl 15 rs_35) 18 tl_42) 19 tt_39) tx) rfl ?_
          refine Rx.eq1 rfl rfl ⟨by omega, by omega⟩ (fun b55 => ?_) (fun b55 => by omega)
          refine Rx.walk 2 (pc' := 59) (L' := [some (.ref 0), some (.int (iz left)), some (.int (iz 0)), some (.long (jz till)), none, none]) (st' := []) (h' := cmH (u1 (u1 (u1 (u1 (u1 (u1 (u1 (u1 (u1 (u1 (u1 z 21 K) 22 pi_) 23 len) 24 tr) 28 M) 39 rm_34) 40 mv_37) 46 tmn_41) 47 tm_38) 56 0) 57 0) zl (uf (uf (uf (uf (uf (uf (uf (uf (uf (uf (uf f 5 va) 8 prr) 9 pu) 10 pp_30) 11 li_31) 12 ty_32) 16 mk_36) 17 gv_33) 20 cu_43) 21 ct_40) 22 od) (uf (uf (uf fl 15 rs_35) 18 tl_42) 19 tt_39) tx) rfl ?_
          refine Rx.ret rfl ?_
          have hl0 : left = 0 := by omega
          subst hl0
          refine ⟨_, _, _, _, _, _, _, _, _, _, _, _, _, _, _, _, _, rfl, rfl, f44, f45, f46, ⟨by omega, by omega⟩, f48, hod, ⟨by omega, by omega, ?_, ?_⟩⟩
          · exact fun q => by omega
          · intro _
            refine Or.inr ⟨[], eL_0.mpr rfl, ?_⟩
            rw [List.append_nil, ← hod]
            rcases f49 with q | q
            · exact q.2
            · exfalso; omega
      · refine Rx.walk 6 (pc' := 34) (L' := [some (.ref 0), some (.int (iz left)), some (.int (iz 0)), some (.long (jz till)), none, none]) (st' := [.int (iz ha), .ref 0]) (h' := cmH (u1 (u1 (u1 (u1 (u1 (u1 (u1 (u1 (u1 (u1 (u1 z 21 K) 22 pi_) 23 len) 24 tr) 28 M) 39 rm_34) 40 mv_37) 46 tmn_41) 47 tm_38) 56 ha) 57 1) zl (uf (uf (uf (uf (uf (uf (uf (uf (uf (uf (uf f 5 va) 8 prr) 9 pu) 10 pp_30) 11 li_31) 12 ty_32) 16 mk_36) 17 gv_33) 20 cu_43) 21 ct_40) 22 od) (uf (uf (uf fl 15 rs_35) 18 tl_42) 19 tt_39) tx) rfl ?_
        refine Rx.ne1 rfl rfl ⟨by omega, by omega⟩ (fun b56 => ?_) (fun b56 => ?_)
        · refine Rx.walk 3 (pc' := 59) (L' := [some (.ref 0), some (.int (iz left)), some (.int (iz 0)), some (.long (jz till)), none, none]) (st' := []) (h' := cmH (u1 (u1 (u1 (u1 (u1 (u1 (u1 (u1 (u1 (u1 (u1 z 21 K) 22 pi_) 23 len) 24 tr) 28 M) 39 rm_34) 40 mv_37) 46 tmn_41) 47 tm_38) 56 1) 57 1) zl (uf (uf (uf (uf (uf (uf (uf (uf (uf (uf (uf f 5 va) 8 prr) 9 pu) 10 pp_30) 11 li_31) 12 ty_32) 16 mk_36) 17 gv_33) 20 cu_43) 21 ct_40) 22 od) (uf (uf (uf fl 15 rs_35) 18 tl_42) 19 tt_39) tx) rfl ?_
          refine Rx.ret rfl ?_
          have hl0 : left = 0 := by omega
          subst hl0
          obtain ⟨-, hx1, -⟩ : r_29 = 1 ∧ _ ∧ _ := by rcases f49 with q | q; (exfalso; omega); exact q
          have hx2 : (fun l r => thR w K tr len pi_ prr (fun c k => pu (4 * c + k)) l (fun v => v = till) r) p (if 0 < tmn_41 then 1 else 0) := by rw [← hod]; exact hx1
          have huq : ∀ l a b, (fun l r => thR w K tr len pi_ prr (fun c k => pu (4 * c + k)) l (fun v => v = till) r) l a → (fun l r => thR w K tr len pi_ prr (fun c k => pu (4 * c + k)) l (fun v => v = till) r) l b → a = b := fun l a b x y => thR_uq x y
          refine ⟨_, _, _, _, _, _, _, _, _, _, _, _, _, _, _, _, _, rfl, rfl, f44, f45, f46, ⟨by omega, by omega⟩, f48, hod, ⟨by omega, by omega, ?_, ?_⟩⟩
          · intro _
            refine ⟨by omega, ?_, ?_⟩
            · rintro ⟨e, e1, e2⟩
              rw [eL_0.mp e1, List.append_nil] at e2
              have := huq _ _ _ e2 hx2
              split at this <;> omega
            · constructor
              · intro _
                by_cases hq : ha = 1
                · exact Or.inl hq
                · refine Or.inr ⟨[], eL_0.mpr rfl, ?_⟩
                  rw [List.append_nil]
                  rw [if_pos (by omega)] at hx2
                  exact hx2
              · rintro (q | ⟨e, e1, e2⟩)
                · omega
                · have e3 : (fun l r => thR w K tr len pi_ prr (fun c k => pu (4 * c + k)) l (fun v => v = till) r) p 1 := by have e4 := e2; rw [eL_0.mp e1, List.append_nil] at e4; exact e4
                  have := huq _ _ _ e3 hx2
                  split at this <;> omega
          · intro q; omega
        · refine Rx.walk 2 (pc' := 41) (L' := [some (.ref 0), some (.int (iz left)), some (.int (iz 0)), some (.long (jz till)), none, none]) (st' := [.int (iz 1), .ref 0]) (h' := cmH (u1 (u1 (u1 (u1 (u1 (u1 (u1 (u1 (u1 (u1 (u1 z 21 K) 22 pi_) 23 len) 24 tr) 28 M) 39 rm_34) 40 mv_37) 46 tmn_41) 47 tm_38) 56 ha) 57 1) zl (uf (uf (uf (uf (uf (uf (uf (uf (uf (uf (uf f 5 va) 8 prr) 9 pu) 10 pp_30) 11 li_31) 12 ty_32) 16 mk_36) 17 gv_33) 20 cu_43) 21 ct_40) 22 od) (uf (uf (uf fl 15 rs_35) 18 tl_42) 19 tt_39) tx) rfl ?_
          refine Rx.eq1 rfl rfl ⟨by omega, by omega⟩ (fun b57 => by omega) (fun b57 => ?_)
          refine Rx.walk 2 (pc' := 48) (L' := [some (.ref 0), some (.int (iz left)), some (.int (iz 0)), some (.long (jz till)), none, none]) (st' := [.int (iz tmn_41), .ref 0]) (h' := cmH (u1 (u1 (u1 (u1 (u1 (u1 (u1 (u1 (u1 (u1 (u1 z 21 K) 22 pi_) 23 len) 24 tr) 28 M) 39 rm_34) 40 mv_37) 46 tmn_41) 47 tm_38) 56 ha) 57 1) zl (uf (uf (uf (uf (uf (uf (uf (uf (uf (uf (uf f 5 va) 8 prr) 9 pu) 10 pp_30) 11 li_31) 12 ty_32) 16 mk_36) 17 gv_33) 20 cu_43) 21 ct_40) 22 od) (uf (uf (uf fl 15 rs_35) 18 tl_42) 19 tt_39) tx) rfl ?_
          refine Rx.le1 rfl rfl ⟨by omega, by omega⟩ (fun b58 => ?_) (fun b58 => ?_)
          · refine Rx.walk 2 (pc' := 59) (L' := [some (.ref 0), some (.int (iz left)), some (.int (iz 0)), some (.long (jz till)), none, none]) (st' := []) (h' := cmH (u1 (u1 (u1 (u1 (u1 (u1 (u1 (u1 (u1 (u1 (u1 z 21 K) 22 pi_) 23 len) 24 tr) 28 M) 39 rm_34) 40 mv_37) 46 tmn_41) 47 tm_38) 56 0) 57 1) zl (uf (uf (uf (uf (uf (uf (uf (uf (uf (uf (uf f 5 va) 8 prr) 9 pu) 10 pp_30) 11 li_31) 12 ty_32) 16 mk_36) 17 gv_33) 20 cu_43) 21 ct_40) 22 od) (uf (uf (uf fl 15 rs_35) 18 tl_42) 19 tt_39) tx) rfl ?_
            refine Rx.ret rfl ?_
            have hl0 : left = 0 := by omega
            subst hl0
            obtain ⟨-, hx1, -⟩ : r_29 = 1 ∧ _ ∧ _ := by rcases f49 with q | q; (exfalso; omega); exact q
            have hx2 : (fun l r => thR w K tr len pi_ prr (fun c k => pu (4 * c + k)) l (fun v => v = till) r) p (if 0 < tmn_41 then 1 else 0) := by rw [← hod]; exact hx1
            have huq : ∀ l a b, (fun l r => thR w K tr len pi_ prr (fun c k => pu (4 * c + k)) l (fun v => v = till) r) l a → (fun l r => thR w K tr len pi_ prr (fun c k => pu (4 * c + k)) l (fun v => v = till) r) l b → a = b := fun l a b x y => thR_uq x y
            refine ⟨_, _, _, _, _, _, _, _, _, _, _, _, _, _, _, _, _, rfl, rfl, f44, f45, f46, ⟨by omega, by omega⟩, f48, hod, ⟨by omega, by omega, ?_, ?_⟩⟩
            · intro _
              refine ⟨by omega, ?_, ?_⟩
              · rintro ⟨e, e1, e2⟩
                rw [eL_0.mp e1, List.append_nil] at e2
                have := huq _ _ _ e2 hx2
                split at this <;> omega
              · constructor
                · intro _
                  by_cases hq : ha = 1
                  · exact Or.inl hq
                  · refine Or.inr ⟨[], eL_0.mpr rfl, ?_⟩
                    rw [List.append_nil]
                    rw [if_pos (by omega)] at hx2
                    exact hx2
                · rintro (q | ⟨e, e1, e2⟩)
                  · omega
                  · have e3 : (fun l r => thR w K tr len pi_ prr (fun c k => pu (4 * c + k)) l (fun v => v = till) r) p 1 := by have e4 := e2; rw [eL_0.mp e1, List.append_nil] at e4; exact e4
                    have := huq _ _ _ e3 hx2
                    split at this <;> omega
            · intro q; omega
          · refine Rx.walk 3 (pc' := 59) (L' := [some (.ref 0), some (.int (iz left)), some (.int (iz 0)), some (.long (jz till)), none, none]) (st' := []) (h' := cmH (u1 (u1 (u1 (u1 (u1 (u1 (u1 (u1 (u1 (u1 (u1 z 21 K) 22 pi_) 23 len) 24 tr) 28 M) 39 rm_34) 40 mv_37) 46 tmn_41) 47 tm_38) 56 1) 57 1) zl (uf (uf (uf (uf (uf (uf (uf (uf (uf (uf (uf f 5 va) 8 prr) 9 pu) 10 pp_30) 11 li_31) 12 ty_32) 16 mk_36) 17 gv_33) 20 cu_43) 21 ct_40) 22 od) (uf (uf (uf fl 15 rs_35) 18 tl_42) 19 tt_39) tx) rfl ?_
            refine Rx.ret rfl ?_
            have hl0 : left = 0 := by omega
            subst hl0
            obtain ⟨-, hx1, -⟩ : r_29 = 1 ∧ _ ∧ _ := by rcases f49 with q | q; (exfalso; omega); exact q
            have hx2 : (fun l r => thR w K tr len pi_ prr (fun c k => pu (4 * c + k)) l (fun v => v = till) r) p (if 0 < tmn_41 then 1 else 0) := by rw [← hod]; exact hx1
            have huq : ∀ l a b, (fun l r => thR w K tr len pi_ prr (fun c k => pu (4 * c + k)) l (fun v => v = till) r) l a → (fun l r => thR w K tr len pi_ prr (fun c k => pu (4 * c + k)) l (fun v => v = till) r) l b → a = b := fun l a b x y => thR_uq x y
            refine ⟨_, _, _, _, _, _, _, _, _, _, _, _, _, _, _, _, _, rfl, rfl, f44, f45, f46, ⟨by omega, by omega⟩, f48, hod, ⟨by omega, by omega, ?_, ?_⟩⟩
            · intro _
              refine ⟨by omega, ?_, ?_⟩
              · rintro ⟨e, e1, e2⟩
                rw [eL_0.mp e1, List.append_nil] at e2
                have := huq _ _ _ e2 hx2
                split at this <;> omega
              · constructor
                · intro _
                  by_cases hq : ha = 1
                  · exact Or.inl hq
                  · refine Or.inr ⟨[], eL_0.mpr rfl, ?_⟩
                    rw [List.append_nil]
                    rw [if_pos (by omega)] at hx2
                    exact hx2
                · rintro (q | ⟨e, e1, e2⟩)
                  · omega
                  · have e3 : (fun l r => thR w K tr len pi_ prr (fun c k => pu (4 * c + k)) l (fun v => v = till) r) p 1 := by have e4 := e2; rw [eL_0.mp e1, List.append_nil] at e4; exact e4
                    have := huq _ _ _ e3 hx2
                    split at this <;> omega
            · intro q; omega
set_option maxRecDepth 100000 in
set_option maxHeartbeats 4000000 in
theorem m_chain_l (d : Nat) (z : Nat → Int) (zl : Nat → Int) (f : Nat → Int → Int) (fl : Nat → Int → Int) (tx : Nat)  (till : Int) (M : Int) (K : Int) (len : Int) (pi_ : Int) (tr : Int) (va : Int → Int) (w : Int → Int) (pu : Int → Int) (prr : Int → Int) (mv0 : Int) (hK : 1 ≤ K) (hlen : 1 ≤ len ∧ len ≤ 5) (hpi : 1 ≤ pi_ ∧ pi_ ≤ 2) (htr : 0 ≤ tr ∧ tr ≤ 1) (hw : wOK w) (hva : ∀ k : Int, 0 ≤ k → k < K → va k = w (k + 1)) (hK4 : K ≤ 4) (hcm : cuM K M pu prr) (hvt : vT K len pi_ till) (hM1 : 1 ≤ M) (hmv0 : mv0 + 4915200 < 2147483648) (P : Option Value → AmH → Prop) (hx0 : ∀ (b' : Int) (s' : Int) (to' : Int) (ha' : Int) (od' : Int → Int) (pp' : Int → Int) (li' : Int → Int) (ty' : Int → Int) (gv' : Int → Int) (rm' : Int) (rs' : Int → Int) (mk' : Int → Int) (mv' : Int) (tm' : Int) (tt' : Int → Int) (ct' : Int → Int) (tmn' : Int) (tl' : Int → Int) (cu' : Int → Int), (∀ k : Int, 0 ≤ k → k < 4 → 0 ≤ gv' k ∧ gv' k ≤ 4) → (0 ≤ mv') → (∀ j : Int, 0 ≤ j → j < 72000 → 0 ≤ mk' j ∧ mk' j ≤ mv') → (mv0 ≤ mv' ∧ mv' ≤ mv0 + 4915200) → (0 ≤ tmn' ∧ tmn' ≤ 200) → (to' = 0 ∨ to' = 1) → (ha' = 0 ∨ ha' = 1) → (0 ≤ b' ∧ b' < 16) → (to' = 1 → chnR (fun l r => thR w K tr len pi_ prr (fun c k => pu (4 * c + k)) l (fun v => v = till) r) M b') → (to' = 0 → chnR (fun l r => thR w K tr len pi_ prr (fun c k => pu (4 * c + k)) l (fun v => v = till) r) M (-2)) → Rx (d + 58) m_X12_chain 88 [some (.ref 0), some (.long (jz till)), none, some (.int (iz b')), some (.int (iz s'))] [] (cmH (u1 (u1 (u1 (u1 (u1 (u1 (u1 (u1 (u1 (u1 (u1 z 21 K) 22 pi_) 23 len) 24 tr) 28 M) 39 rm') 40 mv') 46 tmn') 47 tm') 56 ha') 57 to') zl (uf (uf (uf (uf (uf (uf (uf (uf (uf (uf (uf f 5 va) 8 prr) 9 pu) 10 pp') 11 li') 12 ty') 16 mk') 17 gv') 20 cu') 21 ct') 22 od') (uf (uf (uf fl 15 rs') 18 tl') 19 tt') tx) P) : ∀ (kF : Nat) (s : Int) (b : Int) (to : Int) (ha : Int) (od : Int → Int) (tmn : Int) (tl : Int → Int) (cu : Int → Int) (pp : Int → Int) (li : Int → Int) (ty : Int → Int) (gv : Int → Int) (rm : Int) (rs : Int → Int) (mk : Int → Int) (mv : Int) (tm : Int) (tt : Int → Int) (ct : Int → Int), (0 ≤ s) → (s ≤ pw2 M) → (0 ≤ b ∧ b ≤ s ∧ b < 16) → (to = 0 ∨ to = 1) → (ha = 0 ∨ ha = 1) → (mv0 ≤ mv ∧ mv ≤ mv0 + 307200 * s) → (∀ k : Int, 0 ≤ k → k < 4 → 0 ≤ gv k ∧ gv k ≤ 4) → (0 ≤ mv) → (∀ j : Int, 0 ≤ j → j < 72000 → 0 ≤ mk j ∧ mk j ≤ mv) → (0 ≤ tmn ∧ tmn ≤ 200) → (to = 1 → bst 0 (fun x => ∃ e, okL M e ∧ (fun l r => thR w K tr len pi_ prr (fun c k => pu (4 * c + k)) l (fun v => v = till) r) e 1 ∧ x = sO e ∧ x < s) b ∧ ¬ ∃ e, okL M e ∧ (fun l r => thR w K tr len pi_ prr (fun c k => pu (4 * c + k)) l (fun v => v = till) r) e (-2) ∧ sO e < s) → (to = 0 → ∃ e, okL M e ∧ (fun l r => thR w K tr len pi_ prr (fun c k => pu (4 * c + k)) l (fun v => v = till) r) e (-2)) → (16 - s) < (kF : Int) → Rx (d + 58) m_X12_chain 29 [some (.ref 0), some (.long (jz till)), none, some (.int (iz b)), some (.int (iz s))] [] (cmH (u1 (u1 (u1 (u1 (u1 (u1 (u1 (u1 (u1 (u1 (u1 z 21 K) 22 pi_) 23 len) 24 tr) 28 M) 39 rm) 40 mv) 46 tmn) 47 tm) 56 ha) 57 to) zl (uf (uf (uf (uf (uf (uf (uf (uf (uf (uf (uf f 5 va) 8 prr) 9 pu) 10 pp) 11 li) 12 ty) 16 mk) 17 gv) 20 cu) 21 ct) 22 od) (uf (uf (uf fl 15 rs) 18 tl) 19 tt) tx) P := by
  have hM0 := hcm.1
  have hM4 := hcm.2.1
  have hpw := pw2_b M
  intro kF
  induction kF with
  | zero =>
    intro s b to ha od tmn tl cu pp li ty gv rm rs mk mv tm tt ct s0 s1 hbb hto hha hmq hg hmv hmk htn hp1 hp0 hk
    exfalso; omega
  | succ kF ih =>
    intro s b to ha od tmn tl cu pp li ty gv rm rs mk mv tm tt ct s0 s1 hbb hto hha hmq hg hmv hmk htn hp1 hp0 hk
    refine Rx.walk 4 (pc' := 36) (L' := [some (.ref 0), some (.long (jz till)), none, some (.int (iz b)), some (.int (iz s))]) (st' := [.int (iz M), .int (iz 1), .int (iz s)]) (h' := cmH (u1 (u1 (u1 (u1 (u1 (u1 (u1 (u1 (u1 (u1 (u1 z 21 K) 22 pi_) 23 len) 24 tr) 28 M) 39 rm) 40 mv) 46 tmn) 47 tm) 56 ha) 57 to) zl (uf (uf (uf (uf (uf (uf (uf (uf (uf (uf (uf f 5 va) 8 prr) 9 pu) 10 pp) 11 li) 12 ty) 16 mk) 17 gv) 20 cu) 21 ct) 22 od) (uf (uf (uf fl 15 rs) 18 tl) 19 tt) tx) rfl ?_
    refine Rx.ishl (c := (pw2 M)) rfl (pw2_shl (by omega) (by omega)) ?_
    refine Rx.ge2 rfl rfl ⟨by omega, by omega⟩ ⟨by omega, by omega⟩ (fun b1 => ?_) (fun b1 => ?_)
    · exact hx0 _ _ _ _ _ _ _ _ _ _ _ _ _ _ _ _ _ _ _ hg hmv hmk ⟨by omega, by omega⟩ htn hto hha ⟨hbb.1, hbb.2.2⟩ (fun hz => by obtain ⟨hpa, hpb⟩ := hp1 hz; exact Or.inr ⟨fun ⟨e, e1, e2⟩ => hpb ⟨e, e1, e2, by have := sO_M hM0 hM4 e1; omega⟩, bst_c hpa (fun x => ⟨fun ⟨e, e1, e2, e3⟩ => ⟨e, e1, e2, e3, by have := sO_M hM0 hM4 e1; omega⟩, fun ⟨e, e1, e2, e3, _⟩ => ⟨e, e1, e2, e3⟩⟩)⟩) (fun hz => Or.inl ⟨hp0 hz, rfl⟩)
    · refine Rx.walk 2 (pc' := 44) (L' := [some (.ref 0), some (.long (jz till)), none, some (.int (iz b)), some (.int (iz s))]) (st' := [.int (iz to)]) (h' := cmH (u1 (u1 (u1 (u1 (u1 (u1 (u1 (u1 (u1 (u1 (u1 z 21 K) 22 pi_) 23 len) 24 tr) 28 M) 39 rm) 40 mv) 46 tmn) 47 tm) 56 ha) 57 to) zl (uf (uf (uf (uf (uf (uf (uf (uf (uf (uf (uf f 5 va) 8 prr) 9 pu) 10 pp) 11 li) 12 ty) 16 mk) 17 gv) 20 cu) 21 ct) 22 od) (uf (uf (uf fl 15 rs) 18 tl) 19 tt) tx) rfl ?_
      refine Rx.eq1 rfl rfl ⟨by omega, by omega⟩ (fun b2 => ?_) (fun b2 => ?_)
      · exact hx0 _ _ _ _ _ _ _ _ _ _ _ _ _ _ _ _ _ _ _ hg hmv hmk ⟨by omega, by omega⟩ htn hto hha ⟨hbb.1, hbb.2.2⟩ (fun hz => by omega) (fun hz => Or.inl ⟨hp0 hz, rfl⟩)
      · refine Rx.walk 7 (pc' := 57) (L' := [some (.ref 0), some (.long (jz till)), none, some (.int (iz b)), some (.int (iz s))]) (st' := [.long (jz till), .int (iz 0), .int (iz s), .ref 0]) (h' := cmH (u1 (u1 (u1 (u1 (u1 (u1 (u1 (u1 (u1 (u1 (u1 z 21 K) 22 pi_) 23 len) 24 tr) 28 M) 39 rm) 40 mv) 46 tmn) 47 tm) 56 0) 57 to) zl (uf (uf (uf (uf (uf (uf (uf (uf (uf (uf (uf f 5 va) 8 prr) 9 pu) 10 pp) 11 li) 12 ty) 16 mk) 17 gv) 20 cu) 21 ct) 22 od) (uf (uf (uf fl 15 rs) 18 tl) 19 tt) tx) rfl ?_
        refine Rx.callx (m' := m_X12_goChain) (as := [.ref 0, .int (iz s), .int (iz 0), .long (jz till)]) (rest := []) rfl (m_goChain0 _ (u1 (u1 (u1 (u1 (u1 (u1 (u1 (u1 (u1 (u1 (u1 z 21 K) 22 pi_) 23 len) 24 tr) 28 M) 39 rm) 40 mv) 46 tmn) 47 tm) 56 0) 57 to) zl (uf (uf (uf (uf (uf (uf (uf (uf (uf (uf (uf f 5 va) 8 prr) 9 pu) 10 pp) 11 li) 12 ty) 16 mk) 17 gv) 20 cu) 21 ct) 22 od) (uf (uf (uf fl 15 rs) 18 tl) 19 tt) tx  s [] till M K len pi_ tr va w pu prr to 0 od tmn tl cu pp li ty gv rm rs mk mv tm tt ct (by first | assumption | omega) (by first | assumption | omega) (by first | assumption | omega) (by first | assumption | omega) (by first | assumption | omega) (by first | assumption | omega) (by first | assumption | omega) (by first | assumption | omega) (by first | assumption | omega) ⟨fun x hx => absurd hx (by simp), rfl⟩ ⟨s0, by omega⟩ ((pw2_hb hM0 hM4 s0 (by omega)).mp (by omega)) (by have a0 := hb_b s 0; have a1 := hb_b s 1; have a2 := hb_b s 2; have a3 := hb_b s 3; simp [rb]; omega) hg hmv hmk htn rfl hto (Or.inl rfl) (by omega)) (fun v27 h28 q29 => ?_)
        obtain ⟨to_3, ha_4, od_5, pp_6, li_7, ty_8, gv_9, rm_10, rs_11, mk_12, mv_13, tm_14, tt_15, ct_16, tmn_17, tl_18, cu_19, rfl, rfl, f20, f21, f22, f23, f24, f25, f26⟩ := q29
        refine Rx.walk 0 (pc' := 60) (L' := [some (.ref 0), some (.long (jz till)), none, some (.int (iz b)), some (.int (iz s))]) (st' := []) (h' := cmH (u1 (u1 (u1 (u1 (u1 (u1 (u1 (u1 (u1 (u1 (u1 z 21 K) 22 pi_) 23 len) 24 tr) 28 M) 39 rm_10) 40 mv_13) 46 tmn_17) 47 tm_14) 56 ha_4) 57 to_3) zl (uf (uf (uf (uf (uf (uf (uf (uf (uf (uf (uf f 5 va) 8 prr) 9 pu) 10 pp_6) 11 li_7) 12 ty_8) 16 mk_12) 17 gv_9) 20 cu_19) 21 ct_16) 22 od_5) (uf (uf (uf fl 15 rs_11) 18 tl_18) 19 tt_15) tx) rfl ?_
        obtain ⟨hq1, hq2, hq3, hq4⟩ := f26
        have hto1 : to = 1 := by omega
        obtain ⟨hpa, hpb⟩ := hp1 hto1
        refine Rx.walk 2 (pc' := 64) (L' := [some (.ref 0), some (.long (jz till)), none, some (.int (iz b)), some (.int (iz s))]) (st' := [.int (iz ha_4)]) (h' := cmH (u1 (u1 (u1 (u1 (u1 (u1 (u1 (u1 (u1 (u1 (u1 z 21 K) 22 pi_) 23 len) 24 tr) 28 M) 39 rm_10) 40 mv_13) 46 tmn_17) 47 tm_14) 56 ha_4) 57 to_3) zl (uf (uf (uf (uf (uf (uf (uf (uf (uf (uf (uf f 5 va) 8 prr) 9 pu) 10 pp_6) 11 li_7) 12 ty_8) 16 mk_12) 17 gv_9) 20 cu_19) 21 ct_16) 22 od_5) (uf (uf (uf fl 15 rs_11) 18 tl_18) 19 tt_15) tx) rfl ?_
        refine Rx.eq1 rfl rfl ⟨by omega, by omega⟩ (fun b30 => ?_) (fun b30 => ?_)
        · refine Rx.iinc (b := 1) rfl rfl rfl ?_
          refine Rx.walk 0 (pc' := 85) (L' := [some (.ref 0), some (.long (jz till)), none, some (.int (iz b)), some (.int (iz (s + 1)))]) (st' := []) (h' := cmH (u1 (u1 (u1 (u1 (u1 (u1 (u1 (u1 (u1 (u1 (u1 z 21 K) 22 pi_) 23 len) 24 tr) 28 M) 39 rm_10) 40 mv_13) 46 tmn_17) 47 tm_14) 56 ha_4) 57 to_3) zl (uf (uf (uf (uf (uf (uf (uf (uf (uf (uf (uf f 5 va) 8 prr) 9 pu) 10 pp_6) 11 li_7) 12 ty_8) 16 mk_12) 17 gv_9) 20 cu_19) 21 ct_16) 22 od_5) (uf (uf (uf fl 15 rs_11) 18 tl_18) 19 tt_15) tx) rfl ?_
          refine Rx.walk 1 (pc' := 29) (L' := [some (.ref 0), some (.long (jz till)), none, some (.int (iz b)), some (.int (iz (s + 1)))]) (st' := []) (h' := cmH (u1 (u1 (u1 (u1 (u1 (u1 (u1 (u1 (u1 (u1 (u1 z 21 K) 22 pi_) 23 len) 24 tr) 28 M) 39 rm_10) 40 mv_13) 46 tmn_17) 47 tm_14) 56 ha_4) 57 to_3) zl (uf (uf (uf (uf (uf (uf (uf (uf (uf (uf (uf f 5 va) 8 prr) 9 pu) 10 pp_6) 11 li_7) 12 ty_8) 16 mk_12) 17 gv_9) 20 cu_19) 21 ct_16) 22 od_5) (uf (uf (uf fl 15 rs_11) 18 tl_18) 19 tt_15) tx) rfl ?_
          exact ih (s + 1) b to_3 ha_4 od_5 tmn_17 tl_18 cu_19 pp_6 li_7 ty_8 gv_9 rm_10 rs_11 mk_12 mv_13 tm_14 tt_15 ct_16 (by first | assumption | omega) (by first | assumption | omega) ⟨by omega, by omega, by omega⟩ hq1 hq2 ⟨by omega, by omega⟩ f20 f21 f22 f24 (fun hz => ⟨bst_tr (F2 := (fun x => (∃ e, okL M e ∧ (fun l r => thR w K tr len pi_ prr (fun c k => pu (4 * c + k)) l (fun v => v = till) r) e 1 ∧ sO e = s) ∧ x = s)) hpa (bst_rf (fun x ⟨⟨e, e1, e2, e3⟩, _⟩ => absurd ((hq3 hz).2.2.mpr (Or.inr ⟨e, (eL_M hM0 hM4 s0 (by omega)).mpr ⟨e1, e3⟩, e2⟩)) (by omega))) (fun x => ⟨fun ⟨e, e1, e2, e3, e4⟩ => by rcases (show x < s ∨ x = s by omega) with q | q; (exact Or.inl ⟨e, e1, e2, e3, q⟩); (exact Or.inr ⟨⟨e, e1, e2, by omega⟩, q⟩), fun q => q.elim (fun ⟨e, e1, e2, e3, e4⟩ => ⟨e, e1, e2, e3, by omega⟩) (fun ⟨⟨e, e1, e2, e3⟩, q⟩ => ⟨e, e1, e2, by omega, by omega⟩)⟩), (fun ⟨e, e1, e2, e3⟩ => by rcases (show sO e < s ∨ sO e = s by omega) with q | q; (exact hpb ⟨e, e1, e2, q⟩); (exact (hq3 hz).2.1 ⟨e, (eL_M hM0 hM4 s0 (by omega)).mpr ⟨e1, q⟩, e2⟩))⟩) (fun hz => by rcases hq4 hz with q | ⟨e, e1, e2⟩; omega; exact ⟨e, ((eL_M hM0 hM4 s0 (by omega)).mp e1).1, e2⟩) (by first | assumption | omega) 
        · refine Rx.walk 1 (pc' := 69) (L' := [some (.ref 0), some (.long (jz till)), none, some (.int (iz b)), some (.int (iz s))]) (st' := [.int (iz s)]) (h' := cmH (u1 (u1 (u1 (u1 (u1 (u1 (u1 (u1 (u1 (u1 (u1 z 21 K) 22 pi_) 23 len) 24 tr) 28 M) 39 rm_10) 40 mv_13) 46 tmn_17) 47 tm_14) 56 ha_4) 57 to_3) zl (uf (uf (uf (uf (uf (uf (uf (uf (uf (uf (uf f 5 va) 8 prr) 9 pu) 10 pp_6) 11 li_7) 12 ty_8) 16 mk_12) 17 gv_9) 20 cu_19) 21 ct_16) 22 od_5) (uf (uf (uf fl 15 rs_11) 18 tl_18) 19 tt_15) tx) rfl ?_
          refine Rx.callx (m' := m_J6_bitCount_0f7a4) (as := [.int (iz s)]) (rest := []) rfl (n_bitCount _ (cmH (u1 (u1 (u1 (u1 (u1 (u1 (u1 (u1 (u1 (u1 (u1 z 21 K) 22 pi_) 23 len) 24 tr) 28 M) 39 rm_10) 40 mv_13) 46 tmn_17) 47 tm_14) 56 ha_4) 57 to_3) zl (uf (uf (uf (uf (uf (uf (uf (uf (uf (uf (uf f 5 va) 8 prr) 9 pu) 10 pp_6) 11 li_7) 12 ty_8) 16 mk_12) 17 gv_9) 20 cu_19) 21 ct_16) 22 od_5) (uf (uf (uf fl 15 rs_11) 18 tl_18) 19 tt_15) tx)  s (by first | assumption | omega) (by first | assumption | omega)) (fun v33 h34 q35 => ?_)
          obtain ⟨r_31, rfl, rfl, f32⟩ := q35
          refine Rx.walk 0 (pc' := 72) (L' := [some (.ref 0), some (.long (jz till)), none, some (.int (iz b)), some (.int (iz s))]) (st' := [.int (iz r_31)]) (h' := cmH (u1 (u1 (u1 (u1 (u1 (u1 (u1 (u1 (u1 (u1 (u1 z 21 K) 22 pi_) 23 len) 24 tr) 28 M) 39 rm_10) 40 mv_13) 46 tmn_17) 47 tm_14) 56 ha_4) 57 to_3) zl (uf (uf (uf (uf (uf (uf (uf (uf (uf (uf (uf f 5 va) 8 prr) 9 pu) 10 pp_6) 11 li_7) 12 ty_8) 16 mk_12) 17 gv_9) 20 cu_19) 21 ct_16) 22 od_5) (uf (uf (uf fl 15 rs_11) 18 tl_18) 19 tt_15) tx) rfl ?_
          have bb35 := bc_b (x := s)
          refine Rx.walk 1 (pc' := 73) (L' := [some (.ref 0), some (.long (jz till)), none, some (.int (iz b)), some (.int (iz s))]) (st' := [.int (iz b), .int (iz r_31)]) (h' := cmH (u1 (u1 (u1 (u1 (u1 (u1 (u1 (u1 (u1 (u1 (u1 z 21 K) 22 pi_) 23 len) 24 tr) 28 M) 39 rm_10) 40 mv_13) 46 tmn_17) 47 tm_14) 56 ha_4) 57 to_3) zl (uf (uf (uf (uf (uf (uf (uf (uf (uf (uf (uf f 5 va) 8 prr) 9 pu) 10 pp_6) 11 li_7) 12 ty_8) 16 mk_12) 17 gv_9) 20 cu_19) 21 ct_16) 22 od_5) (uf (uf (uf fl 15 rs_11) 18 tl_18) 19 tt_15) tx) rfl ?_
          refine Rx.callx (m' := m_J6_bitCount_0f7a4) (as := [.int (iz b)]) (rest := [.int (iz r_31)]) rfl (n_bitCount _ (cmH (u1 (u1 (u1 (u1 (u1 (u1 (u1 (u1 (u1 (u1 (u1 z 21 K) 22 pi_) 23 len) 24 tr) 28 M) 39 rm_10) 40 mv_13) 46 tmn_17) 47 tm_14) 56 ha_4) 57 to_3) zl (uf (uf (uf (uf (uf (uf (uf (uf (uf (uf (uf f 5 va) 8 prr) 9 pu) 10 pp_6) 11 li_7) 12 ty_8) 16 mk_12) 17 gv_9) 20 cu_19) 21 ct_16) 22 od_5) (uf (uf (uf fl 15 rs_11) 18 tl_18) 19 tt_15) tx)  b (by first | assumption | omega) (by first | assumption | omega)) (fun v38 h39 q40 => ?_)
          obtain ⟨r_36, rfl, rfl, f37⟩ := q40
          refine Rx.walk 0 (pc' := 76) (L' := [some (.ref 0), some (.long (jz till)), none, some (.int (iz b)), some (.int (iz s))]) (st' := [.int (iz r_36), .int (iz r_31)]) (h' := cmH (u1 (u1 (u1 (u1 (u1 (u1 (u1 (u1 (u1 (u1 (u1 z 21 K) 22 pi_) 23 len) 24 tr) 28 M) 39 rm_10) 40 mv_13) 46 tmn_17) 47 tm_14) 56 ha_4) 57 to_3) zl (uf (uf (uf (uf (uf (uf (uf (uf (uf (uf (uf f 5 va) 8 prr) 9 pu) 10 pp_6) 11 li_7) 12 ty_8) 16 mk_12) 17 gv_9) 20 cu_19) 21 ct_16) 22 od_5) (uf (uf (uf fl 15 rs_11) 18 tl_18) 19 tt_15) tx) rfl ?_
          have bb40 := bc_b (x := b)
          refine Rx.le2 rfl rfl ⟨by omega, by omega⟩ ⟨by omega, by omega⟩ (fun b41 => ?_) (fun b41 => ?_)
          · refine Rx.iinc (b := 1) rfl rfl rfl ?_
            refine Rx.walk 0 (pc' := 85) (L' := [some (.ref 0), some (.long (jz till)), none, some (.int (iz b)), some (.int (iz (s + 1)))]) (st' := []) (h' := cmH (u1 (u1 (u1 (u1 (u1 (u1 (u1 (u1 (u1 (u1 (u1 z 21 K) 22 pi_) 23 len) 24 tr) 28 M) 39 rm_10) 40 mv_13) 46 tmn_17) 47 tm_14) 56 ha_4) 57 to_3) zl (uf (uf (uf (uf (uf (uf (uf (uf (uf (uf (uf f 5 va) 8 prr) 9 pu) 10 pp_6) 11 li_7) 12 ty_8) 16 mk_12) 17 gv_9) 20 cu_19) 21 ct_16) 22 od_5) (uf (uf (uf fl 15 rs_11) 18 tl_18) 19 tt_15) tx) rfl ?_
            refine Rx.walk 1 (pc' := 29) (L' := [some (.ref 0), some (.long (jz till)), none, some (.int (iz b)), some (.int (iz (s + 1)))]) (st' := []) (h' := cmH (u1 (u1 (u1 (u1 (u1 (u1 (u1 (u1 (u1 (u1 (u1 z 21 K) 22 pi_) 23 len) 24 tr) 28 M) 39 rm_10) 40 mv_13) 46 tmn_17) 47 tm_14) 56 ha_4) 57 to_3) zl (uf (uf (uf (uf (uf (uf (uf (uf (uf (uf (uf f 5 va) 8 prr) 9 pu) 10 pp_6) 11 li_7) 12 ty_8) 16 mk_12) 17 gv_9) 20 cu_19) 21 ct_16) 22 od_5) (uf (uf (uf fl 15 rs_11) 18 tl_18) 19 tt_15) tx) rfl ?_
            exact ih (s + 1) b to_3 ha_4 od_5 tmn_17 tl_18 cu_19 pp_6 li_7 ty_8 gv_9 rm_10 rs_11 mk_12 mv_13 tm_14 tt_15 ct_16 (by first | assumption | omega) (by first | assumption | omega) ⟨by omega, by omega, by omega⟩ hq1 hq2 ⟨by omega, by omega⟩ f20 f21 f22 f24 (fun hz => ⟨bst_tr (F2 := (fun x => (∃ e, okL M e ∧ (fun l r => thR w K tr len pi_ prr (fun c k => pu (4 * c + k)) l (fun v => v = till) r) e 1 ∧ sO e = s) ∧ x = s)) hpa ⟨Or.inl rfl, Bt_rf _, fun x q => by rw [q.2]; unfold Bt; omega⟩ (fun x => ⟨fun ⟨e, e1, e2, e3, e4⟩ => by rcases (show x < s ∨ x = s by omega) with q | q; (exact Or.inl ⟨e, e1, e2, e3, q⟩); (exact Or.inr ⟨⟨e, e1, e2, by omega⟩, q⟩), fun q => q.elim (fun ⟨e, e1, e2, e3, e4⟩ => ⟨e, e1, e2, e3, by omega⟩) (fun ⟨⟨e, e1, e2, e3⟩, q⟩ => ⟨e, e1, e2, by omega, by omega⟩)⟩), (fun ⟨e, e1, e2, e3⟩ => by rcases (show sO e < s ∨ sO e = s by omega) with q | q; (exact hpb ⟨e, e1, e2, q⟩); (exact (hq3 hz).2.1 ⟨e, (eL_M hM0 hM4 s0 (by omega)).mpr ⟨e1, q⟩, e2⟩))⟩) (fun hz => by rcases hq4 hz with q | ⟨e, e1, e2⟩; omega; exact ⟨e, ((eL_M hM0 hM4 s0 (by omega)).mp e1).1, e2⟩) (by first | assumption | omega) 
          · refine Rx.walk 2 (pc' := 82) (L' := [some (.ref 0), some (.long (jz till)), none, some (.int (iz s)), some (.int (iz s))]) (st' := []) (h' := cmH (u1 (u1 (u1 (u1 (u1 (u1 (u1 (u1 (u1 (u1 (u1 z 21 K) 22 pi_) 23 len) 24 tr) 28 M) 39 rm_10) 40 mv_13) 46 tmn_17) 47 tm_14) 56 ha_4) 57 to_3) zl (uf (uf (uf (uf (uf (uf (uf (uf (uf (uf (uf f 5 va) 8 prr) 9 pu) 10 pp_6) 11 li_7) 12 ty_8) 16 mk_12) 17 gv_9) 20 cu_19) 21 ct_16) 22 od_5) (uf (uf (uf fl 15 rs_11) 18 tl_18) 19 tt_15) tx) rfl ?_
            refine Rx.iinc (b := 1) rfl rfl rfl ?_
            refine Rx.walk 0 (pc' := 85) (L' := [some (.ref 0), some (.long (jz till)), none, some (.int (iz s)), some (.int (iz (s + 1)))]) (st' := []) (h' := cmH (u1 (u1 (u1 (u1 (u1 (u1 (u1 (u1 (u1 (u1 (u1 z 21 K) 22 pi_) 23 len) 24 tr) 28 M) 39 rm_10) 40 mv_13) 46 tmn_17) 47 tm_14) 56 ha_4) 57 to_3) zl (uf (uf (uf (uf (uf (uf (uf (uf (uf (uf (uf f 5 va) 8 prr) 9 pu) 10 pp_6) 11 li_7) 12 ty_8) 16 mk_12) 17 gv_9) 20 cu_19) 21 ct_16) 22 od_5) (uf (uf (uf fl 15 rs_11) 18 tl_18) 19 tt_15) tx) rfl ?_
            refine Rx.walk 1 (pc' := 29) (L' := [some (.ref 0), some (.long (jz till)), none, some (.int (iz s)), some (.int (iz (s + 1)))]) (st' := []) (h' := cmH (u1 (u1 (u1 (u1 (u1 (u1 (u1 (u1 (u1 (u1 (u1 z 21 K) 22 pi_) 23 len) 24 tr) 28 M) 39 rm_10) 40 mv_13) 46 tmn_17) 47 tm_14) 56 ha_4) 57 to_3) zl (uf (uf (uf (uf (uf (uf (uf (uf (uf (uf (uf f 5 va) 8 prr) 9 pu) 10 pp_6) 11 li_7) 12 ty_8) 16 mk_12) 17 gv_9) 20 cu_19) 21 ct_16) 22 od_5) (uf (uf (uf fl 15 rs_11) 18 tl_18) 19 tt_15) tx) rfl ?_
            exact ih (s + 1) s to_3 ha_4 od_5 tmn_17 tl_18 cu_19 pp_6 li_7 ty_8 gv_9 rm_10 rs_11 mk_12 mv_13 tm_14 tt_15 ct_16 (by first | assumption | omega) (by first | assumption | omega) ⟨by omega, by omega, by omega⟩ hq1 hq2 ⟨by omega, by omega⟩ f20 f21 f22 f24 (fun hz => ⟨bst_tr (F2 := (fun x => (∃ e, okL M e ∧ (fun l r => thR w K tr len pi_ prr (fun c k => pu (4 * c + k)) l (fun v => v = till) r) e 1 ∧ sO e = s) ∧ x = s)) hpa ⟨Or.inr ⟨by obtain ⟨e, e1, e2⟩ := ((hq3 hz).2.2.mp (by omega)).elim (fun q => absurd q (by decide)) id; exact ⟨e, ((eL_M hM0 hM4 s0 (by omega)).mp e1).1, e2, e1.2⟩, rfl⟩, Or.inl (by omega), fun x q => by rw [q.2]; exact Bt_rf _⟩ (fun x => ⟨fun ⟨e, e1, e2, e3, e4⟩ => by rcases (show x < s ∨ x = s by omega) with q | q; (exact Or.inl ⟨e, e1, e2, e3, q⟩); (exact Or.inr ⟨⟨e, e1, e2, by omega⟩, q⟩), fun q => q.elim (fun ⟨e, e1, e2, e3, e4⟩ => ⟨e, e1, e2, e3, by omega⟩) (fun ⟨⟨e, e1, e2, e3⟩, q⟩ => ⟨e, e1, e2, by omega, by omega⟩)⟩), (fun ⟨e, e1, e2, e3⟩ => by rcases (show sO e < s ∨ sO e = s by omega) with q | q; (exact hpb ⟨e, e1, e2, q⟩); (exact (hq3 hz).2.1 ⟨e, (eL_M hM0 hM4 s0 (by omega)).mpr ⟨e1, q⟩, e2⟩))⟩) (fun hz => by rcases hq4 hz with q | ⟨e, e1, e2⟩; omega; exact ⟨e, ((eL_M hM0 hM4 s0 (by omega)).mp e1).1, e2⟩) (by first | assumption | omega) 
set_option maxRecDepth 100000 in
set_option maxHeartbeats 4000000 in
theorem m_chain (d : Nat) (z : Nat → Int) (zl : Nat → Int) (f : Nat → Int → Int) (fl : Nat → Int → Int) (tx : Nat)  (M : Int) (p0 : Int) (p1 : Int) (t : Int) (K : Int) (len : Int) (pi_ : Int) (tr : Int) (va : Int → Int) (w : Int → Int) (pu : Int → Int) (prr : Int → Int) (od : Int → Int) (tmn : Int) (tl : Int → Int) (cu : Int → Int) (pp : Int → Int) (li : Int → Int) (ty : Int → Int) (gv : Int → Int) (rm : Int) (rs : Int → Int) (mk : Int → Int) (mv : Int) (tm : Int) (tt : Int → Int) (ct : Int → Int) (to : Int) (ha : Int) (hw : wOK w) (htr : 0 ≤ tr ∧ tr ≤ 1) (hK4 : K ≤ 4) (hva : ∀ k : Int, 0 ≤ k → k < K → va k = w (k + 1)) (hcm : cuM K M pu prr) (hM : mtI K pp li ty p0 p1 t) (hop : 0 < M → (1 ≤ len ∧ len ≤ 5) ∧ 1 ≤ K ∧ (1 ≤ pi_ ∧ pi_ ≤ 2) ∧ okP K len p0 ∧ okP K len p1 ∧ (pi_ = 1 → p1 = 0)) (hg : ∀ k : Int, 0 ≤ k → k < 4 → 0 ≤ gv k ∧ gv k ≤ 4) (hmv : 0 ≤ mv) (hmk : ∀ j : Int, 0 ≤ j → j < 72000 → 0 ≤ mk j ∧ mk j ≤ mv) (htn : 0 ≤ tmn ∧ tmn ≤ 200) (hto : to = 0 ∨ to = 1) (hha : ha = 0 ∨ ha = 1) (hmv0 : mv + 4915200 < 2147483648) : Rx (d + 58) m_X12_chain 0 (am_ent [.ref 0] 5) [] (cmH (u1 (u1 (u1 (u1 (u1 (u1 (u1 (u1 (u1 (u1 (u1 z 21 K) 22 pi_) 23 len) 24 tr) 28 M) 39 rm) 40 mv) 46 tmn) 47 tm) 56 ha) 57 to) zl (uf (uf (uf (uf (uf (uf (uf (uf (uf (uf (uf f 5 va) 8 prr) 9 pu) 10 pp) 11 li) 12 ty) 16 mk) 17 gv) 20 cu) 21 ct) 22 od) (uf (uf (uf fl 15 rs) 18 tl) 19 tt) tx) (fun rv h => ∃ r : Int, ∃ to' : Int, ∃ ha' : Int, ∃ od' : Int → Int, ∃ pp' : Int → Int, ∃ li' : Int → Int, ∃ ty' : Int → Int, ∃ gv' : Int → Int, ∃ rm' : Int, ∃ rs' : Int → Int, ∃ mk' : Int → Int, ∃ mv' : Int, ∃ tm' : Int, ∃ tt' : Int → Int, ∃ ct' : Int → Int, ∃ tmn' : Int, ∃ tl' : Int → Int, ∃ cu' : Int → Int, rv = some (.int (iz r)) ∧ h = cmH (u1 (u1 (u1 (u1 (u1 (u1 (u1 (u1 (u1 (u1 (u1 (u1 z 0 0) 21 K) 22 pi_) 23 len) 24 tr) 28 M) 39 rm') 40 mv') 46 tmn') 47 tm') 56 ha') 57 to') zl (uf (uf (uf (uf (uf (uf (uf (uf (uf (uf (uf f 5 va) 8 prr) 9 pu) 10 pp') 11 li') 12 ty') 16 mk') 17 gv') 20 cu') 21 ct') 22 od') (uf (uf (uf fl 15 rs') 18 tl') 19 tt') tx ∧ mtI K pp' li' ty' p0 p1 t ∧ (∀ k : Int, 0 ≤ k → k < 4 → 0 ≤ gv' k ∧ gv' k ≤ 4) ∧ 0 ≤ mv' ∧ (∀ j : Int, 0 ≤ j → j < 72000 → 0 ≤ mk' j ∧ mk' j ≤ mv') ∧ (0 ≤ tmn' ∧ tmn' ≤ 200) ∧ (mv ≤ mv' ∧ mv' ≤ mv + 4915200) ∧ (to' = 0 ∨ to' = 1) ∧ (ha' = 0 ∨ ha' = 1) ∧ ((M = 0 ∧ r = -1) ∨ (1 ≤ M ∧ chnR (fun l r => thR w K tr len pi_ prr (fun c k => pu (4 * c + k)) l (fun v => v = tn p0 p1 t) r) M r))) := by
  have hMM0 := hcm.1
  have hMM4 := hcm.2.1
  obtain ⟨⟨hm1, hm2, hm3⟩, ⟨hm4, hm5, hm6⟩, hm7, hm8, hm9⟩ := mtI_b hM
  have htwb := tw_c hm7 (by omega)
  have htnb : 0 ≤ tn p0 p1 t ∧ tn p0 p1 t < 2147483648 := by unfold tn; omega
  have hpw := pw2_b M
  refine Rx.walk 0 (pc' := 0) (L' := [some (.ref 0), none, none, none, none]) (st' := []) (h' := cmH (u1 (u1 (u1 (u1 (u1 (u1 (u1 (u1 (u1 (u1 (u1 z 21 K) 22 pi_) 23 len) 24 tr) 28 M) 39 rm) 40 mv) 46 tmn) 47 tm) 56 ha) 57 to) zl (uf (uf (uf (uf (uf (uf (uf (uf (uf (uf (uf f 5 va) 8 prr) 9 pu) 10 pp) 11 li) 12 ty) 16 mk) 17 gv) 20 cu) 21 ct) 22 od) (uf (uf (uf fl 15 rs) 18 tl) 19 tt) tx) rfl ?_
  refine Rx.walk 5 (pc' := 9) (L' := [some (.ref 0), none, none, none, none]) (st' := [.int (iz M)]) (h' := cmH (u1 (u1 (u1 (u1 (u1 (u1 (u1 (u1 (u1 (u1 (u1 (u1 z 0 0) 21 K) 22 pi_) 23 len) 24 tr) 28 M) 39 rm) 40 mv) 46 tmn) 47 tm) 56 ha) 57 to) zl (uf (uf (uf (uf (uf (uf (uf (uf (uf (uf (uf f 5 va) 8 prr) 9 pu) 10 pp) 11 li) 12 ty) 16 mk) 17 gv) 20 cu) 21 ct) 22 od) (uf (uf (uf fl 15 rs) 18 tl) 19 tt) tx) rfl ?_
  refine Rx.ne1 rfl rfl ⟨by omega, by omega⟩ (fun b1 => ?_) (fun b1 => ?_)
  · refine Rx.walk 1 (pc' := 15) (L' := [some (.ref 0), none, none, none, none]) (st' := [.ref 0]) (h' := cmH (u1 (u1 (u1 (u1 (u1 (u1 (u1 (u1 (u1 (u1 (u1 (u1 z 0 0) 21 K) 22 pi_) 23 len) 24 tr) 28 M) 39 rm) 40 mv) 46 tmn) 47 tm) 56 ha) 57 to) zl (uf (uf (uf (uf (uf (uf (uf (uf (uf (uf (uf f 5 va) 8 prr) 9 pu) 10 pp) 11 li) 12 ty) 16 mk) 17 gv) 20 cu) 21 ct) 22 od) (uf (uf (uf fl 15 rs) 18 tl) 19 tt) tx) rfl ?_
    obtain ⟨ho1, ho2, ho3, ho4, ho5, ho6⟩ := hop (by omega)
    refine Rx.callx (m' := m_X12_tillNow) (as := [.ref 0]) (rest := []) rfl (m_tillNow _ (u1 (u1 (u1 (u1 (u1 (u1 (u1 (u1 (u1 (u1 (u1 (u1 z 0 0) 21 K) 22 pi_) 23 len) 24 tr) 28 M) 39 rm) 40 mv) 46 tmn) 47 tm) 56 ha) 57 to) zl (uf (uf (uf (uf (uf (uf (uf (uf (uf (uf (uf f 5 va) 8 prr) 9 pu) 10 pp) 11 li) 12 ty) 16 mk) 17 gv) 20 cu) 21 ct) 22 od) (uf (uf (uf fl 15 rs) 18 tl) 19 tt) tx  K p0 p1 t pp li ty hM) (fun v2 h3 q4 => ?_)
    obtain ⟨rfl, rfl⟩ := q4
    refine Rx.walk 0 (pc' := 18) (L' := [some (.ref 0), none, none, none, none]) (st' := [.long (jz (tn p0 p1 t))]) (h' := cmH (u1 (u1 (u1 (u1 (u1 (u1 (u1 (u1 (u1 (u1 (u1 (u1 z 0 0) 21 K) 22 pi_) 23 len) 24 tr) 28 M) 39 rm) 40 mv) 46 tmn) 47 tm) 56 ha) 57 to) zl (uf (uf (uf (uf (uf (uf (uf (uf (uf (uf (uf f 5 va) 8 prr) 9 pu) 10 pp) 11 li) 12 ty) 16 mk) 17 gv) 20 cu) 21 ct) 22 od) (uf (uf (uf fl 15 rs) 18 tl) 19 tt) tx) rfl ?_
    refine Rx.walk 8 (pc' := 29) (L' := [some (.ref 0), some (.long (jz (tn p0 p1 t))), none, some (.int (iz 0)), some (.int (iz 0))]) (st' := []) (h' := cmH (u1 (u1 (u1 (u1 (u1 (u1 (u1 (u1 (u1 (u1 (u1 (u1 z 0 0) 21 K) 22 pi_) 23 len) 24 tr) 28 M) 39 rm) 40 mv) 46 tmn) 47 tm) 56 ha) 57 1) zl (uf (uf (uf (uf (uf (uf (uf (uf (uf (uf (uf f 5 va) 8 prr) 9 pu) 10 pp) 11 li) 12 ty) 16 mk) 17 gv) 20 cu) 21 ct) 22 od) (uf (uf (uf fl 15 rs) 18 tl) 19 tt) tx) rfl ?_
    refine m_chain_l _ (u1 (u1 (u1 (u1 (u1 (u1 (u1 (u1 (u1 (u1 (u1 (u1 z 0 0) 21 K) 22 pi_) 23 len) 24 tr) 28 M) 39 rm) 40 mv) 46 tmn) 47 tm) 56 ha) 57 1) zl (uf (uf (uf (uf (uf (uf (uf (uf (uf (uf (uf f 5 va) 8 prr) 9 pu) 10 pp) 11 li) 12 ty) 16 mk) 17 gv) 20 cu) 21 ct) 22 od) (uf (uf (uf fl 15 rs) 18 tl) 19 tt) tx  (tn p0 p1 t) M K len pi_ tr va w pu prr mv ho2 ho1 ho3 (by first | assumption | omega) (by first | assumption | omega) hva (by first | assumption | omega) hcm ⟨p0, p1, t, rfl, ho4, ho5, hm7, hm8, ho6⟩ (by first | assumption | omega) (by first | assumption | omega) _ ?_ ((16 - 0) + 1 : Int).toNat 0 0 1 ha od tmn tl cu pp li ty gv rm rs mk mv tm tt ct (by first | assumption | omega) (by first | assumption | omega) ⟨by omega, by omega, by omega⟩ (Or.inr rfl) hha ⟨by omega, by omega⟩ hg hmv hmk htn (fun _ => ⟨bst_rf (fun x ⟨e, e1, e2, e3, e4⟩ => by have := sO_M hMM0 hMM4 e1; omega), fun ⟨e, e1, e2, e3⟩ => by have := sO_M hMM0 hMM4 e1; omega⟩) (fun q => absurd q (by decide)) (by omega) 
    intro b_5 s_6 to_7 ha_8 od_9 pp_10 li_11 ty_12 gv_13 rm_14 rs_15 mk_16 mv_17 tm_18 tt_19 ct_20 tmn_21 tl_22 cu_23 f24 f25 f26 f27 f28 f29 f30 f31 f32 f33
    refine Rx.walk 0 (pc' := 88) (L' := [some (.ref 0), some (.long (jz (tn p0 p1 t))), none, some (.int (iz b_5)), some (.int (iz s_6))]) (st' := []) (h' := cmH (u1 (u1 (u1 (u1 (u1 (u1 (u1 (u1 (u1 (u1 (u1 (u1 z 0 0) 21 K) 22 pi_) 23 len) 24 tr) 28 M) 39 rm_14) 40 mv_17) 46 tmn_21) 47 tm_18) 56 ha_8) 57 to_7) zl (uf (uf (uf (uf (uf (uf (uf (uf (uf (uf (uf f 5 va) 8 prr) 9 pu) 10 pp_10) 11 li_11) 12 ty_12) 16 mk_16) 17 gv_13) 20 cu_23) 21 ct_20) 22 od_9) (uf (uf (uf fl 15 rs_15) 18 tl_22) 19 tt_19) tx) rfl ?_
    refine Rx.walk 2 (pc' := 90) (L' := [some (.ref 0), some (.long (jz (tn p0 p1 t))), none, some (.int (iz b_5)), some (.int (iz s_6))]) (st' := [.long (jz (tn p0 p1 t)), .ref 0]) (h' := cmH (u1 (u1 (u1 (u1 (u1 (u1 (u1 (u1 (u1 (u1 (u1 (u1 z 0 0) 21 K) 22 pi_) 23 len) 24 tr) 28 M) 39 rm_14) 40 mv_17) 46 tmn_21) 47 tm_18) 56 ha_8) 57 to_7) zl (uf (uf (uf (uf (uf (uf (uf (uf (uf (uf (uf f 5 va) 8 prr) 9 pu) 10 pp_10) 11 li_11) 12 ty_12) 16 mk_16) 17 gv_13) 20 cu_23) 21 ct_20) 22 od_9) (uf (uf (uf fl 15 rs_15) 18 tl_22) 19 tt_19) tx) rfl ?_
    refine Rx.callx (m' := m_X12_opensAs) (as := [.ref 0, .long (jz (tn p0 p1 t))]) (rest := []) rfl (m_opensAs _ (u1 (u1 (u1 (u1 (u1 (u1 (u1 (u1 (u1 (u1 (u1 (u1 z 0 0) 21 K) 22 pi_) 23 len) 24 tr) 28 M) 39 rm_14) 40 mv_17) 46 tmn_21) 47 tm_18) 56 ha_8) 57 to_7) zl (uf (uf (uf (uf (uf (uf (uf (uf (uf (uf (uf f 5 va) 8 prr) 9 pu) 10 pp_10) 11 li_11) 12 ty_12) 16 mk_16) 17 gv_13) 20 cu_23) 21 ct_20) 22 od_9) (uf (uf (uf fl 15 rs_15) 18 tl_22) 19 tt_19) tx  (tn p0 p1 t) K p0 p1 t pp_10 li_11 ty_12 rfl (by first | assumption | omega) (by first | assumption | omega) (by first | assumption | omega) (by obtain ⟨-, n, n5, n1, -⟩ := ho4; exact ⟨n, n5, n1⟩) (by obtain ⟨-, n, n5, n1, -⟩ := ho5; exact ⟨n, n5, n1⟩) (by first | assumption | omega) (by first | assumption | omega)) (fun v38 h39 q40 => ?_)
    obtain ⟨pp_34, li_35, ty_36, rfl, rfl, f37⟩ := q40
    refine Rx.walk 0 (pc' := 93) (L' := [some (.ref 0), some (.long (jz (tn p0 p1 t))), none, some (.int (iz b_5)), some (.int (iz s_6))]) (st' := []) (h' := cmH (u1 (u1 (u1 (u1 (u1 (u1 (u1 (u1 (u1 (u1 (u1 (u1 z 0 0) 21 K) 22 pi_) 23 len) 24 tr) 28 M) 39 rm_14) 40 mv_17) 46 tmn_21) 47 tm_18) 56 ha_8) 57 to_7) zl (uf (uf (uf (uf (uf (uf (uf (uf (uf (uf (uf f 5 va) 8 prr) 9 pu) 10 pp_34) 11 li_35) 12 ty_36) 16 mk_16) 17 gv_13) 20 cu_23) 21 ct_20) 22 od_9) (uf (uf (uf fl 15 rs_15) 18 tl_22) 19 tt_19) tx) rfl ?_
    refine Rx.walk 2 (pc' := 97) (L' := [some (.ref 0), some (.long (jz (tn p0 p1 t))), none, some (.int (iz b_5)), some (.int (iz s_6))]) (st' := [.int (iz to_7)]) (h' := cmH (u1 (u1 (u1 (u1 (u1 (u1 (u1 (u1 (u1 (u1 (u1 (u1 z 0 0) 21 K) 22 pi_) 23 len) 24 tr) 28 M) 39 rm_14) 40 mv_17) 46 tmn_21) 47 tm_18) 56 ha_8) 57 to_7) zl (uf (uf (uf (uf (uf (uf (uf (uf (uf (uf (uf f 5 va) 8 prr) 9 pu) 10 pp_34) 11 li_35) 12 ty_36) 16 mk_16) 17 gv_13) 20 cu_23) 21 ct_20) 22 od_9) (uf (uf (uf fl 15 rs_15) 18 tl_22) 19 tt_19) tx) rfl ?_
    refine Rx.eq1 rfl rfl ⟨by omega, by omega⟩ (fun b41 => ?_) (fun b41 => ?_)
    · refine Rx.walk 1 (pc' := 106) (L' := [some (.ref 0), some (.long (jz (tn p0 p1 t))), none, some (.int (iz b_5)), some (.int (iz s_6))]) (st' := [.int (iz (-2))]) (h' := cmH (u1 (u1 (u1 (u1 (u1 (u1 (u1 (u1 (u1 (u1 (u1 (u1 z 0 0) 21 K) 22 pi_) 23 len) 24 tr) 28 M) 39 rm_14) 40 mv_17) 46 tmn_21) 47 tm_18) 56 ha_8) 57 to_7) zl (uf (uf (uf (uf (uf (uf (uf (uf (uf (uf (uf f 5 va) 8 prr) 9 pu) 10 pp_34) 11 li_35) 12 ty_36) 16 mk_16) 17 gv_13) 20 cu_23) 21 ct_20) 22 od_9) (uf (uf (uf fl 15 rs_15) 18 tl_22) 19 tt_19) tx) rfl ?_
      refine Rx.ret rfl ?_
      exact ⟨_, _, _, _, _, _, _, _, _, _, _, _, _, _, _, _, _, _, rfl, rfl, f37, f24, f25, f26, f28, f27, f29, f30, Or.inr ⟨by omega, f33 (by omega)⟩⟩
    · refine Rx.walk 2 (pc' := 106) (L' := [some (.ref 0), some (.long (jz (tn p0 p1 t))), none, some (.int (iz b_5)), some (.int (iz s_6))]) (st' := [.int (iz b_5)]) (h' := cmH (u1 (u1 (u1 (u1 (u1 (u1 (u1 (u1 (u1 (u1 (u1 (u1 z 0 0) 21 K) 22 pi_) 23 len) 24 tr) 28 M) 39 rm_14) 40 mv_17) 46 tmn_21) 47 tm_18) 56 ha_8) 57 to_7) zl (uf (uf (uf (uf (uf (uf (uf (uf (uf (uf (uf f 5 va) 8 prr) 9 pu) 10 pp_34) 11 li_35) 12 ty_36) 16 mk_16) 17 gv_13) 20 cu_23) 21 ct_20) 22 od_9) (uf (uf (uf fl 15 rs_15) 18 tl_22) 19 tt_19) tx) rfl ?_
      refine Rx.ret rfl ?_
      exact ⟨_, _, _, _, _, _, _, _, _, _, _, _, _, _, _, _, _, _, rfl, rfl, f37, f24, f25, f26, f28, f27, f29, f30, Or.inr ⟨by omega, f32 (by omega)⟩⟩
  · refine Rx.walk 1 (pc' := 13) (L' := [some (.ref 0), none, none, none, none]) (st' := [.int (iz (-1))]) (h' := cmH (u1 (u1 (u1 (u1 (u1 (u1 (u1 (u1 (u1 (u1 (u1 (u1 z 0 0) 21 K) 22 pi_) 23 len) 24 tr) 28 M) 39 rm) 40 mv) 46 tmn) 47 tm) 56 ha) 57 to) zl (uf (uf (uf (uf (uf (uf (uf (uf (uf (uf (uf f 5 va) 8 prr) 9 pu) 10 pp) 11 li) 12 ty) 16 mk) 17 gv) 20 cu) 21 ct) 22 od) (uf (uf (uf fl 15 rs) 18 tl) 19 tt) tx) rfl ?_
    refine Rx.ret rfl ?_
    exact ⟨_, _, _, _, _, _, _, _, _, _, _, _, _, _, _, _, _, _, rfl, rfl, hM, hg, hmv, hmk, htn, ⟨by omega, by omega⟩, hto, hha, Or.inl ⟨by omega, rfl⟩⟩

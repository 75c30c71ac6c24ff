/-! the model puts coins in: goIn (printed by wip/whole/gengoin.py) -/
def hG (gv : Int → Int) : Nat → List Int
  | 0 => []
  | k + 1 => List.replicate (gv k).toNat ((k : Int) + 1) ++ hG gv k
def gl (gv : Int → Int) (kind left : Int) : List Int := if kind < 0 then [] else List.replicate left.toNat (kind + 1) ++ hG gv kind.toNat
theorem gl_n {gv : Int → Int} {kind left : Int} (h : kind < 0) : gl gv kind left = [] := if_pos h
theorem gl_s {gv : Int → Int} {kind left : Int} (h : 0 ≤ kind) (hl : 0 < left) : gl gv kind left = (kind + 1) :: gl gv kind (left - 1) := by
  unfold gl
  rw [if_neg (by omega), if_neg (by omega), show left.toNat = (left - 1).toNat + 1 by omega, List.replicate_succ]
  rfl
theorem gl_0 {gv : Int → Int} {kind : Int} (h : 0 < kind) : gl gv kind 0 = gl gv (kind - 1) (gv (kind - 1)) := by
  unfold gl
  rw [if_neg (by omega), if_neg (by omega), show kind.toNat = (kind - 1).toNat + 1 by omega]
  show [] ++ (List.replicate (gv ((kind - 1).toNat : Int)).toNat (((kind - 1).toNat : Int) + 1) ++ hG gv (kind - 1).toNat) = _
  rw [List.nil_append, show ((kind - 1).toNat : Int) = kind - 1 by omega]
theorem gl_00 {gv : Int → Int} (l : Int) : gl gv 0 0 = gl gv (-1) l := by
  rw [gl_n (show (-1 : Int) < 0 by omega)]
  rfl
theorem gl_dec {gv : Int → Int} {kind left : Int} (h : 0 ≤ kind) (hl : 0 < left) : ((gl gv kind left).length : Int) = (gl gv kind (left - 1)).length + 1 := by
  rw [gl_s h hl, List.length_cons]
  push_cast
  rfl
theorem iu_dec (g : Int → Int) (j : Int) : iu (iu g j (g j + 1)) j ((iu g j (g j + 1)) j - 1) = g := by
  rw [iu_at, iu_iu]
  exact iu_eq (by omega)
theorem iu_inc (g : Int → Int) (j : Int) : iu (iu g j (g j - 1)) j ((iu g j (g j - 1)) j + 1) = g := by
  rw [iu_at, iu_iu]
  exact iu_eq (by omega)
set_option maxRecDepth 100000 in
set_option maxHeartbeats 4000000 in
theorem m_goIn (d : Nat) : ∀ (n : Nat) (z : Nat → Int) (zl : Nat → Int) (f : Nat → Int → Int) (fl : Nat → Int → Int) (tx : Nat) (kind : Int) (left : Int) (K : Int) (p0 : Int) (p1 : Int) (t : Int) (pp : Int → Int) (li : Int → Int) (ty : Int → Int) (gv : Int → Int) (rm : Int) (rs : Int → Int) (len : Int) (pi_ : Int) (k0 : -1 ≤ kind) (k1 : kind < K) (l0 : 0 ≤ left) (l1 : left ≤ 4) (hg : ∀ k : Int, 0 ≤ k → k < 4 → 0 ≤ gv k ∧ gv k ≤ 4) (hM : mtI K pp li ty p0 p1 t) (hI : krI rm rs) (hh0 : ht p0 ≤ len) (hh1 : ht p1 ≤ len) (hlen : 1 ≤ len ∧ len ≤ 5) (hpi : 1 ≤ pi_ ∧ pi_ ≤ 2) (hn : (((gl gv kind left).length : Int) + kind + 1) < (n : Int)), Rx (d + (n + 2)) m_X12_goIn 0 (am_ent [.ref 0, .int (iz kind), .int (iz left)] 5) [] (cmH (u1 (u1 (u1 z 22 pi_) 23 len) 39 rm) zl (uf (uf (uf (uf f 10 pp) 11 li) 12 ty) 17 gv) (uf fl 15 rs) tx) (fun rv h => ∃ pp' : Int → Int, ∃ li' : Int → Int, ∃ rm' : Int, ∃ rs' : Int → Int, rv = none ∧ h = cmH (u1 (u1 (u1 z 22 pi_) 23 len) 39 rm') zl (uf (uf (uf (uf f 10 pp') 11 li') 12 ty) 17 gv) (uf fl 15 rs') tx ∧ pp = pp' ∧ li = li' ∧ krX (fun v => v ∈ ptv len pi_ (tw t) (gl gv kind left) p0 p1) rm rs rm' rs' ∧ (∀ v, v ∈ ptv len pi_ (tw t) (gl gv kind left) p0 p1 → hasR rm' rs' v)) := by
  intro n
  induction n with
  | zero =>
    intro z zl f fl tx kind left K p0 p1 t pp li ty gv rm rs len pi_ k0 k1 l0 l1 hg hM hI hh0 hh1 hlen hpi hn
    exfalso; omega
  | succ n ih =>
    intro z zl f fl tx kind left K p0 p1 t pp li ty gv rm rs len pi_ k0 k1 l0 l1 hg hM hI hh0 hh1 hlen hpi hn
    obtain ⟨⟨hm1, hm2, hm3⟩, ⟨hm4, hm5, hm6⟩, hm7, hm8, hm9⟩ := mtI_b hM
    have hz0 := ht_c p0
    have hz1 := ht_c p1
    have hzt := tw_c hm7 (by omega)
    have htn : 0 ≤ tn p0 p1 t ∧ tn p0 p1 t < 2147483648 := by unfold tn; omega
    refine Rx.walk 0 (pc' := 0) (L' := [some (.ref 0), some (.int (iz kind)), some (.int (iz left)), none, none]) (st' := []) (h' := cmH (u1 (u1 (u1 z 22 pi_) 23 len) 39 rm) zl (uf (uf (uf (uf f 10 pp) 11 li) 12 ty) 17 gv) (uf fl 15 rs) tx) rfl ?_
    refine Rx.walk 1 (pc' := 1) (L' := [some (.ref 0), some (.int (iz kind)), some (.int (iz left)), none, none]) (st' := [.int (iz kind)]) (h' := cmH (u1 (u1 (u1 z 22 pi_) 23 len) 39 rm) zl (uf (uf (uf (uf f 10 pp) 11 li) 12 ty) 17 gv) (uf fl 15 rs) tx) rfl ?_
    refine Rx.ge1 rfl rfl ⟨by omega, by omega⟩ (fun b1 => ?_) (fun b1 => ?_)
    · refine Rx.walk 1 (pc' := 14) (L' := [some (.ref 0), some (.int (iz kind)), some (.int (iz left)), none, none]) (st' := [.int (iz left)]) (h' := cmH (u1 (u1 (u1 z 22 pi_) 23 len) 39 rm) zl (uf (uf (uf (uf f 10 pp) 11 li) 12 ty) 17 gv) (uf fl 15 rs) tx) rfl ?_
      refine Rx.ne1 rfl rfl ⟨by omega, by omega⟩ (fun b2 => ?_) (fun b2 => ?_)
      · refine Rx.walk 5 (pc' := 48) (L' := [some (.ref 0), some (.int (iz kind)), some (.int (iz left)), some (.int (iz 0)), none]) (st' := [.int (iz pi_), .int (iz 0)]) (h' := cmH (u1 (u1 (u1 z 22 pi_) 23 len) 39 rm) zl (uf (uf (uf (uf f 10 pp) 11 li) 12 ty) 17 gv) (uf fl 15 rs) tx) rfl ?_
        refine Rx.ge2 rfl rfl ⟨by omega, by omega⟩ ⟨by omega, by omega⟩ (fun b3 => by omega) (fun b3 => ?_)
        refine Rx.walk 3 (pc' := 56) (L' := [some (.ref 0), some (.int (iz kind)), some (.int (iz left)), some (.int (iz 0)), none]) (st' := [.int (iz 0), .ref 11]) (h' := cmH (u1 (u1 (u1 z 22 pi_) 23 len) 39 rm) zl (uf (uf (uf (uf f 10 pp) 11 li) 12 ty) 17 gv) (uf fl 15 rs) tx) rfl ?_
        refine Rx.ial (g := li) rfl rfl (by omega) (by omega) (by omega) ?_
        refine Rx.walk 2 (pc' := 61) (L' := [some (.ref 0), some (.int (iz kind)), some (.int (iz left)), some (.int (iz 0)), none]) (st' := [.int (iz len), .int (iz (li 0))]) (h' := cmH (u1 (u1 (u1 z 22 pi_) 23 len) 39 rm) zl (uf (uf (uf (uf f 10 pp) 11 li) 12 ty) 17 gv) (uf fl 15 rs) tx) rfl ?_
        refine Rx.ne2 rfl rfl ⟨by omega, by omega⟩ ⟨by omega, by omega⟩ (fun b4 => ?_) (fun b4 => ?_)
        · refine Rx.walk 4 (pc' := 73) (L' := [some (.ref 0), some (.int (iz kind)), some (.int (iz left)), some (.int (iz 0)), none]) (st' := [.int (iz 0), .int (iz 5), .ref 10]) (h' := cmH (u1 (u1 (u1 z 22 pi_) 23 len) 39 rm) zl (uf (uf (uf (uf f 10 pp) 11 li) 12 ty) 17 gv) (uf fl 15 rs) tx) rfl ?_
          refine Rx.imul rfl ?_
          refine Rx.walk 0 (pc' := 74) (L' := [some (.ref 0), some (.int (iz kind)), some (.int (iz left)), some (.int (iz 0)), none]) (st' := [.int (iz 0), .ref 10]) (h' := cmH (u1 (u1 (u1 z 22 pi_) 23 len) 39 rm) zl (uf (uf (uf (uf f 10 pp) 11 li) 12 ty) 17 gv) (uf fl 15 rs) tx) rfl ?_
          refine Rx.walk 3 (pc' := 79) (L' := [some (.ref 0), some (.int (iz kind)), some (.int (iz left)), some (.int (iz 0)), none]) (st' := [.int (iz 0), .ref 11, .int (iz 0), .ref 10]) (h' := cmH (u1 (u1 (u1 z 22 pi_) 23 len) 39 rm) zl (uf (uf (uf (uf f 10 pp) 11 li) 12 ty) 17 gv) (uf fl 15 rs) tx) rfl ?_
          refine Rx.ial (g := li) rfl rfl (by omega) (by omega) (by omega) ?_
          refine Rx.iadd rfl ?_
          refine Rx.ial (g := pp) rfl rfl (by omega) (by omega) (by omega) ?_
          refine Rx.walk 4 (pc' := 87) (L' := [some (.ref 0), some (.int (iz kind)), some (.int (iz left)), some (.int (iz 0)), some (.int (iz (pp (0 + (li 0)))))]) (st' := [.int (iz kind), .int (iz 0), .ref 0]) (h' := cmH (u1 (u1 (u1 z 22 pi_) 23 len) 39 rm) zl (uf (uf (uf (uf f 10 pp) 11 li) 12 ty) 17 gv) (uf fl 15 rs) tx) rfl ?_
          refine Rx.callx (m' := m_X12_push) (as := [.ref 0, .int (iz 0), .int (iz kind)]) (rest := []) rfl (m_push0 _ (u1 (u1 (u1 z 22 pi_) 23 len) 39 rm) zl (uf (uf (uf (uf f 10 pp) 11 li) 12 ty) 17 gv) (uf fl 15 rs) tx  pp li ty kind (by first | assumption | omega) (by first | assumption | omega)) (fun v5 h6 q7 => ?_)
          obtain ⟨rfl, rfl⟩ := q7
          refine Rx.walk 0 (pc' := 90) (L' := [some (.ref 0), some (.int (iz kind)), some (.int (iz left)), some (.int (iz 0)), some (.int (iz (pp (0 + (li 0)))))]) (st' := []) (h' := cmH (u1 (u1 (u1 z 22 pi_) 23 len) 39 rm) zl (uf (uf (uf (uf f 10 (iu pp (0 + (li 0)) kind)) 11 (iu li 0 ((li 0) + 1))) 12 ty) 17 gv) (uf fl 15 rs) tx) rfl ?_
          refine Rx.walk 4 (pc' := 94) (L' := [some (.ref 0), some (.int (iz kind)), some (.int (iz left)), some (.int (iz 0)), some (.int (iz (pp (0 + (li 0)))))]) (st' := [.int (iz 1), .int (iz left), .int (iz kind), .ref 0]) (h' := cmH (u1 (u1 (u1 z 22 pi_) 23 len) 39 rm) zl (uf (uf (uf (uf f 10 (iu pp (0 + (li 0)) kind)) 11 (iu li 0 ((li 0) + 1))) 12 ty) 17 gv) (uf fl 15 rs) tx) rfl ?_
          refine Rx.isub rfl ?_
          have hgl := gl_dec (gv := gv) (kind := kind) (left := left) (by omega) (by omega)
          refine Rx.callx (m' := m_X12_goIn) (as := [.ref 0, .int (iz kind), .int (iz (left - 1))]) (rest := []) rfl (ih (u1 (u1 (u1 z 22 pi_) 23 len) 39 rm) zl (uf (uf (uf (uf f 10 (iu pp (0 + (li 0)) kind)) 11 (iu li 0 ((li 0) + 1))) 12 ty) 17 gv) (uf fl 15 rs) tx  kind (left - 1) K (p0 * 5 + (kind + 1)) p1 t (iu pp (0 + (li 0)) kind) (iu li 0 ((li 0) + 1)) ty gv rm rs len pi_ (by first | assumption | omega) (by first | assumption | omega) (by first | assumption | omega) (by first | assumption | omega) (by first | assumption | omega) (by rw [Int.zero_add]; exact mtI_push0 hM (by omega) (by omega) k1) hI (by have := ht_c (p0 * 5 + (kind + 1)); have := ht_c p0; omega) (by first | assumption | omega) (by first | assumption | omega) (by first | assumption | omega) (by omega)) (fun v14 h15 q16 => ?_)
          obtain ⟨pp_8, li_9, rm_10, rs_11, rfl, rfl, rfl, rfl, f12, f13⟩ := q16
          refine Rx.walk 0 (pc' := 98) (L' := [some (.ref 0), some (.int (iz kind)), some (.int (iz left)), some (.int (iz 0)), some (.int (iz (pp (0 + (li 0)))))]) (st' := []) (h' := cmH (u1 (u1 (u1 z 22 pi_) 23 len) 39 rm_10) zl (uf (uf (uf (uf f 10 (iu pp (0 + (li 0)) kind)) 11 (iu li 0 ((li 0) + 1))) 12 ty) 17 gv) (uf fl 15 rs_11) tx) rfl ?_
          refine Rx.walk 4 (pc' := 104) (L' := [some (.ref 0), some (.int (iz kind)), some (.int (iz left)), some (.int (iz 0)), some (.int (iz (pp (0 + (li 0)))))]) (st' := [.int (iz 0), .ref 11, .int (iz 0), .ref 11]) (h' := cmH (u1 (u1 (u1 z 22 pi_) 23 len) 39 rm_10) zl (uf (uf (uf (uf f 10 (iu pp (0 + (li 0)) kind)) 11 (iu li 0 ((li 0) + 1))) 12 ty) 17 gv) (uf fl 15 rs_11) tx) rfl ?_
          refine Rx.ial (g := (iu li 0 ((li 0) + 1))) rfl rfl (by omega) (by omega) (by omega) ?_
          refine Rx.walk 1 (pc' := 106) (L' := [some (.ref 0), some (.int (iz kind)), some (.int (iz left)), some (.int (iz 0)), some (.int (iz (pp (0 + (li 0)))))]) (st' := [.int (iz 1), .int (iz ((iu li 0 ((li 0) + 1)) 0)), .int (iz 0), .ref 11]) (h' := cmH (u1 (u1 (u1 z 22 pi_) 23 len) 39 rm_10) zl (uf (uf (uf (uf f 10 (iu pp (0 + (li 0)) kind)) 11 (iu li 0 ((li 0) + 1))) 12 ty) 17 gv) (uf fl 15 rs_11) tx) rfl ?_
          refine Rx.isub rfl ?_
          refine Rx.ias (g := (iu li 0 ((li 0) + 1))) (h' := cmH (u1 (u1 (u1 z 22 pi_) 23 len) 39 rm_10) zl (uf (uf (uf (uf f 10 (iu pp (0 + (li 0)) kind)) 11 (iu (iu li 0 ((li 0) + 1)) 0 (((iu li 0 ((li 0) + 1)) 0) - 1))) 12 ty) 17 gv) (uf fl 15 rs_11) tx) rfl rfl (by omega) (by omega) (by omega) rfl ?_
          rw [show (iu (iu li 0 ((li 0) + 1)) 0 (((iu li 0 ((li 0) + 1)) 0) - 1)) = li from iu_dec li 0]
          refine Rx.walk 4 (pc' := 114) (L' := [some (.ref 0), some (.int (iz kind)), some (.int (iz left)), some (.int (iz 0)), some (.int (iz (pp (0 + (li 0)))))]) (st' := [.int (iz 0), .int (iz 5), .ref 10]) (h' := cmH (u1 (u1 (u1 z 22 pi_) 23 len) 39 rm_10) zl (uf (uf (uf (uf f 10 (iu pp (0 + (li 0)) kind)) 11 li) 12 ty) 17 gv) (uf fl 15 rs_11) tx) rfl ?_
          refine Rx.imul rfl ?_
          refine Rx.walk 0 (pc' := 115) (L' := [some (.ref 0), some (.int (iz kind)), some (.int (iz left)), some (.int (iz 0)), some (.int (iz (pp (0 + (li 0)))))]) (st' := [.int (iz 0), .ref 10]) (h' := cmH (u1 (u1 (u1 z 22 pi_) 23 len) 39 rm_10) zl (uf (uf (uf (uf f 10 (iu pp (0 + (li 0)) kind)) 11 li) 12 ty) 17 gv) (uf fl 15 rs_11) tx) rfl ?_
          refine Rx.walk 3 (pc' := 120) (L' := [some (.ref 0), some (.int (iz kind)), some (.int (iz left)), some (.int (iz 0)), some (.int (iz (pp (0 + (li 0)))))]) (st' := [.int (iz 0), .ref 11, .int (iz 0), .ref 10]) (h' := cmH (u1 (u1 (u1 z 22 pi_) 23 len) 39 rm_10) zl (uf (uf (uf (uf f 10 (iu pp (0 + (li 0)) kind)) 11 li) 12 ty) 17 gv) (uf fl 15 rs_11) tx) rfl ?_
          refine Rx.ial (g := li) rfl rfl (by omega) (by omega) (by omega) ?_
          refine Rx.iadd rfl ?_
          refine Rx.walk 1 (pc' := 124) (L' := [some (.ref 0), some (.int (iz kind)), some (.int (iz left)), some (.int (iz 0)), some (.int (iz (pp (0 + (li 0)))))]) (st' := [.int (iz (pp (0 + (li 0)))), .int (iz (0 + (li 0))), .ref 10]) (h' := cmH (u1 (u1 (u1 z 22 pi_) 23 len) 39 rm_10) zl (uf (uf (uf (uf f 10 (iu pp (0 + (li 0)) kind)) 11 li) 12 ty) 17 gv) (uf fl 15 rs_11) tx) rfl ?_
          refine Rx.ias (g := (iu pp (0 + (li 0)) kind)) (h' := cmH (u1 (u1 (u1 z 22 pi_) 23 len) 39 rm_10) zl (uf (uf (uf (uf f 10 (iu (iu pp (0 + (li 0)) kind) (0 + (li 0)) (pp (0 + (li 0))))) 11 li) 12 ty) 17 gv) (uf fl 15 rs_11) tx) rfl rfl (by omega) (by omega) (by omega) rfl ?_
          rw [show (iu (iu pp (0 + (li 0)) kind) (0 + (li 0)) (pp (0 + (li 0)))) = pp from iu_back pp _ _]
          refine Rx.iinc (b := 1) rfl rfl rfl ?_
          refine Rx.walk 0 (pc' := 128) (L' := [some (.ref 0), some (.int (iz kind)), some (.int (iz left)), some (.int (iz 1)), some (.int (iz (pp (0 + (li 0)))))]) (st' := []) (h' := cmH (u1 (u1 (u1 z 22 pi_) 23 len) 39 rm_10) zl (uf (uf (uf (uf f 10 pp) 11 li) 12 ty) 17 gv) (uf fl 15 rs_11) tx) rfl ?_
          refine Rx.walk 4 (pc' := 48) (L' := [some (.ref 0), some (.int (iz kind)), some (.int (iz left)), some (.int (iz 1)), some (.int (iz (pp (0 + (li 0)))))]) (st' := [.int (iz pi_), .int (iz 1)]) (h' := cmH (u1 (u1 (u1 z 22 pi_) 23 len) 39 rm_10) zl (uf (uf (uf (uf f 10 pp) 11 li) 12 ty) 17 gv) (uf fl 15 rs_11) tx) rfl ?_
          refine Rx.ge2 rfl rfl ⟨by omega, by omega⟩ ⟨by omega, by omega⟩ (fun b17 => ?_) (fun b17 => ?_)
          · refine Rx.ret rfl ?_
            have hV : ∀ v, v ∈ ptv len pi_ (tw t) (gl gv kind left) p0 p1 ↔ v ∈ ptv len pi_ (tw t) (gl gv kind (left - 1)) (p0 * 5 + (kind + 1)) p1 := by
              intro v
              rw [gl_s (by omega) (by omega)]
              show v ∈ _ ++ _ ↔ _
              rw [if_pos (show ht p0 < len by omega), if_neg (show ¬ (2 ≤ pi_ ∧ ht p1 < len) by omega)]
              simp
            exact ⟨_, _, _, _, rfl, rfl, rfl, rfl, krX_im f12 (fun v hv => (hV v).mpr hv), fun v hv => f13 v ((hV v).mp hv)⟩
          · refine Rx.walk 3 (pc' := 56) (L' := [some (.ref 0), some (.int (iz kind)), some (.int (iz left)), some (.int (iz 1)), some (.int (iz (pp (0 + (li 0)))))]) (st' := [.int (iz 1), .ref 11]) (h' := cmH (u1 (u1 (u1 z 22 pi_) 23 len) 39 rm_10) zl (uf (uf (uf (uf f 10 pp) 11 li) 12 ty) 17 gv) (uf fl 15 rs_11) tx) rfl ?_
            refine Rx.ial (g := li) rfl rfl (by omega) (by omega) (by omega) ?_
            refine Rx.walk 2 (pc' := 61) (L' := [some (.ref 0), some (.int (iz kind)), some (.int (iz left)), some (.int (iz 1)), some (.int (iz (pp (0 + (li 0)))))]) (st' := [.int (iz len), .int (iz (li 1))]) (h' := cmH (u1 (u1 (u1 z 22 pi_) 23 len) 39 rm_10) zl (uf (uf (uf (uf f 10 pp) 11 li) 12 ty) 17 gv) (uf fl 15 rs_11) tx) rfl ?_
            refine Rx.ne2 rfl rfl ⟨by omega, by omega⟩ ⟨by omega, by omega⟩ (fun b18 => ?_) (fun b18 => ?_)
            · refine Rx.walk 4 (pc' := 73) (L' := [some (.ref 0), some (.int (iz kind)), some (.int (iz left)), some (.int (iz 1)), some (.int (iz (pp (0 + (li 0)))))]) (st' := [.int (iz 1), .int (iz 5), .ref 10]) (h' := cmH (u1 (u1 (u1 z 22 pi_) 23 len) 39 rm_10) zl (uf (uf (uf (uf f 10 pp) 11 li) 12 ty) 17 gv) (uf fl 15 rs_11) tx) rfl ?_
              refine Rx.imul rfl ?_
              refine Rx.walk 0 (pc' := 74) (L' := [some (.ref 0), some (.int (iz kind)), some (.int (iz left)), some (.int (iz 1)), some (.int (iz (pp (0 + (li 0)))))]) (st' := [.int (iz 5), .ref 10]) (h' := cmH (u1 (u1 (u1 z 22 pi_) 23 len) 39 rm_10) zl (uf (uf (uf (uf f 10 pp) 11 li) 12 ty) 17 gv) (uf fl 15 rs_11) tx) rfl ?_
              refine Rx.walk 3 (pc' := 79) (L' := [some (.ref 0), some (.int (iz kind)), some (.int (iz left)), some (.int (iz 1)), some (.int (iz (pp (0 + (li 0)))))]) (st' := [.int (iz 1), .ref 11, .int (iz 5), .ref 10]) (h' := cmH (u1 (u1 (u1 z 22 pi_) 23 len) 39 rm_10) zl (uf (uf (uf (uf f 10 pp) 11 li) 12 ty) 17 gv) (uf fl 15 rs_11) tx) rfl ?_
              refine Rx.ial (g := li) rfl rfl (by omega) (by omega) (by omega) ?_
              refine Rx.iadd rfl ?_
              refine Rx.ial (g := pp) rfl rfl (by omega) (by omega) (by omega) ?_
              refine Rx.walk 4 (pc' := 87) (L' := [some (.ref 0), some (.int (iz kind)), some (.int (iz left)), some (.int (iz 1)), some (.int (iz (pp (5 + (li 1)))))]) (st' := [.int (iz kind), .int (iz 1), .ref 0]) (h' := cmH (u1 (u1 (u1 z 22 pi_) 23 len) 39 rm_10) zl (uf (uf (uf (uf f 10 pp) 11 li) 12 ty) 17 gv) (uf fl 15 rs_11) tx) rfl ?_
              refine Rx.callx (m' := m_X12_push) (as := [.ref 0, .int (iz 1), .int (iz kind)]) (rest := []) rfl (m_push1 _ (u1 (u1 (u1 z 22 pi_) 23 len) 39 rm_10) zl (uf (uf (uf (uf f 10 pp) 11 li) 12 ty) 17 gv) (uf fl 15 rs_11) tx  pp li ty kind (by first | assumption | omega) (by first | assumption | omega)) (fun v19 h20 q21 => ?_)
              obtain ⟨rfl, rfl⟩ := q21
              refine Rx.walk 0 (pc' := 90) (L' := [some (.ref 0), some (.int (iz kind)), some (.int (iz left)), some (.int (iz 1)), some (.int (iz (pp (5 + (li 1)))))]) (st' := []) (h' := cmH (u1 (u1 (u1 z 22 pi_) 23 len) 39 rm_10) zl (uf (uf (uf (uf f 10 (iu pp (5 + (li 1)) kind)) 11 (iu li 1 ((li 1) + 1))) 12 ty) 17 gv) (uf fl 15 rs_11) tx) rfl ?_
              refine Rx.walk 4 (pc' := 94) (L' := [some (.ref 0), some (.int (iz kind)), some (.int (iz left)), some (.int (iz 1)), some (.int (iz (pp (5 + (li 1)))))]) (st' := [.int (iz 1), .int (iz left), .int (iz kind), .ref 0]) (h' := cmH (u1 (u1 (u1 z 22 pi_) 23 len) 39 rm_10) zl (uf (uf (uf (uf f 10 (iu pp (5 + (li 1)) kind)) 11 (iu li 1 ((li 1) + 1))) 12 ty) 17 gv) (uf fl 15 rs_11) tx) rfl ?_
              refine Rx.isub rfl ?_
              have hgl := gl_dec (gv := gv) (kind := kind) (left := left) (by omega) (by omega)
              refine Rx.callx (m' := m_X12_goIn) (as := [.ref 0, .int (iz kind), .int (iz (left - 1))]) (rest := []) rfl (ih (u1 (u1 (u1 z 22 pi_) 23 len) 39 rm_10) zl (uf (uf (uf (uf f 10 (iu pp (5 + (li 1)) kind)) 11 (iu li 1 ((li 1) + 1))) 12 ty) 17 gv) (uf fl 15 rs_11) tx  kind (left - 1) K p0 (p1 * 5 + (kind + 1)) t (iu pp (5 + (li 1)) kind) (iu li 1 ((li 1) + 1)) ty gv rm_10 rs_11 len pi_ (by first | assumption | omega) (by first | assumption | omega) (by first | assumption | omega) (by first | assumption | omega) (by first | assumption | omega) (mtI_push1 hM (by omega) (by omega) k1) f12.2.1 (by first | assumption | omega) (by have := ht_c (p1 * 5 + (kind + 1)); have := ht_c p1; omega) (by first | assumption | omega) (by first | assumption | omega) (by omega)) (fun v28 h29 q30 => ?_)
              obtain ⟨pp_22, li_23, rm_24, rs_25, rfl, rfl, rfl, rfl, f26, f27⟩ := q30
              refine Rx.walk 0 (pc' := 98) (L' := [some (.ref 0), some (.int (iz kind)), some (.int (iz left)), some (.int (iz 1)), some (.int (iz (pp (5 + (li 1)))))]) (st' := []) (h' := cmH (u1 (u1 (u1 z 22 pi_) 23 len) 39 rm_24) zl (uf (uf (uf (uf f 10 (iu pp (5 + (li 1)) kind)) 11 (iu li 1 ((li 1) + 1))) 12 ty) 17 gv) (uf fl 15 rs_25) tx) rfl ?_
              refine Rx.walk 4 (pc' := 104) (L' := [some (.ref 0), some (.int (iz kind)), some (.int (iz left)), some (.int (iz 1)), some (.int (iz (pp (5 + (li 1)))))]) (st' := [.int (iz 1), .ref 11, .int (iz 1), .ref 11]) (h' := cmH (u1 (u1 (u1 z 22 pi_) 23 len) 39 rm_24) zl (uf (uf (uf (uf f 10 (iu pp (5 + (li 1)) kind)) 11 (iu li 1 ((li 1) + 1))) 12 ty) 17 gv) (uf fl 15 rs_25) tx) rfl ?_
              refine Rx.ial (g := (iu li 1 ((li 1) + 1))) rfl rfl (by omega) (by omega) (by omega) ?_
              refine Rx.walk 1 (pc' := 106) (L' := [some (.ref 0), some (.int (iz kind)), some (.int (iz left)), some (.int (iz 1)), some (.int (iz (pp (5 + (li 1)))))]) (st' := [.int (iz 1), .int (iz ((iu li 1 ((li 1) + 1)) 1)), .int (iz 1), .ref 11]) (h' := cmH (u1 (u1 (u1 z 22 pi_) 23 len) 39 rm_24) zl (uf (uf (uf (uf f 10 (iu pp (5 + (li 1)) kind)) 11 (iu li 1 ((li 1) + 1))) 12 ty) 17 gv) (uf fl 15 rs_25) tx) rfl ?_
              refine Rx.isub rfl ?_
              refine Rx.ias (g := (iu li 1 ((li 1) + 1))) (h' := cmH (u1 (u1 (u1 z 22 pi_) 23 len) 39 rm_24) zl (uf (uf (uf (uf f 10 (iu pp (5 + (li 1)) kind)) 11 (iu (iu li 1 ((li 1) + 1)) 1 (((iu li 1 ((li 1) + 1)) 1) - 1))) 12 ty) 17 gv) (uf fl 15 rs_25) tx) rfl rfl (by omega) (by omega) (by omega) rfl ?_
              rw [show (iu (iu li 1 ((li 1) + 1)) 1 (((iu li 1 ((li 1) + 1)) 1) - 1)) = li from iu_dec li 1]
              refine Rx.walk 4 (pc' := 114) (L' := [some (.ref 0), some (.int (iz kind)), some (.int (iz left)), some (.int (iz 1)), some (.int (iz (pp (5 + (li 1)))))]) (st' := [.int (iz 1), .int (iz 5), .ref 10]) (h' := cmH (u1 (u1 (u1 z 22 pi_) 23 len) 39 rm_24) zl (uf (uf (uf (uf f 10 (iu pp (5 + (li 1)) kind)) 11 li) 12 ty) 17 gv) (uf fl 15 rs_25) tx) rfl ?_
              refine Rx.imul rfl ?_
              refine Rx.walk 0 (pc' := 115) (L' := [some (.ref 0), some (.int (iz kind)), some (.int (iz left)), some (.int (iz 1)), some (.int (iz (pp (5 + (li 1)))))]) (st' := [.int (iz 5), .ref 10]) (h' := cmH (u1 (u1 (u1 z 22 pi_) 23 len) 39 rm_24) zl (uf (uf (uf (uf f 10 (iu pp (5 + (li 1)) kind)) 11 li) 12 ty) 17 gv) (uf fl 15 rs_25) tx) rfl ?_
              refine Rx.walk 3 (pc' := 120) (L' := [some (.ref 0), some (.int (iz kind)), some (.int (iz left)), some (.int (iz 1)), some (.int (iz (pp (5 + (li 1)))))]) (st' := [.int (iz 1), .ref 11, .int (iz 5), .ref 10]) (h' := cmH (u1 (u1 (u1 z 22 pi_) 23 len) 39 rm_24) zl (uf (uf (uf (uf f 10 (iu pp (5 + (li 1)) kind)) 11 li) 12 ty) 17 gv) (uf fl 15 rs_25) tx) rfl ?_
              refine Rx.ial (g := li) rfl rfl (by omega) (by omega) (by omega) ?_
              refine Rx.iadd rfl ?_
              refine Rx.walk 1 (pc' := 124) (L' := [some (.ref 0), some (.int (iz kind)), some (.int (iz left)), some (.int (iz 1)), some (.int (iz (pp (5 + (li 1)))))]) (st' := [.int (iz (pp (5 + (li 1)))), .int (iz (5 + (li 1))), .ref 10]) (h' := cmH (u1 (u1 (u1 z 22 pi_) 23 len) 39 rm_24) zl (uf (uf (uf (uf f 10 (iu pp (5 + (li 1)) kind)) 11 li) 12 ty) 17 gv) (uf fl 15 rs_25) tx) rfl ?_
              refine Rx.ias (g := (iu pp (5 + (li 1)) kind)) (h' := cmH (u1 (u1 (u1 z 22 pi_) 23 len) 39 rm_24) zl (uf (uf (uf (uf f 10 (iu (iu pp (5 + (li 1)) kind) (5 + (li 1)) (pp (5 + (li 1))))) 11 li) 12 ty) 17 gv) (uf fl 15 rs_25) tx) rfl rfl (by omega) (by omega) (by omega) rfl ?_
              rw [show (iu (iu pp (5 + (li 1)) kind) (5 + (li 1)) (pp (5 + (li 1)))) = pp from iu_back pp _ _]
              refine Rx.iinc (b := 1) rfl rfl rfl ?_
              refine Rx.walk 0 (pc' := 128) (L' := [some (.ref 0), some (.int (iz kind)), some (.int (iz left)), some (.int (iz 2)), some (.int (iz (pp (5 + (li 1)))))]) (st' := []) (h' := cmH (u1 (u1 (u1 z 22 pi_) 23 len) 39 rm_24) zl (uf (uf (uf (uf f 10 pp) 11 li) 12 ty) 17 gv) (uf fl 15 rs_25) tx) rfl ?_
              refine Rx.walk 4 (pc' := 48) (L' := [some (.ref 0), some (.int (iz kind)), some (.int (iz left)), some (.int (iz 2)), some (.int (iz (pp (5 + (li 1)))))]) (st' := [.int (iz pi_), .int (iz 2)]) (h' := cmH (u1 (u1 (u1 z 22 pi_) 23 len) 39 rm_24) zl (uf (uf (uf (uf f 10 pp) 11 li) 12 ty) 17 gv) (uf fl 15 rs_25) tx) rfl ?_
              refine Rx.ge2 rfl rfl ⟨by omega, by omega⟩ ⟨by omega, by omega⟩ (fun b31 => ?_) (fun b31 => by omega)
              refine Rx.ret rfl ?_
              have hV : ∀ v, v ∈ ptv len pi_ (tw t) (gl gv kind left) p0 p1 ↔ v ∈ ptv len pi_ (tw t) (gl gv kind (left - 1)) (p0 * 5 + (kind + 1)) p1 ∨ v ∈ ptv len pi_ (tw t) (gl gv kind (left - 1)) p0 (p1 * 5 + (kind + 1)) := by
                intro v
                rw [gl_s (by omega) (by omega)]
                show v ∈ _ ++ _ ↔ _
                rw [if_pos (show ht p0 < len by omega), if_pos (show (2 ≤ pi_ ∧ ht p1 < len) by omega)]
                simp
              have x1 := krX_im f12 (W' := fun v => v ∈ ptv len pi_ (tw t) (gl gv kind left) p0 p1) (fun v hv => (hV v).mpr (Or.inl hv))
              have x2 := krX_im f26 (W' := fun v => v ∈ ptv len pi_ (tw t) (gl gv kind left) p0 p1) (fun v hv => (hV v).mpr (Or.inr hv))
              exact ⟨_, _, _, _, rfl, rfl, rfl, rfl, krX_tr x1 x2, fun v hv => ((hV v).mp hv).elim (fun q => hasR_x (f13 v q) x2) (fun q => f27 v q)⟩
            · refine Rx.walk 1 (pc' := 125) (L' := [some (.ref 0), some (.int (iz kind)), some (.int (iz left)), some (.int (iz 1)), some (.int (iz (pp (0 + (li 0)))))]) (st' := []) (h' := cmH (u1 (u1 (u1 z 22 pi_) 23 len) 39 rm_10) zl (uf (uf (uf (uf f 10 pp) 11 li) 12 ty) 17 gv) (uf fl 15 rs_11) tx) rfl ?_
              refine Rx.iinc (b := 1) rfl rfl rfl ?_
              refine Rx.walk 0 (pc' := 128) (L' := [some (.ref 0), some (.int (iz kind)), some (.int (iz left)), some (.int (iz 2)), some (.int (iz (pp (0 + (li 0)))))]) (st' := []) (h' := cmH (u1 (u1 (u1 z 22 pi_) 23 len) 39 rm_10) zl (uf (uf (uf (uf f 10 pp) 11 li) 12 ty) 17 gv) (uf fl 15 rs_11) tx) rfl ?_
              refine Rx.walk 4 (pc' := 48) (L' := [some (.ref 0), some (.int (iz kind)), some (.int (iz left)), some (.int (iz 2)), some (.int (iz (pp (0 + (li 0)))))]) (st' := [.int (iz pi_), .int (iz 2)]) (h' := cmH (u1 (u1 (u1 z 22 pi_) 23 len) 39 rm_10) zl (uf (uf (uf (uf f 10 pp) 11 li) 12 ty) 17 gv) (uf fl 15 rs_11) tx) rfl ?_
              refine Rx.ge2 rfl rfl ⟨by omega, by omega⟩ ⟨by omega, by omega⟩ (fun b32 => ?_) (fun b32 => by omega)
              refine Rx.ret rfl ?_
              have hV : ∀ v, v ∈ ptv len pi_ (tw t) (gl gv kind left) p0 p1 ↔ v ∈ ptv len pi_ (tw t) (gl gv kind (left - 1)) (p0 * 5 + (kind + 1)) p1 := by
                intro v
                rw [gl_s (by omega) (by omega)]
                show v ∈ _ ++ _ ↔ _
                rw [if_pos (show ht p0 < len by omega), if_neg (show ¬ (2 ≤ pi_ ∧ ht p1 < len) by omega)]
                simp
              exact ⟨_, _, _, _, rfl, rfl, rfl, rfl, krX_im f12 (fun v hv => (hV v).mpr hv), fun v hv => f13 v ((hV v).mp hv)⟩
        · refine Rx.walk 1 (pc' := 125) (L' := [some (.ref 0), some (.int (iz kind)), some (.int (iz left)), some (.int (iz 0)), none]) (st' := []) (h' := cmH (u1 (u1 (u1 z 22 pi_) 23 len) 39 rm) zl (uf (uf (uf (uf f 10 pp) 11 li) 12 ty) 17 gv) (uf fl 15 rs) tx) rfl ?_
          refine Rx.iinc (b := 1) rfl rfl rfl ?_
          refine Rx.walk 0 (pc' := 128) (L' := [some (.ref 0), some (.int (iz kind)), some (.int (iz left)), some (.int (iz 1)), none]) (st' := []) (h' := cmH (u1 (u1 (u1 z 22 pi_) 23 len) 39 rm) zl (uf (uf (uf (uf f 10 pp) 11 li) 12 ty) 17 gv) (uf fl 15 rs) tx) rfl ?_
          refine Rx.walk 4 (pc' := 48) (L' := [some (.ref 0), some (.int (iz kind)), some (.int (iz left)), some (.int (iz 1)), none]) (st' := [.int (iz pi_), .int (iz 1)]) (h' := cmH (u1 (u1 (u1 z 22 pi_) 23 len) 39 rm) zl (uf (uf (uf (uf f 10 pp) 11 li) 12 ty) 17 gv) (uf fl 15 rs) tx) rfl ?_
          refine Rx.ge2 rfl rfl ⟨by omega, by omega⟩ ⟨by omega, by omega⟩ (fun b33 => ?_) (fun b33 => ?_)
          · refine Rx.ret rfl ?_
            have hV : ∀ v, v ∈ ptv len pi_ (tw t) (gl gv kind left) p0 p1 ↔ False := by
              intro v
              rw [gl_s (by omega) (by omega)]
              show v ∈ _ ++ _ ↔ _
              rw [if_neg (show ¬ ht p0 < len by omega), if_neg (show ¬ (2 ≤ pi_ ∧ ht p1 < len) by omega)]
              simp
            exact ⟨_, _, _, _, rfl, rfl, rfl, rfl, krX_rf hI, fun v hv => absurd ((hV v).mp hv) id⟩
          · refine Rx.walk 3 (pc' := 56) (L' := [some (.ref 0), some (.int (iz kind)), some (.int (iz left)), some (.int (iz 1)), none]) (st' := [.int (iz 1), .ref 11]) (h' := cmH (u1 (u1 (u1 z 22 pi_) 23 len) 39 rm) zl (uf (uf (uf (uf f 10 pp) 11 li) 12 ty) 17 gv) (uf fl 15 rs) tx) rfl ?_
            refine Rx.ial (g := li) rfl rfl (by omega) (by omega) (by omega) ?_
            refine Rx.walk 2 (pc' := 61) (L' := [some (.ref 0), some (.int (iz kind)), some (.int (iz left)), some (.int (iz 1)), none]) (st' := [.int (iz len), .int (iz (li 1))]) (h' := cmH (u1 (u1 (u1 z 22 pi_) 23 len) 39 rm) zl (uf (uf (uf (uf f 10 pp) 11 li) 12 ty) 17 gv) (uf fl 15 rs) tx) rfl ?_
            refine Rx.ne2 rfl rfl ⟨by omega, by omega⟩ ⟨by omega, by omega⟩ (fun b34 => ?_) (fun b34 => ?_)
            · refine Rx.walk 4 (pc' := 73) (L' := [some (.ref 0), some (.int (iz kind)), some (.int (iz left)), some (.int (iz 1)), none]) (st' := [.int (iz 1), .int (iz 5), .ref 10]) (h' := cmH (u1 (u1 (u1 z 22 pi_) 23 len) 39 rm) zl (uf (uf (uf (uf f 10 pp) 11 li) 12 ty) 17 gv) (uf fl 15 rs) tx) rfl ?_
              refine Rx.imul rfl ?_
              refine Rx.walk 0 (pc' := 74) (L' := [some (.ref 0), some (.int (iz kind)), some (.int (iz left)), some (.int (iz 1)), none]) (st' := [.int (iz 5), .ref 10]) (h' := cmH (u1 (u1 (u1 z 22 pi_) 23 len) 39 rm) zl (uf (uf (uf (uf f 10 pp) 11 li) 12 ty) 17 gv) (uf fl 15 rs) tx) rfl ?_
              refine Rx.walk 3 (pc' := 79) (L' := [some (.ref 0), some (.int (iz kind)), some (.int (iz left)), some (.int (iz 1)), none]) (st' := [.int (iz 1), .ref 11, .int (iz 5), .ref 10]) (h' := cmH (u1 (u1 (u1 z 22 pi_) 23 len) 39 rm) zl (uf (uf (uf (uf f 10 pp) 11 li) 12 ty) 17 gv) (uf fl 15 rs) tx) rfl ?_
              refine Rx.ial (g := li) rfl rfl (by omega) (by omega) (by omega) ?_
              refine Rx.iadd rfl ?_
              refine Rx.ial (g := pp) rfl rfl (by omega) (by omega) (by omega) ?_
              refine Rx.walk 4 (pc' := 87) (L' := [some (.ref 0), some (.int (iz kind)), some (.int (iz left)), some (.int (iz 1)), some (.int (iz (pp (5 + (li 1)))))]) (st' := [.int (iz kind), .int (iz 1), .ref 0]) (h' := cmH (u1 (u1 (u1 z 22 pi_) 23 len) 39 rm) zl (uf (uf (uf (uf f 10 pp) 11 li) 12 ty) 17 gv) (uf fl 15 rs) tx) rfl ?_
              refine Rx.callx (m' := m_X12_push) (as := [.ref 0, .int (iz 1), .int (iz kind)]) (rest := []) rfl (m_push1 _ (u1 (u1 (u1 z 22 pi_) 23 len) 39 rm) zl (uf (uf (uf (uf f 10 pp) 11 li) 12 ty) 17 gv) (uf fl 15 rs) tx  pp li ty kind (by first | assumption | omega) (by first | assumption | omega)) (fun v35 h36 q37 => ?_)
              obtain ⟨rfl, rfl⟩ := q37
              refine Rx.walk 0 (pc' := 90) (L' := [some (.ref 0), some (.int (iz kind)), some (.int (iz left)), some (.int (iz 1)), some (.int (iz (pp (5 + (li 1)))))]) (st' := []) (h' := cmH (u1 (u1 (u1 z 22 pi_) 23 len) 39 rm) zl (uf (uf (uf (uf f 10 (iu pp (5 + (li 1)) kind)) 11 (iu li 1 ((li 1) + 1))) 12 ty) 17 gv) (uf fl 15 rs) tx) rfl ?_
              refine Rx.walk 4 (pc' := 94) (L' := [some (.ref 0), some (.int (iz kind)), some (.int (iz left)), some (.int (iz 1)), some (.int (iz (pp (5 + (li 1)))))]) (st' := [.int (iz 1), .int (iz left), .int (iz kind), .ref 0]) (h' := cmH (u1 (u1 (u1 z 22 pi_) 23 len) 39 rm) zl (uf (uf (uf (uf f 10 (iu pp (5 + (li 1)) kind)) 11 (iu li 1 ((li 1) + 1))) 12 ty) 17 gv) (uf fl 15 rs) tx) rfl ?_
              refine Rx.isub rfl ?_
              have hgl := gl_dec (gv := gv) (kind := kind) (left := left) (by omega) (by omega)
              refine Rx.callx (m' := m_X12_goIn) (as := [.ref 0, .int (iz kind), .int (iz (left - 1))]) (rest := []) rfl (ih (u1 (u1 (u1 z 22 pi_) 23 len) 39 rm) zl (uf (uf (uf (uf f 10 (iu pp (5 + (li 1)) kind)) 11 (iu li 1 ((li 1) + 1))) 12 ty) 17 gv) (uf fl 15 rs) tx  kind (left - 1) K p0 (p1 * 5 + (kind + 1)) t (iu pp (5 + (li 1)) kind) (iu li 1 ((li 1) + 1)) ty gv rm rs len pi_ (by first | assumption | omega) (by first | assumption | omega) (by first | assumption | omega) (by first | assumption | omega) (by first | assumption | omega) (mtI_push1 hM (by omega) (by omega) k1) hI (by first | assumption | omega) (by have := ht_c (p1 * 5 + (kind + 1)); have := ht_c p1; omega) (by first | assumption | omega) (by first | assumption | omega) (by omega)) (fun v44 h45 q46 => ?_)
              obtain ⟨pp_38, li_39, rm_40, rs_41, rfl, rfl, rfl, rfl, f42, f43⟩ := q46
              refine Rx.walk 0 (pc' := 98) (L' := [some (.ref 0), some (.int (iz kind)), some (.int (iz left)), some (.int (iz 1)), some (.int (iz (pp (5 + (li 1)))))]) (st' := []) (h' := cmH (u1 (u1 (u1 z 22 pi_) 23 len) 39 rm_40) zl (uf (uf (uf (uf f 10 (iu pp (5 + (li 1)) kind)) 11 (iu li 1 ((li 1) + 1))) 12 ty) 17 gv) (uf fl 15 rs_41) tx) rfl ?_
              refine Rx.walk 4 (pc' := 104) (L' := [some (.ref 0), some (.int (iz kind)), some (.int (iz left)), some (.int (iz 1)), some (.int (iz (pp (5 + (li 1)))))]) (st' := [.int (iz 1), .ref 11, .int (iz 1), .ref 11]) (h' := cmH (u1 (u1 (u1 z 22 pi_) 23 len) 39 rm_40) zl (uf (uf (uf (uf f 10 (iu pp (5 + (li 1)) kind)) 11 (iu li 1 ((li 1) + 1))) 12 ty) 17 gv) (uf fl 15 rs_41) tx) rfl ?_
              refine Rx.ial (g := (iu li 1 ((li 1) + 1))) rfl rfl (by omega) (by omega) (by omega) ?_
              refine Rx.walk 1 (pc' := 106) (L' := [some (.ref 0), some (.int (iz kind)), some (.int (iz left)), some (.int (iz 1)), some (.int (iz (pp (5 + (li 1)))))]) (st' := [.int (iz 1), .int (iz ((iu li 1 ((li 1) + 1)) 1)), .int (iz 1), .ref 11]) (h' := cmH (u1 (u1 (u1 z 22 pi_) 23 len) 39 rm_40) zl (uf (uf (uf (uf f 10 (iu pp (5 + (li 1)) kind)) 11 (iu li 1 ((li 1) + 1))) 12 ty) 17 gv) (uf fl 15 rs_41) tx) rfl ?_
              refine Rx.isub rfl ?_
              refine Rx.ias (g := (iu li 1 ((li 1) + 1))) (h' := cmH (u1 (u1 (u1 z 22 pi_) 23 len) 39 rm_40) zl (uf (uf (uf (uf f 10 (iu pp (5 + (li 1)) kind)) 11 (iu (iu li 1 ((li 1) + 1)) 1 (((iu li 1 ((li 1) + 1)) 1) - 1))) 12 ty) 17 gv) (uf fl 15 rs_41) tx) rfl rfl (by omega) (by omega) (by omega) rfl ?_
              rw [show (iu (iu li 1 ((li 1) + 1)) 1 (((iu li 1 ((li 1) + 1)) 1) - 1)) = li from iu_dec li 1]
              refine Rx.walk 4 (pc' := 114) (L' := [some (.ref 0), some (.int (iz kind)), some (.int (iz left)), some (.int (iz 1)), some (.int (iz (pp (5 + (li 1)))))]) (st' := [.int (iz 1), .int (iz 5), .ref 10]) (h' := cmH (u1 (u1 (u1 z 22 pi_) 23 len) 39 rm_40) zl (uf (uf (uf (uf f 10 (iu pp (5 + (li 1)) kind)) 11 li) 12 ty) 17 gv) (uf fl 15 rs_41) tx) rfl ?_
              refine Rx.imul rfl ?_
              refine Rx.walk 0 (pc' := 115) (L' := [some (.ref 0), some (.int (iz kind)), some (.int (iz left)), some (.int (iz 1)), some (.int (iz (pp (5 + (li 1)))))]) (st' := [.int (iz 5), .ref 10]) (h' := cmH (u1 (u1 (u1 z 22 pi_) 23 len) 39 rm_40) zl (uf (uf (uf (uf f 10 (iu pp (5 + (li 1)) kind)) 11 li) 12 ty) 17 gv) (uf fl 15 rs_41) tx) rfl ?_
              refine Rx.walk 3 (pc' := 120) (L' := [some (.ref 0), some (.int (iz kind)), some (.int (iz left)), some (.int (iz 1)), some (.int (iz (pp (5 + (li 1)))))]) (st' := [.int (iz 1), .ref 11, .int (iz 5), .ref 10]) (h' := cmH (u1 (u1 (u1 z 22 pi_) 23 len) 39 rm_40) zl (uf (uf (uf (uf f 10 (iu pp (5 + (li 1)) kind)) 11 li) 12 ty) 17 gv) (uf fl 15 rs_41) tx) rfl ?_
              refine Rx.ial (g := li) rfl rfl (by omega) (by omega) (by omega) ?_
              refine Rx.iadd rfl ?_
              refine Rx.walk 1 (pc' := 124) (L' := [some (.ref 0), some (.int (iz kind)), some (.int (iz left)), some (.int (iz 1)), some (.int (iz (pp (5 + (li 1)))))]) (st' := [.int (iz (pp (5 + (li 1)))), .int (iz (5 + (li 1))), .ref 10]) (h' := cmH (u1 (u1 (u1 z 22 pi_) 23 len) 39 rm_40) zl (uf (uf (uf (uf f 10 (iu pp (5 + (li 1)) kind)) 11 li) 12 ty) 17 gv) (uf fl 15 rs_41) tx) rfl ?_
              refine Rx.ias (g := (iu pp (5 + (li 1)) kind)) (h' := cmH (u1 (u1 (u1 z 22 pi_) 23 len) 39 rm_40) zl (uf (uf (uf (uf f 10 (iu (iu pp (5 + (li 1)) kind) (5 + (li 1)) (pp (5 + (li 1))))) 11 li) 12 ty) 17 gv) (uf fl 15 rs_41) tx) rfl rfl (by omega) (by omega) (by omega) rfl ?_
              rw [show (iu (iu pp (5 + (li 1)) kind) (5 + (li 1)) (pp (5 + (li 1)))) = pp from iu_back pp _ _]
              refine Rx.iinc (b := 1) rfl rfl rfl ?_
              refine Rx.walk 0 (pc' := 128) (L' := [some (.ref 0), some (.int (iz kind)), some (.int (iz left)), some (.int (iz 2)), some (.int (iz (pp (5 + (li 1)))))]) (st' := []) (h' := cmH (u1 (u1 (u1 z 22 pi_) 23 len) 39 rm_40) zl (uf (uf (uf (uf f 10 pp) 11 li) 12 ty) 17 gv) (uf fl 15 rs_41) tx) rfl ?_
              refine Rx.walk 4 (pc' := 48) (L' := [some (.ref 0), some (.int (iz kind)), some (.int (iz left)), some (.int (iz 2)), some (.int (iz (pp (5 + (li 1)))))]) (st' := [.int (iz pi_), .int (iz 2)]) (h' := cmH (u1 (u1 (u1 z 22 pi_) 23 len) 39 rm_40) zl (uf (uf (uf (uf f 10 pp) 11 li) 12 ty) 17 gv) (uf fl 15 rs_41) tx) rfl ?_
              refine Rx.ge2 rfl rfl ⟨by omega, by omega⟩ ⟨by omega, by omega⟩ (fun b47 => ?_) (fun b47 => by omega)
              refine Rx.ret rfl ?_
              have hV : ∀ v, v ∈ ptv len pi_ (tw t) (gl gv kind left) p0 p1 ↔ v ∈ ptv len pi_ (tw t) (gl gv kind (left - 1)) p0 (p1 * 5 + (kind + 1)) := by
                intro v
                rw [gl_s (by omega) (by omega)]
                show v ∈ _ ++ _ ↔ _
                rw [if_neg (show ¬ ht p0 < len by omega), if_pos (show (2 ≤ pi_ ∧ ht p1 < len) by omega)]
                simp
              exact ⟨_, _, _, _, rfl, rfl, rfl, rfl, krX_im f42 (fun v hv => (hV v).mpr hv), fun v hv => f43 v ((hV v).mp hv)⟩
            · refine Rx.walk 1 (pc' := 125) (L' := [some (.ref 0), some (.int (iz kind)), some (.int (iz left)), some (.int (iz 1)), none]) (st' := []) (h' := cmH (u1 (u1 (u1 z 22 pi_) 23 len) 39 rm) zl (uf (uf (uf (uf f 10 pp) 11 li) 12 ty) 17 gv) (uf fl 15 rs) tx) rfl ?_
              refine Rx.iinc (b := 1) rfl rfl rfl ?_
              refine Rx.walk 0 (pc' := 128) (L' := [some (.ref 0), some (.int (iz kind)), some (.int (iz left)), some (.int (iz 2)), none]) (st' := []) (h' := cmH (u1 (u1 (u1 z 22 pi_) 23 len) 39 rm) zl (uf (uf (uf (uf f 10 pp) 11 li) 12 ty) 17 gv) (uf fl 15 rs) tx) rfl ?_
              refine Rx.walk 4 (pc' := 48) (L' := [some (.ref 0), some (.int (iz kind)), some (.int (iz left)), some (.int (iz 2)), none]) (st' := [.int (iz pi_), .int (iz 2)]) (h' := cmH (u1 (u1 (u1 z 22 pi_) 23 len) 39 rm) zl (uf (uf (uf (uf f 10 pp) 11 li) 12 ty) 17 gv) (uf fl 15 rs) tx) rfl ?_
              refine Rx.ge2 rfl rfl ⟨by omega, by omega⟩ ⟨by omega, by omega⟩ (fun b48 => ?_) (fun b48 => by omega)
              refine Rx.ret rfl ?_
              have hV : ∀ v, v ∈ ptv len pi_ (tw t) (gl gv kind left) p0 p1 ↔ False := by
                intro v
                rw [gl_s (by omega) (by omega)]
                show v ∈ _ ++ _ ↔ _
                rw [if_neg (show ¬ ht p0 < len by omega), if_neg (show ¬ (2 ≤ pi_ ∧ ht p1 < len) by omega)]
                simp
              exact ⟨_, _, _, _, rfl, rfl, rfl, rfl, krX_rf hI, fun v hv => absurd ((hV v).mp hv) id⟩
      · refine Rx.walk 3 (pc' := 20) (L' := [some (.ref 0), some (.int (iz kind)), some (.int (iz left)), none, none]) (st' := [.int (iz 1), .int (iz kind), .ref 0]) (h' := cmH (u1 (u1 (u1 z 22 pi_) 23 len) 39 rm) zl (uf (uf (uf (uf f 10 pp) 11 li) 12 ty) 17 gv) (uf fl 15 rs) tx) rfl ?_
        refine Rx.isub rfl ?_
        refine Rx.walk 1 (pc' := 22) (L' := [some (.ref 0), some (.int (iz kind)), some (.int (iz left)), none, none]) (st' := [.int (iz kind), .int (iz (kind - 1)), .ref 0]) (h' := cmH (u1 (u1 (u1 z 22 pi_) 23 len) 39 rm) zl (uf (uf (uf (uf f 10 pp) 11 li) 12 ty) 17 gv) (uf fl 15 rs) tx) rfl ?_
        refine Rx.ne1 rfl rfl ⟨by omega, by omega⟩ (fun b49 => ?_) (fun b49 => ?_)
        · refine Rx.walk 4 (pc' := 35) (L' := [some (.ref 0), some (.int (iz kind)), some (.int (iz left)), none, none]) (st' := [.int (iz 1), .int (iz kind), .ref 17, .int (iz (kind - 1)), .ref 0]) (h' := cmH (u1 (u1 (u1 z 22 pi_) 23 len) 39 rm) zl (uf (uf (uf (uf f 10 pp) 11 li) 12 ty) 17 gv) (uf fl 15 rs) tx) rfl ?_
          refine Rx.isub rfl ?_
          refine Rx.ial (g := gv) rfl rfl (by omega) (by omega) (by omega) ?_
          have y := hg (kind - 1) (by omega) (by omega)
          have el : left = 0 := by omega
          have hgl : gl gv kind left = gl gv (kind - 1) ((gv (kind - 1))) := by rw [el]; exact gl_0 (by omega)
          have hgll := congrArg (fun x : List Int => (x.length : Int)) hgl
          refine Rx.callx (m' := m_X12_goIn) (as := [.ref 0, .int (iz (kind - 1)), .int (iz (gv (kind - 1)))]) (rest := []) rfl (ih (u1 (u1 (u1 z 22 pi_) 23 len) 39 rm) zl (uf (uf (uf (uf f 10 pp) 11 li) 12 ty) 17 gv) (uf fl 15 rs) tx  (kind - 1) (gv (kind - 1)) K p0 p1 t pp li ty gv rm rs len pi_ (by first | assumption | omega) (by first | assumption | omega) (by first | assumption | omega) (by first | assumption | omega) (by first | assumption | omega) hM hI (by first | assumption | omega) (by first | assumption | omega) (by first | assumption | omega) (by first | assumption | omega) (by omega)) (fun v56 h57 q58 => ?_)
          obtain ⟨pp_50, li_51, rm_52, rs_53, rfl, rfl, rfl, rfl, f54, f55⟩ := q58
          refine Rx.walk 0 (pc' := 40) (L' := [some (.ref 0), some (.int (iz kind)), some (.int (iz left)), none, none]) (st' := []) (h' := cmH (u1 (u1 (u1 z 22 pi_) 23 len) 39 rm_52) zl (uf (uf (uf (uf f 10 pp) 11 li) 12 ty) 17 gv) (uf fl 15 rs_53) tx) rfl ?_
          refine Rx.ret rfl ?_
          rw [hgl]
          exact ⟨_, _, _, _, rfl, rfl, rfl, rfl, f54, f55⟩
        · refine Rx.walk 2 (pc' := 37) (L' := [some (.ref 0), some (.int (iz kind)), some (.int (iz left)), none, none]) (st' := [.int (iz 0), .int (iz (kind - 1)), .ref 0]) (h' := cmH (u1 (u1 (u1 z 22 pi_) 23 len) 39 rm) zl (uf (uf (uf (uf f 10 pp) 11 li) 12 ty) 17 gv) (uf fl 15 rs) tx) rfl ?_
          have el : left = 0 := by omega
          have hgl : gl gv kind left = gl gv (kind - 1) (0) := by rw [el]; (have ek : kind = 0 := by omega); rw [ek]; exact gl_00 0
          have hgll := congrArg (fun x : List Int => (x.length : Int)) hgl
          refine Rx.callx (m' := m_X12_goIn) (as := [.ref 0, .int (iz (kind - 1)), .int (iz 0)]) (rest := []) rfl (ih (u1 (u1 (u1 z 22 pi_) 23 len) 39 rm) zl (uf (uf (uf (uf f 10 pp) 11 li) 12 ty) 17 gv) (uf fl 15 rs) tx  (kind - 1) 0 K p0 p1 t pp li ty gv rm rs len pi_ (by first | assumption | omega) (by first | assumption | omega) (by first | assumption | omega) (by first | assumption | omega) (by first | assumption | omega) hM hI (by first | assumption | omega) (by first | assumption | omega) (by first | assumption | omega) (by first | assumption | omega) (by omega)) (fun v65 h66 q67 => ?_)
          obtain ⟨pp_59, li_60, rm_61, rs_62, rfl, rfl, rfl, rfl, f63, f64⟩ := q67
          refine Rx.walk 0 (pc' := 40) (L' := [some (.ref 0), some (.int (iz kind)), some (.int (iz left)), none, none]) (st' := []) (h' := cmH (u1 (u1 (u1 z 22 pi_) 23 len) 39 rm_61) zl (uf (uf (uf (uf f 10 pp) 11 li) 12 ty) 17 gv) (uf fl 15 rs_62) tx) rfl ?_
          refine Rx.ret rfl ?_
          rw [hgl]
          exact ⟨_, _, _, _, rfl, rfl, rfl, rfl, f63, f64⟩
    · refine Rx.walk 2 (pc' := 6) (L' := [some (.ref 0), some (.int (iz kind)), some (.int (iz left)), none, none]) (st' := [.ref 0, .ref 0]) (h' := cmH (u1 (u1 (u1 z 22 pi_) 23 len) 39 rm) zl (uf (uf (uf (uf f 10 pp) 11 li) 12 ty) 17 gv) (uf fl 15 rs) tx) rfl ?_
      refine Rx.callx (m' := m_X12_tillNow) (as := [.ref 0]) (rest := [.ref 0]) rfl (m_tillNow _ (u1 (u1 (u1 z 22 pi_) 23 len) 39 rm) zl (uf (uf (uf (uf f 10 pp) 11 li) 12 ty) 17 gv) (uf fl 15 rs) tx  K p0 p1 t pp li ty hM) (fun v68 h69 q70 => ?_)
      obtain ⟨rfl, rfl⟩ := q70
      refine Rx.walk 0 (pc' := 9) (L' := [some (.ref 0), some (.int (iz kind)), some (.int (iz left)), none, none]) (st' := [.long (jz (tn p0 p1 t)), .ref 0]) (h' := cmH (u1 (u1 (u1 z 22 pi_) 23 len) 39 rm) zl (uf (uf (uf (uf f 10 pp) 11 li) 12 ty) 17 gv) (uf fl 15 rs) tx) rfl ?_
      refine Rx.callx (m' := m_X12_keepResult) (as := [.ref 0, .long (jz (tn p0 p1 t))]) (rest := []) rfl (m_keepResult _ (u1 (u1 (u1 z 22 pi_) 23 len) 39 rm) zl (uf (uf (uf (uf f 10 pp) 11 li) 12 ty) 17 gv) (uf fl 15 rs) tx  (tn p0 p1 t) rm rs htn hI) (fun v75 h76 q77 => ?_)
      obtain ⟨rm_71, rs_72, rfl, rfl, f73, f74⟩ := q77
      refine Rx.walk 0 (pc' := 12) (L' := [some (.ref 0), some (.int (iz kind)), some (.int (iz left)), none, none]) (st' := []) (h' := cmH (u1 (u1 (u1 z 22 pi_) 23 len) 39 rm_71) zl (uf (uf (uf (uf f 10 pp) 11 li) 12 ty) 17 gv) (uf fl 15 rs_72) tx) rfl ?_
      refine Rx.ret rfl ?_
      rw [gl_n (show kind < 0 by omega)]
      refine ⟨_, _, _, _, rfl, rfl, rfl, rfl, krX_im f73 (fun v hv => ?_), fun v hv => ?_⟩
      · have hv : v = tn p0 p1 t := hv
        rw [hv]; exact List.mem_singleton.mpr rfl
      · rw [List.mem_singleton.mp hv]; exact f74

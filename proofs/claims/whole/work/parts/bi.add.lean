/-! what a text does to the class: opensShop, addsCustomer, text (printed by wip/whole/genadd.py) -/
theorem insD_rep {d x : Int} (h : ¬ x < d) (r : List Int) : ∀ c : Nat, insD d (List.replicate c x ++ r) = List.replicate c x ++ insD d r
  | 0 => rfl
  | c + 1 => by
    rw [List.replicate_succ, List.cons_append, insD, if_neg h, insD_rep h r c]; rfl
theorem insD_top {d : Int} : ∀ {r : List Int}, (∀ x ∈ r, x < d) → insD d r = d :: r
  | [], _ => rfl
  | x :: r, h => by rw [insD, if_pos (h x (List.mem_cons_self ..))]
theorem insD_hG {cn : Int → Int} (hc : ∀ k : Int, 0 ≤ k → 0 ≤ cn k) : ∀ (K : Nat) (k : Int), 0 ≤ k → k < K → insD (k + 1) (hG cn K) = hG (iu cn k (cn k + 1)) K
  | 0, k, h0, h1 => by omega
  | m + 1, k, h0, h1 => by
    show insD (k + 1) (List.replicate (cn m).toNat ((m : Int) + 1) ++ hG cn m) = List.replicate ((iu cn k (cn k + 1)) m).toNat ((m : Int) + 1) ++ hG (iu cn k (cn k + 1)) m
    rw [insD_rep (by omega)]
    by_cases e : k = m
    · subst e
      rw [iu_at, insD_top (fun x hx => by have := hG_d hx; omega), hG_congr (gv := iu cn m (cn m + 1)) (gv' := cn) (fun i i0 i1 => iu_ne _ _ (by omega)), show (cn m + 1).toNat = (cn m).toNat + 1 by have := hc m (by omega); omega]
      generalize (cn m).toNat = c
      induction c with
      | zero => rfl
      | succ c ih => rw [List.replicate_succ, List.cons_append, ih, List.replicate_succ (n := c + 1)]; rfl
    · rw [iu_ne _ _ (by omega : (m : Int) ≠ k), insD_hG hc m k h0 (by omega)]
theorem insL_hG {K : Int} : ∀ (l : List Int) (cn : Int → Int), (∀ x ∈ l, 0 ≤ x ∧ x < K) → (∀ k : Int, 0 ≤ k → 0 ≤ cn k) → insL l (hG cn K.toNat) = hG (fun k => cn k + (l.count k : Int)) K.toNat
  | [], cn, _, _ => by show hG cn _ = _; exact hG_congr (fun i _ _ => by simp)
  | k :: l, cn, h1, hc => by
    have hk := h1 k (List.mem_cons_self ..)
    show insL l (insD (k + 1) (hG cn K.toNat)) = _
    rw [insD_hG hc K.toNat k hk.1 (by omega), insL_hG l _ (fun x hx => h1 x (List.mem_cons_of_mem _ hx)) (fun i i0 => by unfold iu; have := hc i i0; have := hc k hk.1; split <;> omega)]
    refine hG_congr (fun i i0 i1 => ?_)
    rw [List.count_cons]
    by_cases e : i = k
    · subst e; rw [iu_at, if_pos (by simp)]; omega
    · rw [iu_ne _ _ e, if_neg (by simpa using fun q => e q.symm)]; omega
theorem lst_lsI {g : Int → Int} : ∀ {l : List Int}, lst g 0 l → lsI l.length g = l := by
  intro l h
  refine List.ext_getElem? (fun k => ?_)
  by_cases hk : k < l.length
  · have e := lst_at h k (l[k]'hk) (by rw [List.getElem?_eq_getElem hk])
    rw [List.getElem?_eq_getElem (by rw [lsI_len]; exact hk), List.getElem?_eq_getElem hk]
    simp only [lsI, List.getElem_map, List.getElem_range]
    rw [← e]; congr 2; omega
  · rw [List.getElem?_eq_none (by rw [lsI_len]; omega), List.getElem?_eq_none (by omega)]
theorem hG_zero : ∀ (K : Nat), hG (fun _ => (0 : Int)) K = []
  | 0 => rfl
  | K + 1 => by show List.replicate 0 _ ++ hG _ K = []; rw [hG_zero K]; rfl
theorem cuP_in {n : Int} {b : Int → Int} {K pr : Int} {l : List Int} (hn : 0 ≤ n) (h : cuP n b K = (-1, some (pr, l))) : l.length ≤ 4 ∧ (∀ x ∈ l, 0 ≤ x ∧ x < K) ∧ 1 ≤ pr ∧ pr ≤ 99 := by
  have hp := nmP_props (n := n) (b := b) (lo := 1) (hi := 99) (a := 0) (by omega) hn
  cases e : (nmP n b 1 99 0).2 with
  | none => rw [cuP_1 e] at h; exact absurd (congrArg Prod.snd h) (by simp)
  | some v =>
    have hv := hp.2.2 v e
    by_cases h2 : sg n b (sks n b (nmP n b 1 99 0).1) = 58
    · have s2 := sks_n b hp.2.1
      have s1 := sks_le n b (nmP n b 1 99 0).1
      have hlt : sks n b (nmP n b 1 99 0).1 < n := by
        rcases Int.lt_or_le (sks n b (nmP n b 1 99 0).1) n with q | q
        · exact q
        · rw [sg_ge q] at h2; omega
      have hc := cnP_props (n := n) (b := b) (K := K) 4 (sks n b (nmP n b 1 99 0).1 + 1) (by omega) (by omega)
      by_cases h3 : (cnP n b K 4 (sks n b (nmP n b 1 99 0).1 + 1)).2 = []
      · rw [cuP_3 e h2 h3] at h; exact absurd (congrArg Prod.snd h) (by simp)
      · by_cases h4 : sg n b (cnP n b K 4 (sks n b (nmP n b 1 99 0).1 + 1)).1 = -1
        · rw [cuP_4 e h2 h3 h4] at h
          have h5 := congrArg Prod.snd h
          simp only [Option.some.injEq, Prod.mk.injEq] at h5
          obtain ⟨rfl, rfl⟩ := h5
          exact ⟨hc.2.2.1, hc.2.2.2, hv.1, hv.2.1⟩
        · rw [cuP_5 e h2 h3 h4] at h; exact absurd (congrArg Prod.snd h) (by simp)
    · rw [cuP_2 e h2] at h; exact absurd (congrArg Prod.snd h) (by simp)
/-- a customer that was told: what its record owes -/
def cuT (X : CuR) (w : Int → Int) (K pr : Int) (l : List Int) : Prop := ∀ cn : Int → Int, (∀ k : Int, 0 ≤ k → k < K → cn k = (l.count k : Int)) → cuI X ∧ cuG X w K pr cn ∧ cuH X w K pr cn ∧ cuQ X K pr cn
theorem cuT_of {w : Int → Int} {K prc co se ch n : Int} {b : Int → Int} {Pu Pt hd hz sp : Int → Int} {L : List (List Int)} {l : List Int} (hn : 0 ≤ n) (hw : wOK w) (h1 : 1 ≤ K) (h4 : K ≤ 4) (hE : cuP n b (k4 K) = (-1, some (prc, l))) (hco : co = l.length) (hl : lst Pt 0 (insL l [])) (hP : ∀ i : Int, 0 ≤ i → i < co → Pu i = Pt i) (hR : rcI w prc se hd hz sp ch L) (hse : se ≤ 15) (hL : ∀ l, l ∈ L ↔ ∃ m : Int, 1 ≤ m ∧ m < pw2 co ∧ ¬ dpM Pu m co.toNat ∧ prc ≤ wL w (sbM Pu m co.toNat) ∧ l = sbM Pu m co.toNat) : cuT (prc, Pu, co, se, hd, hz, sp, ch) w K prc l := by
  intro cn hcn
  rw [show k4 K = K by unfold k4; rw [if_neg (by omega)]] at hE
  obtain ⟨c1, c2, c3, c4⟩ := cuP_in hn hE
  have hz := insL_hG (K := K) l (fun _ => 0) c2 (fun _ _ => Int.le_refl _)
  rw [hG_zero] at hz
  have hlen : (insL l []).length = l.length := by have := (insL_props h4 l [] c2 List.Pairwise.nil (fun x hx => by cases hx)).1; simpa using this
  refine cu_of hw h1 h4 ⟨c3, c4⟩ ⟨by omega, by omega⟩ ?_ (fun k k0 k1 => by rw [hcn k k0 k1]; omega) hR hse hL
  rw [show co.toNat = (insL l []).length by omega, hG_congr (gv := cn) (gv' := fun k => 0 + (l.count k : Int)) (fun i i0 i1 => by rw [hcn i i0 (by omega)]; simp), ← hz]
  have : lsI (insL l []).length Pu = lsI (insL l []).length Pt := by
    unfold lsI
    refine List.map_congr_left (fun i hi => ?_)
    exact hP i (by omega) (by have := List.mem_range.mp hi; omega)
  rw [this, lst_lsI hl]
set_option maxRecDepth 100000 in
set_option maxHeartbeats 4000000 in
theorem x_shBec (d : Nat) (z : Nat → Nat → Int) (f : Nat → Int → Int) (C : Nat → CuR) (T : Nat → TsR) (rc : Nat → Nat) (tl : AmH)  (K : Int) (pi_ : Int) (len : Int) (tr : Int) (w : Int → Int) (K1 : Int) (t0 : Int) (t1 : Int) (t2 : Int) (g1 : Int → Int) : Rx (d) m_X7_become 0 (am_ent [.ref 3, .ref 5] 2) [] (cxW (u2 (u2 (u2 (u2 (u2 (u2 (u2 (u2 z 3 1 K) 3 2 pi_) 3 3 len) 3 4 tr) 5 1 K1) 5 2 t0) 5 3 t1) 5 4 t2) (uf (uf f 4 w) 6 g1) C T rc tl) (fun rv h => ∃ w' : Int → Int, rv = none ∧ h = cxW (u2 (u2 (u2 (u2 (u2 (u2 (u2 (u2 z 3 1 K1) 3 2 t0) 3 3 t1) 3 4 t2) 5 1 K1) 5 2 t0) 5 3 t1) 5 4 t2) (uf (uf f 4 w') 6 g1) C T rc tl ∧ (∀ i : Int, 0 ≤ i → i < 5 → w' i = g1 i)) := by
  refine Rx.walk 0 (pc' := 0) (L' := [some (.ref 3), some (.ref 5)]) (st' := []) (h' := cxW (u2 (u2 (u2 (u2 (u2 (u2 (u2 (u2 z 3 1 K) 3 2 pi_) 3 3 len) 3 4 tr) 5 1 K1) 5 2 t0) 5 3 t1) 5 4 t2) (uf (uf f 4 w) 6 g1) C T rc tl) rfl ?_
  refine Rx.walk 9 (pc' := 15) (L' := [some (.ref 3), some (.ref 5)]) (st' := [.int (iz 5), .int (iz 0), .ref 4, .int (iz 0), .ref 6]) (h' := cxW (u2 (u2 (u2 (u2 (u2 (u2 (u2 (u2 z 3 1 K) 3 2 pi_) 3 3 len) 3 4 tr) 5 1 K1) 5 2 t0) 5 3 t1) 5 4 t2) (uf (uf f 4 w) 6 g1) C T rc tl) rfl ?_
  refine Rx.cpy (f := g1) (g := w) (h' := cxW (u2 (u2 (u2 (u2 (u2 (u2 (u2 (u2 z 3 1 K) 3 2 pi_) 3 3 len) 3 4 tr) 5 1 K1) 5 2 t0) 5 3 t1) 5 4 t2) (uf (uf f 4 (cpI g1 w 5)) 6 g1) C T rc tl) 5 rfl rfl rfl rfl rfl (by omega) (by omega) (by omega) rfl ?_
  refine Rx.walk 0 (pc' := 18) (L' := [some (.ref 3), some (.ref 5)]) (st' := []) (h' := cxW (u2 (u2 (u2 (u2 (u2 (u2 (u2 (u2 z 3 1 K) 3 2 pi_) 3 3 len) 3 4 tr) 5 1 K1) 5 2 t0) 5 3 t1) 5 4 t2) (uf (uf f 4 (cpI g1 w 5)) 6 g1) C T rc tl) rfl ?_
  refine Rx.walk 16 (pc' := 50) (L' := [some (.ref 3), some (.ref 5)]) (st' := []) (h' := cxW (u2 (u2 (u2 (u2 (u2 (u2 (u2 (u2 z 3 1 K1) 3 2 t0) 3 3 t1) 3 4 t2) 5 1 K1) 5 2 t0) 5 3 t1) 5 4 t2) (uf (uf f 4 (cpI g1 w 5)) 6 g1) C T rc tl) rfl ?_
  refine Rx.ret rfl ?_
  exact ⟨_, rfl, rfl, fun i a b => cpI_lt a (by omega)⟩
set_option maxRecDepth 100000 in
set_option maxHeartbeats 4000000 in
theorem x_fill44 (d : Nat) (z : Nat → Nat → Int) (f : Nat → Int → Int) (C : Nat → CuR) (T : Nat → TsR) (rc : Nat → Nat) (tl : AmH)  (sv : Int → Int) : Rx (d) m_J7_fill_53178 0 (am_ent [.ref 44, .int (iz 0)] 4) [] (cxW z (uf f 44 sv) C T rc tl) (fun rv h => ∃ sv' : Int → Int, rv = none ∧ h = cxW z (uf f 44 sv') C T rc tl ∧ (∀ i : Int, 0 ≤ i → i < 4 → sv' i = 0)) := by
  refine Rx.walk 0 (pc' := 0) (L' := [some (.ref 44), some (.int (iz 0)), none, none]) (st' := []) (h' := cxW z (uf f 44 sv) C T rc tl) rfl ?_
  refine Rx.walk 7 (pc' := 7) (L' := [some (.ref 44), some (.int (iz 0)), some (.int (iz 0)), some (.int (iz 4))]) (st' := [.int (iz 4), .int (iz 0)]) (h' := cxW z (uf f 44 sv) C T rc tl) rfl ?_
  refine Rx.ge2 rfl rfl ⟨by omega, by omega⟩ ⟨by omega, by omega⟩ (fun b1 => by omega) (fun b1 => ?_)
  refine Rx.walk 3 (pc' := 13) (L' := [some (.ref 44), some (.int (iz 0)), some (.int (iz 0)), some (.int (iz 4))]) (st' := [.int (iz 0), .int (iz 0), .ref 44]) (h' := cxW z (uf f 44 sv) C T rc tl) rfl ?_
  refine Rx.ias (g := sv) (h' := cxW z (uf f 44 (iu sv 0 0)) C T rc tl) rfl rfl (by omega) (by omega) (by omega) rfl ?_
  refine Rx.iinc (b := 1) rfl rfl rfl ?_
  refine Rx.walk 0 (pc' := 17) (L' := [some (.ref 44), some (.int (iz 0)), some (.int (iz 1)), some (.int (iz 4))]) (st' := []) (h' := cxW z (uf f 44 (iu sv 0 0)) C T rc tl) rfl ?_
  refine Rx.walk 3 (pc' := 7) (L' := [some (.ref 44), some (.int (iz 0)), some (.int (iz 1)), some (.int (iz 4))]) (st' := [.int (iz 4), .int (iz 1)]) (h' := cxW z (uf f 44 (iu sv 0 0)) C T rc tl) rfl ?_
  refine Rx.ge2 rfl rfl ⟨by omega, by omega⟩ ⟨by omega, by omega⟩ (fun b2 => by omega) (fun b2 => ?_)
  refine Rx.walk 3 (pc' := 13) (L' := [some (.ref 44), some (.int (iz 0)), some (.int (iz 1)), some (.int (iz 4))]) (st' := [.int (iz 0), .int (iz 1), .ref 44]) (h' := cxW z (uf f 44 (iu sv 0 0)) C T rc tl) rfl ?_
  refine Rx.ias (g := (iu sv 0 0)) (h' := cxW z (uf f 44 (iu (iu sv 0 0) 1 0)) C T rc tl) rfl rfl (by omega) (by omega) (by omega) rfl ?_
  refine Rx.iinc (b := 1) rfl rfl rfl ?_
  refine Rx.walk 0 (pc' := 17) (L' := [some (.ref 44), some (.int (iz 0)), some (.int (iz 2)), some (.int (iz 4))]) (st' := []) (h' := cxW z (uf f 44 (iu (iu sv 0 0) 1 0)) C T rc tl) rfl ?_
  refine Rx.walk 3 (pc' := 7) (L' := [some (.ref 44), some (.int (iz 0)), some (.int (iz 2)), some (.int (iz 4))]) (st' := [.int (iz 4), .int (iz 2)]) (h' := cxW z (uf f 44 (iu (iu sv 0 0) 1 0)) C T rc tl) rfl ?_
  refine Rx.ge2 rfl rfl ⟨by omega, by omega⟩ ⟨by omega, by omega⟩ (fun b3 => by omega) (fun b3 => ?_)
  refine Rx.walk 3 (pc' := 13) (L' := [some (.ref 44), some (.int (iz 0)), some (.int (iz 2)), some (.int (iz 4))]) (st' := [.int (iz 0), .int (iz 2), .ref 44]) (h' := cxW z (uf f 44 (iu (iu sv 0 0) 1 0)) C T rc tl) rfl ?_
  refine Rx.ias (g := (iu (iu sv 0 0) 1 0)) (h' := cxW z (uf f 44 (iu (iu (iu sv 0 0) 1 0) 2 0)) C T rc tl) rfl rfl (by omega) (by omega) (by omega) rfl ?_
  refine Rx.iinc (b := 1) rfl rfl rfl ?_
  refine Rx.walk 0 (pc' := 17) (L' := [some (.ref 44), some (.int (iz 0)), some (.int (iz 3)), some (.int (iz 4))]) (st' := []) (h' := cxW z (uf f 44 (iu (iu (iu sv 0 0) 1 0) 2 0)) C T rc tl) rfl ?_
  refine Rx.walk 3 (pc' := 7) (L' := [some (.ref 44), some (.int (iz 0)), some (.int (iz 3)), some (.int (iz 4))]) (st' := [.int (iz 4), .int (iz 3)]) (h' := cxW z (uf f 44 (iu (iu (iu sv 0 0) 1 0) 2 0)) C T rc tl) rfl ?_
  refine Rx.ge2 rfl rfl ⟨by omega, by omega⟩ ⟨by omega, by omega⟩ (fun b4 => by omega) (fun b4 => ?_)
  refine Rx.walk 3 (pc' := 13) (L' := [some (.ref 44), some (.int (iz 0)), some (.int (iz 3)), some (.int (iz 4))]) (st' := [.int (iz 0), .int (iz 3), .ref 44]) (h' := cxW z (uf f 44 (iu (iu (iu sv 0 0) 1 0) 2 0)) C T rc tl) rfl ?_
  refine Rx.ias (g := (iu (iu (iu sv 0 0) 1 0) 2 0)) (h' := cxW z (uf f 44 (iu (iu (iu (iu sv 0 0) 1 0) 2 0) 3 0)) C T rc tl) rfl rfl (by omega) (by omega) (by omega) rfl ?_
  refine Rx.iinc (b := 1) rfl rfl rfl ?_
  refine Rx.walk 0 (pc' := 17) (L' := [some (.ref 44), some (.int (iz 0)), some (.int (iz 4)), some (.int (iz 4))]) (st' := []) (h' := cxW z (uf f 44 (iu (iu (iu (iu sv 0 0) 1 0) 2 0) 3 0)) C T rc tl) rfl ?_
  refine Rx.walk 3 (pc' := 7) (L' := [some (.ref 44), some (.int (iz 0)), some (.int (iz 4)), some (.int (iz 4))]) (st' := [.int (iz 4), .int (iz 4)]) (h' := cxW z (uf f 44 (iu (iu (iu (iu sv 0 0) 1 0) 2 0) 3 0)) C T rc tl) rfl ?_
  refine Rx.ge2 rfl rfl ⟨by omega, by omega⟩ ⟨by omega, by omega⟩ (fun b5 => ?_) (fun b5 => by omega)
  refine Rx.ret rfl ?_
  refine ⟨_, rfl, rfl, fun i a b => ?_⟩
  rcases (show i = 0 ∨ i = 1 ∨ i = 2 ∨ i = 3 by omega) with q | q | q | q <;> subst q <;> rfl
set_option maxRecDepth 100000 in
set_option maxHeartbeats 4000000 in
theorem x_opShop (d : Nat) (z : Nat → Nat → Int) (f : Nat → Int → Int) (C : Nat → CuR) (T : Nat → TsR) (rc : Nat → Nat) (tl : AmH)  (K : Int) (pi_ : Int) (len : Int) (tr : Int) (w : Int → Int) (K1 : Int) (t0 : Int) (t1 : Int) (t2 : Int) (g1 : Int → Int) (M : Int) (sd : Int) (ik : Int) (sv : Int → Int) (hK1 : 0 ≤ K1 ∧ K1 ≤ 4) : Rx (d + 1) m_X11_opensShop 0 (am_ent [.ref 0] 1) [] (cxW (u2 (u2 (u2 (u2 (u2 (u2 (u2 (u2 (u2 (u2 (u2 z 0 6 M) 0 9 sd) 0 11 ik) 3 1 K) 3 2 pi_) 3 3 len) 3 4 tr) 5 1 K1) 5 2 t0) 5 3 t1) 5 4 t2) (uf (uf (uf f 4 w) 6 g1) 44 sv) C T rc tl) (fun rv h => ∃ w' : Int → Int, ∃ sv' : Int → Int, rv = some (.int (iz K1)) ∧ h = cxW (u2 (u2 (u2 (u2 (u2 (u2 (u2 (u2 (u2 (u2 (u2 z 0 6 0) 0 9 0) 0 11 0) 3 1 K1) 3 2 t0) 3 3 t1) 3 4 t2) 5 1 K1) 5 2 t0) 5 3 t1) 5 4 t2) (uf (uf (uf f 4 w') 6 g1) 44 sv') C T rc tl ∧ (∀ i : Int, 0 ≤ i → i < 5 → w' i = g1 i) ∧ (∀ i : Int, 0 ≤ i → i < 4 → sv' i = 0)) := by
  refine Rx.walk 0 (pc' := 0) (L' := [some (.ref 0)]) (st' := []) (h' := cxW (u2 (u2 (u2 (u2 (u2 (u2 (u2 (u2 (u2 (u2 (u2 z 0 6 M) 0 9 sd) 0 11 ik) 3 1 K) 3 2 pi_) 3 3 len) 3 4 tr) 5 1 K1) 5 2 t0) 5 3 t1) 5 4 t2) (uf (uf (uf f 4 w) 6 g1) 44 sv) C T rc tl) rfl ?_
  refine Rx.walk 4 (pc' := 8) (L' := [some (.ref 0)]) (st' := [.ref 5, .ref 3]) (h' := cxW (u2 (u2 (u2 (u2 (u2 (u2 (u2 (u2 (u2 (u2 (u2 z 0 6 M) 0 9 sd) 0 11 ik) 3 1 K) 3 2 pi_) 3 3 len) 3 4 tr) 5 1 K1) 5 2 t0) 5 3 t1) 5 4 t2) (uf (uf (uf f 4 w) 6 g1) 44 sv) C T rc tl) rfl ?_
  refine Rx.callx (m' := m_X7_become) (as := [.ref 3, .ref 5]) (rest := []) rfl (x_shBec _ (u2 (u2 (u2 z 0 6 M) 0 9 sd) 0 11 ik) (uf f 44 sv) C T rc tl  K pi_ len tr w K1 t0 t1 t2 g1 ) (fun v3 h4 q5 => ?_)
  obtain ⟨w_1, rfl, rfl, f2⟩ := q5
  refine Rx.walk 0 (pc' := 11) (L' := [some (.ref 0)]) (st' := []) (h' := cxW (u2 (u2 (u2 (u2 (u2 (u2 (u2 (u2 (u2 (u2 (u2 z 0 6 M) 0 9 sd) 0 11 ik) 3 1 K1) 3 2 t0) 3 3 t1) 3 4 t2) 5 1 K1) 5 2 t0) 5 3 t1) 5 4 t2) (uf (uf (uf f 4 w_1) 6 g1) 44 sv) C T rc tl) rfl ?_
  refine Rx.walk 12 (pc' := 31) (L' := [some (.ref 0)]) (st' := [.int (iz 0), .ref 44]) (h' := cxW (u2 (u2 (u2 (u2 (u2 (u2 (u2 (u2 (u2 (u2 (u2 z 0 6 0) 0 9 0) 0 11 0) 3 1 K1) 3 2 t0) 3 3 t1) 3 4 t2) 5 1 K1) 5 2 t0) 5 3 t1) 5 4 t2) (uf (uf (uf f 4 w_1) 6 g1) 44 sv) C T rc tl) rfl ?_
  refine Rx.callx (m' := m_J7_fill_53178) (as := [.ref 44, .int (iz 0)]) (rest := []) rfl (x_fill44 _ (u2 (u2 (u2 (u2 (u2 (u2 (u2 (u2 (u2 (u2 (u2 z 0 6 0) 0 9 0) 0 11 0) 3 1 K1) 3 2 t0) 3 3 t1) 3 4 t2) 5 1 K1) 5 2 t0) 5 3 t1) 5 4 t2) (uf (uf f 4 w_1) 6 g1) C T rc tl  sv ) (fun v8 h9 q10 => ?_)
  obtain ⟨sv_6, rfl, rfl, f7⟩ := q10
  refine Rx.walk 0 (pc' := 34) (L' := [some (.ref 0)]) (st' := []) (h' := cxW (u2 (u2 (u2 (u2 (u2 (u2 (u2 (u2 (u2 (u2 (u2 z 0 6 0) 0 9 0) 0 11 0) 3 1 K1) 3 2 t0) 3 3 t1) 3 4 t2) 5 1 K1) 5 2 t0) 5 3 t1) 5 4 t2) (uf (uf (uf f 4 w_1) 6 g1) 44 sv_6) C T rc tl) rfl ?_
  refine Rx.walk 3 (pc' := 41) (L' := [some (.ref 0)]) (st' := [.int (iz K1)]) (h' := cxW (u2 (u2 (u2 (u2 (u2 (u2 (u2 (u2 (u2 (u2 (u2 z 0 6 0) 0 9 0) 0 11 0) 3 1 K1) 3 2 t0) 3 3 t1) 3 4 t2) 5 1 K1) 5 2 t0) 5 3 t1) 5 4 t2) (uf (uf (uf f 4 w_1) 6 g1) 44 sv_6) C T rc tl) rfl ?_
  refine Rx.ret rfl ?_
  exact ⟨_, _, rfl, rfl, f2, f7⟩
set_option maxRecDepth 100000 in
set_option maxHeartbeats 4000000 in
theorem x_text0 (d : Nat) (z : Nat → Nat → Int) (f : Nat → Int → Int) (C : Nat → CuR) (T : Nat → TsR) (rc : Nat → Nat) (tl : AmH)  (n : Int) (b : Int → Int) (at_ : Int) (K : Int) (pi_ : Int) (len : Int) (tr : Int) (w : Int → Int) (K1 : Int) (t0 : Int) (t1 : Int) (t2 : Int) (g1 : Int → Int) (M : Int) (sd : Int) (ik : Int) (sv : Int → Int) (hT : tOK n b) (hg : shI g1) (hK1 : 0 ≤ K1 ∧ K1 ≤ 4) : Rx (d + 7) m_X11_text 0 (am_ent [.ref 0, .int (iz 0)] 3) [] (cxW (u2 (u2 (u2 (u2 (u2 (u2 (u2 (u2 (u2 (u2 (u2 (u2 (u2 z 0 6 M) 0 9 sd) 0 11 ik) 1 1 n) 1 2 at_) 3 1 K) 3 2 pi_) 3 3 len) 3 4 tr) 5 1 K1) 5 2 t0) 5 3 t1) 5 4 t2) (uf (uf (uf (uf f 2 b) 4 w) 6 g1) 44 sv) C T rc tl) (fun rv h => ∃ r : Int, ∃ n' : Int, ∃ at' : Int, ∃ K' : Int, ∃ pi_' : Int, ∃ len' : Int, ∃ tr' : Int, ∃ w' : Int → Int, ∃ K1' : Int, ∃ t0' : Int, ∃ t1' : Int, ∃ t2' : Int, ∃ g1' : Int → Int, ∃ M' : Int, ∃ sd' : Int, ∃ ik' : Int, ∃ sv' : Int → Int, rv = some (.int (iz r)) ∧ h = cxW (u2 (u2 (u2 (u2 (u2 (u2 (u2 (u2 (u2 (u2 (u2 (u2 (u2 z 0 6 M') 0 9 sd') 0 11 ik') 1 1 n') 1 2 at') 3 1 K') 3 2 pi_') 3 3 len') 3 4 tr') 5 1 K1') 5 2 t0') 5 3 t1') 5 4 t2') (uf (uf (uf (uf f 2 b) 4 w') 6 g1') 44 sv') C T rc tl ∧ (((shP n b).1 ≠ -1 ∧ r = -1 ∧ n' = n ∧ K' = K ∧ pi_' = pi_ ∧ len' = len ∧ tr' = tr ∧ w' = w ∧ M' = M ∧ sd' = sd ∧ ik' = ik ∧ sv' = sv) ∨ (∃ l : List Int, shP n b = (-1, some (l, pi_', len', tr')) ∧ 0 < l.length ∧ r = l.length ∧ K' = l.length ∧ lst w' 1 l ∧ shI w' ∧ n' = 0 ∧ M' = 0 ∧ sd' = 0 ∧ ik' = 0 ∧ ∀ i : Int, 0 ≤ i → i < 4 → sv' i = 0)) ∧ shI g1' ∧ (0 ≤ K1' ∧ K1' ≤ 4) ∧ (0 ≤ at' ∧ at' ≤ n)) := by
  obtain ⟨hT1, hT2, hT3⟩ := id hT
  refine Rx.walk 0 (pc' := 0) (L' := [some (.ref 0), some (.int (iz 0)), none]) (st' := []) (h' := cxW (u2 (u2 (u2 (u2 (u2 (u2 (u2 (u2 (u2 (u2 (u2 (u2 (u2 z 0 6 M) 0 9 sd) 0 11 ik) 1 1 n) 1 2 at_) 3 1 K) 3 2 pi_) 3 3 len) 3 4 tr) 5 1 K1) 5 2 t0) 5 3 t1) 5 4 t2) (uf (uf (uf (uf f 2 b) 4 w) 6 g1) 44 sv) C T rc tl) rfl ?_
  refine Rx.walk 2 (pc' := 2) (L' := [some (.ref 0), some (.int (iz 0)), none]) (st' := [.int (iz 0), .ref 0]) (h' := cxW (u2 (u2 (u2 (u2 (u2 (u2 (u2 (u2 (u2 (u2 (u2 (u2 (u2 z 0 6 M) 0 9 sd) 0 11 ik) 1 1 n) 1 2 at_) 3 1 K) 3 2 pi_) 3 3 len) 3 4 tr) 5 1 K1) 5 2 t0) 5 3 t1) 5 4 t2) (uf (uf (uf (uf f 2 b) 4 w) 6 g1) 44 sv) C T rc tl) rfl ?_
  refine Rx.callx (m' := m_X11_fault) (as := [.ref 0, .int (iz 0)]) (rest := []) rfl (x_fault0 _ (u2 (u2 (u2 (u2 (u2 (u2 (u2 z 0 6 M) 0 9 sd) 0 11 ik) 3 1 K) 3 2 pi_) 3 3 len) 3 4 tr) (uf (uf f 4 w) 44 sv) C T rc tl  n b at_ K1 t0 t1 t2 g1 hT hg hK1) (fun v14 h15 q16 => ?_)
  obtain ⟨r_1, at_2, K1_3, t0_4, t1_5, t2_6, g1_7, rfl, rfl, f8, f9, f10, f11, f12, f13⟩ := q16
  refine Rx.walk 0 (pc' := 5) (L' := [some (.ref 0), some (.int (iz 0)), none]) (st' := [.int (iz r_1)]) (h' := cxW (u2 (u2 (u2 (u2 (u2 (u2 (u2 (u2 (u2 (u2 (u2 (u2 (u2 z 0 6 M) 0 9 sd) 0 11 ik) 1 1 n) 1 2 at_2) 3 1 K) 3 2 pi_) 3 3 len) 3 4 tr) 5 1 K1_3) 5 2 t0_4) 5 3 t1_5) 5 4 t2_6) (uf (uf (uf (uf f 2 b) 4 w) 6 g1_7) 44 sv) C T rc tl) rfl ?_
  refine Rx.walk 1 (pc' := 6) (L' := [some (.ref 0), some (.int (iz 0)), none]) (st' := [.int (iz (-1)), .int (iz r_1)]) (h' := cxW (u2 (u2 (u2 (u2 (u2 (u2 (u2 (u2 (u2 (u2 (u2 (u2 (u2 z 0 6 M) 0 9 sd) 0 11 ik) 1 1 n) 1 2 at_2) 3 1 K) 3 2 pi_) 3 3 len) 3 4 tr) 5 1 K1_3) 5 2 t0_4) 5 3 t1_5) 5 4 t2_6) (uf (uf (uf (uf f 2 b) 4 w) 6 g1_7) 44 sv) C T rc tl) rfl ?_
  refine Rx.eq2 rfl rfl ⟨by omega, by omega⟩ ⟨by omega, by omega⟩ (fun b17 => ?_) (fun b17 => ?_)
  · refine Rx.walk 1 (pc' := 12) (L' := [some (.ref 0), some (.int (iz 0)), none]) (st' := [.int (iz 0)]) (h' := cxW (u2 (u2 (u2 (u2 (u2 (u2 (u2 (u2 (u2 (u2 (u2 (u2 (u2 z 0 6 M) 0 9 sd) 0 11 ik) 1 1 n) 1 2 at_2) 3 1 K) 3 2 pi_) 3 3 len) 3 4 tr) 5 1 K1_3) 5 2 t0_4) 5 3 t1_5) 5 4 t2_6) (uf (uf (uf (uf f 2 b) 4 w) 6 g1_7) 44 sv) C T rc tl) rfl ?_
    refine Rx.ne1 rfl rfl ⟨by omega, by omega⟩ (fun b18 => by omega) (fun b18 => ?_)
    refine Rx.walk 1 (pc' := 16) (L' := [some (.ref 0), some (.int (iz 0)), none]) (st' := [.ref 0]) (h' := cxW (u2 (u2 (u2 (u2 (u2 (u2 (u2 (u2 (u2 (u2 (u2 (u2 (u2 z 0 6 M) 0 9 sd) 0 11 ik) 1 1 n) 1 2 at_2) 3 1 K) 3 2 pi_) 3 3 len) 3 4 tr) 5 1 K1_3) 5 2 t0_4) 5 3 t1_5) 5 4 t2_6) (uf (uf (uf (uf f 2 b) 4 w) 6 g1_7) 44 sv) C T rc tl) rfl ?_
    refine Rx.callx (m' := m_X11_opensShop) (as := [.ref 0]) (rest := []) rfl (x_opShop _ (u2 (u2 z 1 1 n) 1 2 at_2) (uf f 2 b) C T rc tl  K pi_ len tr w K1_3 t0_4 t1_5 t2_6 g1_7 M sd ik sv (by omega)) (fun v23 h24 q25 => ?_)
    obtain ⟨w_19, sv_20, rfl, rfl, f21, f22⟩ := q25
    refine Rx.walk 0 (pc' := 19) (L' := [some (.ref 0), some (.int (iz 0)), none]) (st' := [.int (iz K1_3)]) (h' := cxW (u2 (u2 (u2 (u2 (u2 (u2 (u2 (u2 (u2 (u2 (u2 (u2 (u2 z 0 6 0) 0 9 0) 0 11 0) 1 1 n) 1 2 at_2) 3 1 K1_3) 3 2 t0_4) 3 3 t1_5) 3 4 t2_6) 5 1 K1_3) 5 2 t0_4) 5 3 t1_5) 5 4 t2_6) (uf (uf (uf (uf f 2 b) 4 w_19) 6 g1_7) 44 sv_20) C T rc tl) rfl ?_
    refine Rx.walk 4 (pc' := 41) (L' := [some (.ref 0), some (.int (iz 0)), some (.int (iz K1_3))]) (st' := [.int (iz (-1)), .int (iz K1_3)]) (h' := cxW (u2 (u2 (u2 (u2 (u2 (u2 (u2 (u2 (u2 (u2 (u2 (u2 (u2 z 0 6 0) 0 9 0) 0 11 0) 1 1 n) 1 2 at_2) 3 1 K1_3) 3 2 t0_4) 3 3 t1_5) 3 4 t2_6) 5 1 K1_3) 5 2 t0_4) 5 3 t1_5) 5 4 t2_6) (uf (uf (uf (uf f 2 b) 4 w_19) 6 g1_7) 44 sv_20) C T rc tl) rfl ?_
    refine Rx.eq2 rfl rfl ⟨by omega, by omega⟩ ⟨by omega, by omega⟩ (fun b26 => by omega) (fun b26 => ?_)
    refine Rx.walk 5 (pc' := 53) (L' := [some (.ref 0), some (.int (iz 0)), some (.int (iz K1_3))]) (st' := [.int (iz K1_3)]) (h' := cxW (u2 (u2 (u2 (u2 (u2 (u2 (u2 (u2 (u2 (u2 (u2 (u2 (u2 z 0 6 0) 0 9 0) 0 11 0) 1 1 0) 1 2 at_2) 3 1 K1_3) 3 2 t0_4) 3 3 t1_5) 3 4 t2_6) 5 1 K1_3) 5 2 t0_4) 5 3 t1_5) 5 4 t2_6) (uf (uf (uf (uf f 2 b) 4 w_19) 6 g1_7) 44 sv_20) C T rc tl) rfl ?_
    refine Rx.ret rfl ?_
    obtain ⟨l, hE1, hE2, hE3, hE4⟩ := f9 (by omega)
    have hlt : l.length ≤ 4 := by omega
    refine ⟨_, _, _, _, _, _, _, _, _, _, _, _, _, _, _, _, _, rfl, rfl, Or.inr ⟨l, hE1, hE3, hE2, hE2, ?_, ?_, rfl, rfl, rfl, rfl, f22⟩, f11, f10, f13⟩
    · exact lst_cg (fun j j0 j1 => f21 j (by omega) (by omega)) hE4
    · exact ⟨by rw [f21 0 (by omega) (by omega)]; exact f11.1, fun i i0 i1 => by rw [f21 i i0 (by omega)]; exact f11.2 i i0 i1⟩
  · refine Rx.walk 1 (pc' := 10) (L' := [some (.ref 0), some (.int (iz 0)), none]) (st' := [.int (iz (-1))]) (h' := cxW (u2 (u2 (u2 (u2 (u2 (u2 (u2 (u2 (u2 (u2 (u2 (u2 (u2 z 0 6 M) 0 9 sd) 0 11 ik) 1 1 n) 1 2 at_2) 3 1 K) 3 2 pi_) 3 3 len) 3 4 tr) 5 1 K1_3) 5 2 t0_4) 5 3 t1_5) 5 4 t2_6) (uf (uf (uf (uf f 2 b) 4 w) 6 g1_7) 44 sv) C T rc tl) rfl ?_
    refine Rx.ret rfl ?_
    exact ⟨_, _, _, _, _, _, _, _, _, _, _, _, _, _, _, _, _, rfl, rfl, Or.inl ⟨by rw [← f8]; omega, rfl, rfl, rfl, rfl, rfl, rfl, rfl, rfl, rfl, rfl, rfl⟩, f11, f10, f13⟩
set_option maxRecDepth 100000 in
set_option maxHeartbeats 4000000 in
theorem x_addsC0 (d : Nat) (z : Nat → Nat → Int) (f : Nat → Int → Int) (C : Nat → CuR) (T : Nat → TsR) (rc : Nat → Nat) (tl : AmH)  (K : Int) (w : Int → Int) (pr : Int) (co : Int) (cg : Int → Int) (hK : 1 ≤ K ∧ K ≤ 4) (hw : wOK w) (hco : 0 ≤ co ∧ co ≤ 4) (hP : ∀ i : Int, 0 ≤ i → i < co → 1 ≤ cg i ∧ cg i ≤ 4) (hpr : 1 ≤ pr ∧ pr ≤ 99) : Rx (d + 3) m_X11_addsCustomer 0 (am_ent [.ref 0] 1) [] (cxW (u2 (u2 (u2 (u2 z 0 6 0) 3 1 K) 7 0 pr) 7 2 co) (uf (uf f 4 w) 8 cg) C T rc tl) (fun rv h => ∃ C' : Nat → CuR, ∃ X' : CuR, ∃ L' : List (List Int), rv = some (.int (iz 0)) ∧ h = cxW (u2 (u2 (u2 (u2 z 0 6 1) 3 1 K) 7 0 pr) 7 2 co) (uf (uf f 4 w) 8 cg) C' T rc tl ∧ C' = uC C 0 X' ∧ X' = (pr, X'.2.1, co, X'.2.2.2.1, X'.2.2.2.2.1, X'.2.2.2.2.2.1, X'.2.2.2.2.2.2.1, X'.2.2.2.2.2.2.2) ∧ (∀ i : Int, 0 ≤ i → i < co → X'.2.1 i = cg i) ∧ rcI w pr X'.2.2.2.1 X'.2.2.2.2.1 X'.2.2.2.2.2.1 X'.2.2.2.2.2.2.1 X'.2.2.2.2.2.2.2 L' ∧ ((∀ l, l ∈ L' ↔ ∃ m : Int, 1 ≤ m ∧ m < pw2 co ∧ ¬ dpM X'.2.1 m co.toNat ∧ pr ≤ wL w (sbM X'.2.1 m co.toNat) ∧ l = sbM X'.2.1 m co.toNat)) ∧ X'.2.2.2.1 ≤ 15) := by
  obtain ⟨hK1, hK4⟩ := id hK
  refine Rx.walk 0 (pc' := 0) (L' := [some (.ref 0)]) (st' := []) (h' := cxW (u2 (u2 (u2 (u2 z 0 6 0) 3 1 K) 7 0 pr) 7 2 co) (uf (uf f 4 w) 8 cg) C T rc tl) rfl ?_
  refine Rx.walk 2 (pc' := 4) (L' := [some (.ref 0)]) (st' := [.ref 3]) (h' := cxW (u2 (u2 (u2 (u2 z 0 6 0) 3 1 K) 7 0 pr) 7 2 co) (uf (uf f 4 w) 8 cg) C T rc tl) rfl ?_
  refine Rx.callx (m' := m_X7_isOpen) (as := [.ref 3]) (rest := []) rfl (x_sopen _ (u2 (u2 (u2 z 0 6 0) 7 0 pr) 7 2 co) (uf (uf f 4 w) 8 cg) C T rc tl  K ⟨by omega, by omega⟩) (fun v3 h4 q5 => ?_)
  obtain ⟨r_1, rfl, rfl, f2⟩ := q5
  refine Rx.walk 0 (pc' := 7) (L' := [some (.ref 0)]) (st' := [.int (iz r_1)]) (h' := cxW (u2 (u2 (u2 (u2 z 0 6 0) 3 1 K) 7 0 pr) 7 2 co) (uf (uf f 4 w) 8 cg) C T rc tl) rfl ?_
  refine Rx.eq1 rfl rfl ⟨by omega, by omega⟩ (fun b6 => by omega) (fun b6 => ?_)
  refine Rx.walk 3 (pc' := 15) (L' := [some (.ref 0)]) (st' := [.int (iz 4), .int (iz 0)]) (h' := cxW (u2 (u2 (u2 (u2 z 0 6 0) 3 1 K) 7 0 pr) 7 2 co) (uf (uf f 4 w) 8 cg) C T rc tl) rfl ?_
  refine Rx.lt2 rfl rfl ⟨by omega, by omega⟩ ⟨by omega, by omega⟩ (fun b7 => ?_) (fun b7 => by omega)
  refine Rx.walk 4 (pc' := 28) (L' := [some (.ref 0)]) (st' := [.int (iz 0), .ref 14]) (h' := cxW (u2 (u2 (u2 (u2 z 0 6 0) 3 1 K) 7 0 pr) 7 2 co) (uf (uf f 4 w) 8 cg) C T rc tl) rfl ?_
  refine Rx.aal 0 rfl rfl rfl (by omega) (by omega) (by omega) rfl ?_
  refine Rx.walk 0 (pc' := 29) (L' := [some (.ref 0)]) (st' := [.ref (cpl 0)]) (h' := cxW (u2 (u2 (u2 (u2 z 0 6 0) 3 1 K) 7 0 pr) 7 2 co) (uf (uf f 4 w) 8 cg) C T rc tl) rfl ?_
  refine Rx.walk 4 (pc' := 37) (L' := [some (.ref 0)]) (st' := [.ref 3, .ref 7, .ref (cpl 0)]) (h' := cxW (u2 (u2 (u2 (u2 z 0 6 0) 3 1 K) 7 0 pr) 7 2 co) (uf (uf f 4 w) 8 cg) C T rc tl) rfl ?_
  refine Rx.callx (m' := m_X2_become) (as := [.ref (cpl 0), .ref 7, .ref 3]) (rest := []) rfl (x_become0 _ (u2 (u2 z 0 6 0) 3 1 K) f C T rc tl  pr co cg w hco hP hw hpr) (fun v19 h20 q21 => ?_)
  obtain ⟨Pu_8, se_9, hd_10, hz_11, sp_12, ch_13, L_14, rfl, rfl, f15, f16, f17, f18⟩ := q21
  refine Rx.walk 0 (pc' := 40) (L' := [some (.ref 0)]) (st' := []) (h' := cxW (u2 (u2 (u2 (u2 z 0 6 0) 3 1 K) 7 0 pr) 7 2 co) (uf (uf f 4 w) 8 cg) (uC C 0 (pr, Pu_8, co, se_9, hd_10, hz_11, sp_12, ch_13)) T rc tl) rfl ?_
  refine Rx.walk 5 (pc' := 47) (L' := [some (.ref 0)]) (st' := [.int (iz 1), .int (iz 0), .ref 0, .int (iz 0)]) (h' := cxW (u2 (u2 (u2 (u2 z 0 6 0) 3 1 K) 7 0 pr) 7 2 co) (uf (uf f 4 w) 8 cg) (uC C 0 (pr, Pu_8, co, se_9, hd_10, hz_11, sp_12, ch_13)) T rc tl) rfl ?_
  refine Rx.iadd rfl ?_
  refine Rx.walk 0 (pc' := 48) (L' := [some (.ref 0)]) (st' := [.int (iz 1), .ref 0, .int (iz 0)]) (h' := cxW (u2 (u2 (u2 (u2 z 0 6 0) 3 1 K) 7 0 pr) 7 2 co) (uf (uf f 4 w) 8 cg) (uC C 0 (pr, Pu_8, co, se_9, hd_10, hz_11, sp_12, ch_13)) T rc tl) rfl ?_
  refine Rx.walk 1 (pc' := 51) (L' := [some (.ref 0)]) (st' := [.int (iz 0)]) (h' := cxW (u2 (u2 (u2 (u2 z 0 6 1) 3 1 K) 7 0 pr) 7 2 co) (uf (uf f 4 w) 8 cg) (uC C 0 (pr, Pu_8, co, se_9, hd_10, hz_11, sp_12, ch_13)) T rc tl) rfl ?_
  refine Rx.ret rfl ?_
  exact ⟨_, (pr, Pu_8, co, se_9, hd_10, hz_11, sp_12, ch_13), L_14, rfl, rfl, rfl, rfl, f15, f16, f17, f18.2⟩
set_option maxRecDepth 100000 in
set_option maxHeartbeats 4000000 in
theorem x_addsC1 (d : Nat) (z : Nat → Nat → Int) (f : Nat → Int → Int) (C : Nat → CuR) (T : Nat → TsR) (rc : Nat → Nat) (tl : AmH)  (K : Int) (w : Int → Int) (pr : Int) (co : Int) (cg : Int → Int) (hK : 1 ≤ K ∧ K ≤ 4) (hw : wOK w) (hco : 0 ≤ co ∧ co ≤ 4) (hP : ∀ i : Int, 0 ≤ i → i < co → 1 ≤ cg i ∧ cg i ≤ 4) (hpr : 1 ≤ pr ∧ pr ≤ 99) : Rx (d + 3) m_X11_addsCustomer 0 (am_ent [.ref 0] 1) [] (cxW (u2 (u2 (u2 (u2 z 0 6 1) 3 1 K) 7 0 pr) 7 2 co) (uf (uf f 4 w) 8 cg) C T rc tl) (fun rv h => ∃ C' : Nat → CuR, ∃ X' : CuR, ∃ L' : List (List Int), rv = some (.int (iz 1)) ∧ h = cxW (u2 (u2 (u2 (u2 z 0 6 2) 3 1 K) 7 0 pr) 7 2 co) (uf (uf f 4 w) 8 cg) C' T rc tl ∧ C' = uC C 1 X' ∧ X' = (pr, X'.2.1, co, X'.2.2.2.1, X'.2.2.2.2.1, X'.2.2.2.2.2.1, X'.2.2.2.2.2.2.1, X'.2.2.2.2.2.2.2) ∧ (∀ i : Int, 0 ≤ i → i < co → X'.2.1 i = cg i) ∧ rcI w pr X'.2.2.2.1 X'.2.2.2.2.1 X'.2.2.2.2.2.1 X'.2.2.2.2.2.2.1 X'.2.2.2.2.2.2.2 L' ∧ ((∀ l, l ∈ L' ↔ ∃ m : Int, 1 ≤ m ∧ m < pw2 co ∧ ¬ dpM X'.2.1 m co.toNat ∧ pr ≤ wL w (sbM X'.2.1 m co.toNat) ∧ l = sbM X'.2.1 m co.toNat)) ∧ X'.2.2.2.1 ≤ 15) := by
  obtain ⟨hK1, hK4⟩ := id hK
  refine Rx.walk 0 (pc' := 0) (L' := [some (.ref 0)]) (st' := []) (h' := cxW (u2 (u2 (u2 (u2 z 0 6 1) 3 1 K) 7 0 pr) 7 2 co) (uf (uf f 4 w) 8 cg) C T rc tl) rfl ?_
  refine Rx.walk 2 (pc' := 4) (L' := [some (.ref 0)]) (st' := [.ref 3]) (h' := cxW (u2 (u2 (u2 (u2 z 0 6 1) 3 1 K) 7 0 pr) 7 2 co) (uf (uf f 4 w) 8 cg) C T rc tl) rfl ?_
  refine Rx.callx (m' := m_X7_isOpen) (as := [.ref 3]) (rest := []) rfl (x_sopen _ (u2 (u2 (u2 z 0 6 1) 7 0 pr) 7 2 co) (uf (uf f 4 w) 8 cg) C T rc tl  K ⟨by omega, by omega⟩) (fun v3 h4 q5 => ?_)
  obtain ⟨r_1, rfl, rfl, f2⟩ := q5
  refine Rx.walk 0 (pc' := 7) (L' := [some (.ref 0)]) (st' := [.int (iz r_1)]) (h' := cxW (u2 (u2 (u2 (u2 z 0 6 1) 3 1 K) 7 0 pr) 7 2 co) (uf (uf f 4 w) 8 cg) C T rc tl) rfl ?_
  refine Rx.eq1 rfl rfl ⟨by omega, by omega⟩ (fun b6 => by omega) (fun b6 => ?_)
  refine Rx.walk 3 (pc' := 15) (L' := [some (.ref 0)]) (st' := [.int (iz 4), .int (iz 1)]) (h' := cxW (u2 (u2 (u2 (u2 z 0 6 1) 3 1 K) 7 0 pr) 7 2 co) (uf (uf f 4 w) 8 cg) C T rc tl) rfl ?_
  refine Rx.lt2 rfl rfl ⟨by omega, by omega⟩ ⟨by omega, by omega⟩ (fun b7 => ?_) (fun b7 => by omega)
  refine Rx.walk 4 (pc' := 28) (L' := [some (.ref 0)]) (st' := [.int (iz 1), .ref 14]) (h' := cxW (u2 (u2 (u2 (u2 z 0 6 1) 3 1 K) 7 0 pr) 7 2 co) (uf (uf f 4 w) 8 cg) C T rc tl) rfl ?_
  refine Rx.aal 1 rfl rfl rfl (by omega) (by omega) (by omega) rfl ?_
  refine Rx.walk 0 (pc' := 29) (L' := [some (.ref 0)]) (st' := [.ref (cpl 1)]) (h' := cxW (u2 (u2 (u2 (u2 z 0 6 1) 3 1 K) 7 0 pr) 7 2 co) (uf (uf f 4 w) 8 cg) C T rc tl) rfl ?_
  refine Rx.walk 4 (pc' := 37) (L' := [some (.ref 0)]) (st' := [.ref 3, .ref 7, .ref (cpl 1)]) (h' := cxW (u2 (u2 (u2 (u2 z 0 6 1) 3 1 K) 7 0 pr) 7 2 co) (uf (uf f 4 w) 8 cg) C T rc tl) rfl ?_
  refine Rx.callx (m' := m_X2_become) (as := [.ref (cpl 1), .ref 7, .ref 3]) (rest := []) rfl (x_become1 _ (u2 (u2 z 0 6 1) 3 1 K) f C T rc tl  pr co cg w hco hP hw hpr) (fun v19 h20 q21 => ?_)
  obtain ⟨Pu_8, se_9, hd_10, hz_11, sp_12, ch_13, L_14, rfl, rfl, f15, f16, f17, f18⟩ := q21
  refine Rx.walk 0 (pc' := 40) (L' := [some (.ref 0)]) (st' := []) (h' := cxW (u2 (u2 (u2 (u2 z 0 6 1) 3 1 K) 7 0 pr) 7 2 co) (uf (uf f 4 w) 8 cg) (uC C 1 (pr, Pu_8, co, se_9, hd_10, hz_11, sp_12, ch_13)) T rc tl) rfl ?_
  refine Rx.walk 5 (pc' := 47) (L' := [some (.ref 0)]) (st' := [.int (iz 1), .int (iz 1), .ref 0, .int (iz 1)]) (h' := cxW (u2 (u2 (u2 (u2 z 0 6 1) 3 1 K) 7 0 pr) 7 2 co) (uf (uf f 4 w) 8 cg) (uC C 1 (pr, Pu_8, co, se_9, hd_10, hz_11, sp_12, ch_13)) T rc tl) rfl ?_
  refine Rx.iadd rfl ?_
  refine Rx.walk 0 (pc' := 48) (L' := [some (.ref 0)]) (st' := [.int (iz 2), .ref 0, .int (iz 1)]) (h' := cxW (u2 (u2 (u2 (u2 z 0 6 1) 3 1 K) 7 0 pr) 7 2 co) (uf (uf f 4 w) 8 cg) (uC C 1 (pr, Pu_8, co, se_9, hd_10, hz_11, sp_12, ch_13)) T rc tl) rfl ?_
  refine Rx.walk 1 (pc' := 51) (L' := [some (.ref 0)]) (st' := [.int (iz 1)]) (h' := cxW (u2 (u2 (u2 (u2 z 0 6 2) 3 1 K) 7 0 pr) 7 2 co) (uf (uf f 4 w) 8 cg) (uC C 1 (pr, Pu_8, co, se_9, hd_10, hz_11, sp_12, ch_13)) T rc tl) rfl ?_
  refine Rx.ret rfl ?_
  exact ⟨_, (pr, Pu_8, co, se_9, hd_10, hz_11, sp_12, ch_13), L_14, rfl, rfl, rfl, rfl, f15, f16, f17, f18.2⟩
set_option maxRecDepth 100000 in
set_option maxHeartbeats 4000000 in
theorem x_addsC2 (d : Nat) (z : Nat → Nat → Int) (f : Nat → Int → Int) (C : Nat → CuR) (T : Nat → TsR) (rc : Nat → Nat) (tl : AmH)  (K : Int) (w : Int → Int) (pr : Int) (co : Int) (cg : Int → Int) (hK : 1 ≤ K ∧ K ≤ 4) (hw : wOK w) (hco : 0 ≤ co ∧ co ≤ 4) (hP : ∀ i : Int, 0 ≤ i → i < co → 1 ≤ cg i ∧ cg i ≤ 4) (hpr : 1 ≤ pr ∧ pr ≤ 99) : Rx (d + 3) m_X11_addsCustomer 0 (am_ent [.ref 0] 1) [] (cxW (u2 (u2 (u2 (u2 z 0 6 2) 3 1 K) 7 0 pr) 7 2 co) (uf (uf f 4 w) 8 cg) C T rc tl) (fun rv h => ∃ C' : Nat → CuR, ∃ X' : CuR, ∃ L' : List (List Int), rv = some (.int (iz 2)) ∧ h = cxW (u2 (u2 (u2 (u2 z 0 6 3) 3 1 K) 7 0 pr) 7 2 co) (uf (uf f 4 w) 8 cg) C' T rc tl ∧ C' = uC C 2 X' ∧ X' = (pr, X'.2.1, co, X'.2.2.2.1, X'.2.2.2.2.1, X'.2.2.2.2.2.1, X'.2.2.2.2.2.2.1, X'.2.2.2.2.2.2.2) ∧ (∀ i : Int, 0 ≤ i → i < co → X'.2.1 i = cg i) ∧ rcI w pr X'.2.2.2.1 X'.2.2.2.2.1 X'.2.2.2.2.2.1 X'.2.2.2.2.2.2.1 X'.2.2.2.2.2.2.2 L' ∧ ((∀ l, l ∈ L' ↔ ∃ m : Int, 1 ≤ m ∧ m < pw2 co ∧ ¬ dpM X'.2.1 m co.toNat ∧ pr ≤ wL w (sbM X'.2.1 m co.toNat) ∧ l = sbM X'.2.1 m co.toNat)) ∧ X'.2.2.2.1 ≤ 15) := by
  obtain ⟨hK1, hK4⟩ := id hK
  refine Rx.walk 0 (pc' := 0) (L' := [some (.ref 0)]) (st' := []) (h' := cxW (u2 (u2 (u2 (u2 z 0 6 2) 3 1 K) 7 0 pr) 7 2 co) (uf (uf f 4 w) 8 cg) C T rc tl) rfl ?_
  refine Rx.walk 2 (pc' := 4) (L' := [some (.ref 0)]) (st' := [.ref 3]) (h' := cxW (u2 (u2 (u2 (u2 z 0 6 2) 3 1 K) 7 0 pr) 7 2 co) (uf (uf f 4 w) 8 cg) C T rc tl) rfl ?_
  refine Rx.callx (m' := m_X7_isOpen) (as := [.ref 3]) (rest := []) rfl (x_sopen _ (u2 (u2 (u2 z 0 6 2) 7 0 pr) 7 2 co) (uf (uf f 4 w) 8 cg) C T rc tl  K ⟨by omega, by omega⟩) (fun v3 h4 q5 => ?_)
  obtain ⟨r_1, rfl, rfl, f2⟩ := q5
  refine Rx.walk 0 (pc' := 7) (L' := [some (.ref 0)]) (st' := [.int (iz r_1)]) (h' := cxW (u2 (u2 (u2 (u2 z 0 6 2) 3 1 K) 7 0 pr) 7 2 co) (uf (uf f 4 w) 8 cg) C T rc tl) rfl ?_
  refine Rx.eq1 rfl rfl ⟨by omega, by omega⟩ (fun b6 => by omega) (fun b6 => ?_)
  refine Rx.walk 3 (pc' := 15) (L' := [some (.ref 0)]) (st' := [.int (iz 4), .int (iz 2)]) (h' := cxW (u2 (u2 (u2 (u2 z 0 6 2) 3 1 K) 7 0 pr) 7 2 co) (uf (uf f 4 w) 8 cg) C T rc tl) rfl ?_
  refine Rx.lt2 rfl rfl ⟨by omega, by omega⟩ ⟨by omega, by omega⟩ (fun b7 => ?_) (fun b7 => by omega)
  refine Rx.walk 4 (pc' := 28) (L' := [some (.ref 0)]) (st' := [.int (iz 2), .ref 14]) (h' := cxW (u2 (u2 (u2 (u2 z 0 6 2) 3 1 K) 7 0 pr) 7 2 co) (uf (uf f 4 w) 8 cg) C T rc tl) rfl ?_
  refine Rx.aal 2 rfl rfl rfl (by omega) (by omega) (by omega) rfl ?_
  refine Rx.walk 0 (pc' := 29) (L' := [some (.ref 0)]) (st' := [.ref (cpl 2)]) (h' := cxW (u2 (u2 (u2 (u2 z 0 6 2) 3 1 K) 7 0 pr) 7 2 co) (uf (uf f 4 w) 8 cg) C T rc tl) rfl ?_
  refine Rx.walk 4 (pc' := 37) (L' := [some (.ref 0)]) (st' := [.ref 3, .ref 7, .ref (cpl 2)]) (h' := cxW (u2 (u2 (u2 (u2 z 0 6 2) 3 1 K) 7 0 pr) 7 2 co) (uf (uf f 4 w) 8 cg) C T rc tl) rfl ?_
  refine Rx.callx (m' := m_X2_become) (as := [.ref (cpl 2), .ref 7, .ref 3]) (rest := []) rfl (x_become2 _ (u2 (u2 z 0 6 2) 3 1 K) f C T rc tl  pr co cg w hco hP hw hpr) (fun v19 h20 q21 => ?_)
  obtain ⟨Pu_8, se_9, hd_10, hz_11, sp_12, ch_13, L_14, rfl, rfl, f15, f16, f17, f18⟩ := q21
  refine Rx.walk 0 (pc' := 40) (L' := [some (.ref 0)]) (st' := []) (h' := cxW (u2 (u2 (u2 (u2 z 0 6 2) 3 1 K) 7 0 pr) 7 2 co) (uf (uf f 4 w) 8 cg) (uC C 2 (pr, Pu_8, co, se_9, hd_10, hz_11, sp_12, ch_13)) T rc tl) rfl ?_
  refine Rx.walk 5 (pc' := 47) (L' := [some (.ref 0)]) (st' := [.int (iz 1), .int (iz 2), .ref 0, .int (iz 2)]) (h' := cxW (u2 (u2 (u2 (u2 z 0 6 2) 3 1 K) 7 0 pr) 7 2 co) (uf (uf f 4 w) 8 cg) (uC C 2 (pr, Pu_8, co, se_9, hd_10, hz_11, sp_12, ch_13)) T rc tl) rfl ?_
  refine Rx.iadd rfl ?_
  refine Rx.walk 0 (pc' := 48) (L' := [some (.ref 0)]) (st' := [.int (iz 3), .ref 0, .int (iz 2)]) (h' := cxW (u2 (u2 (u2 (u2 z 0 6 2) 3 1 K) 7 0 pr) 7 2 co) (uf (uf f 4 w) 8 cg) (uC C 2 (pr, Pu_8, co, se_9, hd_10, hz_11, sp_12, ch_13)) T rc tl) rfl ?_
  refine Rx.walk 1 (pc' := 51) (L' := [some (.ref 0)]) (st' := [.int (iz 2)]) (h' := cxW (u2 (u2 (u2 (u2 z 0 6 3) 3 1 K) 7 0 pr) 7 2 co) (uf (uf f 4 w) 8 cg) (uC C 2 (pr, Pu_8, co, se_9, hd_10, hz_11, sp_12, ch_13)) T rc tl) rfl ?_
  refine Rx.ret rfl ?_
  exact ⟨_, (pr, Pu_8, co, se_9, hd_10, hz_11, sp_12, ch_13), L_14, rfl, rfl, rfl, rfl, f15, f16, f17, f18.2⟩
set_option maxRecDepth 100000 in
set_option maxHeartbeats 4000000 in
theorem x_addsC3 (d : Nat) (z : Nat → Nat → Int) (f : Nat → Int → Int) (C : Nat → CuR) (T : Nat → TsR) (rc : Nat → Nat) (tl : AmH)  (K : Int) (w : Int → Int) (pr : Int) (co : Int) (cg : Int → Int) (hK : 1 ≤ K ∧ K ≤ 4) (hw : wOK w) (hco : 0 ≤ co ∧ co ≤ 4) (hP : ∀ i : Int, 0 ≤ i → i < co → 1 ≤ cg i ∧ cg i ≤ 4) (hpr : 1 ≤ pr ∧ pr ≤ 99) : Rx (d + 3) m_X11_addsCustomer 0 (am_ent [.ref 0] 1) [] (cxW (u2 (u2 (u2 (u2 z 0 6 3) 3 1 K) 7 0 pr) 7 2 co) (uf (uf f 4 w) 8 cg) C T rc tl) (fun rv h => ∃ C' : Nat → CuR, ∃ X' : CuR, ∃ L' : List (List Int), rv = some (.int (iz 3)) ∧ h = cxW (u2 (u2 (u2 (u2 z 0 6 4) 3 1 K) 7 0 pr) 7 2 co) (uf (uf f 4 w) 8 cg) C' T rc tl ∧ C' = uC C 3 X' ∧ X' = (pr, X'.2.1, co, X'.2.2.2.1, X'.2.2.2.2.1, X'.2.2.2.2.2.1, X'.2.2.2.2.2.2.1, X'.2.2.2.2.2.2.2) ∧ (∀ i : Int, 0 ≤ i → i < co → X'.2.1 i = cg i) ∧ rcI w pr X'.2.2.2.1 X'.2.2.2.2.1 X'.2.2.2.2.2.1 X'.2.2.2.2.2.2.1 X'.2.2.2.2.2.2.2 L' ∧ ((∀ l, l ∈ L' ↔ ∃ m : Int, 1 ≤ m ∧ m < pw2 co ∧ ¬ dpM X'.2.1 m co.toNat ∧ pr ≤ wL w (sbM X'.2.1 m co.toNat) ∧ l = sbM X'.2.1 m co.toNat)) ∧ X'.2.2.2.1 ≤ 15) := by
  obtain ⟨hK1, hK4⟩ := id hK
  refine Rx.walk 0 (pc' := 0) (L' := [some (.ref 0)]) (st' := []) (h' := cxW (u2 (u2 (u2 (u2 z 0 6 3) 3 1 K) 7 0 pr) 7 2 co) (uf (uf f 4 w) 8 cg) C T rc tl) rfl ?_
  refine Rx.walk 2 (pc' := 4) (L' := [some (.ref 0)]) (st' := [.ref 3]) (h' := cxW (u2 (u2 (u2 (u2 z 0 6 3) 3 1 K) 7 0 pr) 7 2 co) (uf (uf f 4 w) 8 cg) C T rc tl) rfl ?_
  refine Rx.callx (m' := m_X7_isOpen) (as := [.ref 3]) (rest := []) rfl (x_sopen _ (u2 (u2 (u2 z 0 6 3) 7 0 pr) 7 2 co) (uf (uf f 4 w) 8 cg) C T rc tl  K ⟨by omega, by omega⟩) (fun v3 h4 q5 => ?_)
  obtain ⟨r_1, rfl, rfl, f2⟩ := q5
  refine Rx.walk 0 (pc' := 7) (L' := [some (.ref 0)]) (st' := [.int (iz r_1)]) (h' := cxW (u2 (u2 (u2 (u2 z 0 6 3) 3 1 K) 7 0 pr) 7 2 co) (uf (uf f 4 w) 8 cg) C T rc tl) rfl ?_
  refine Rx.eq1 rfl rfl ⟨by omega, by omega⟩ (fun b6 => by omega) (fun b6 => ?_)
  refine Rx.walk 3 (pc' := 15) (L' := [some (.ref 0)]) (st' := [.int (iz 4), .int (iz 3)]) (h' := cxW (u2 (u2 (u2 (u2 z 0 6 3) 3 1 K) 7 0 pr) 7 2 co) (uf (uf f 4 w) 8 cg) C T rc tl) rfl ?_
  refine Rx.lt2 rfl rfl ⟨by omega, by omega⟩ ⟨by omega, by omega⟩ (fun b7 => ?_) (fun b7 => by omega)
  refine Rx.walk 4 (pc' := 28) (L' := [some (.ref 0)]) (st' := [.int (iz 3), .ref 14]) (h' := cxW (u2 (u2 (u2 (u2 z 0 6 3) 3 1 K) 7 0 pr) 7 2 co) (uf (uf f 4 w) 8 cg) C T rc tl) rfl ?_
  refine Rx.aal 3 rfl rfl rfl (by omega) (by omega) (by omega) rfl ?_
  refine Rx.walk 0 (pc' := 29) (L' := [some (.ref 0)]) (st' := [.ref (cpl 3)]) (h' := cxW (u2 (u2 (u2 (u2 z 0 6 3) 3 1 K) 7 0 pr) 7 2 co) (uf (uf f 4 w) 8 cg) C T rc tl) rfl ?_
  refine Rx.walk 4 (pc' := 37) (L' := [some (.ref 0)]) (st' := [.ref 3, .ref 7, .ref (cpl 3)]) (h' := cxW (u2 (u2 (u2 (u2 z 0 6 3) 3 1 K) 7 0 pr) 7 2 co) (uf (uf f 4 w) 8 cg) C T rc tl) rfl ?_
  refine Rx.callx (m' := m_X2_become) (as := [.ref (cpl 3), .ref 7, .ref 3]) (rest := []) rfl (x_become3 _ (u2 (u2 z 0 6 3) 3 1 K) f C T rc tl  pr co cg w hco hP hw hpr) (fun v19 h20 q21 => ?_)
  obtain ⟨Pu_8, se_9, hd_10, hz_11, sp_12, ch_13, L_14, rfl, rfl, f15, f16, f17, f18⟩ := q21
  refine Rx.walk 0 (pc' := 40) (L' := [some (.ref 0)]) (st' := []) (h' := cxW (u2 (u2 (u2 (u2 z 0 6 3) 3 1 K) 7 0 pr) 7 2 co) (uf (uf f 4 w) 8 cg) (uC C 3 (pr, Pu_8, co, se_9, hd_10, hz_11, sp_12, ch_13)) T rc tl) rfl ?_
  refine Rx.walk 5 (pc' := 47) (L' := [some (.ref 0)]) (st' := [.int (iz 1), .int (iz 3), .ref 0, .int (iz 3)]) (h' := cxW (u2 (u2 (u2 (u2 z 0 6 3) 3 1 K) 7 0 pr) 7 2 co) (uf (uf f 4 w) 8 cg) (uC C 3 (pr, Pu_8, co, se_9, hd_10, hz_11, sp_12, ch_13)) T rc tl) rfl ?_
  refine Rx.iadd rfl ?_
  refine Rx.walk 0 (pc' := 48) (L' := [some (.ref 0)]) (st' := [.int (iz 4), .ref 0, .int (iz 3)]) (h' := cxW (u2 (u2 (u2 (u2 z 0 6 3) 3 1 K) 7 0 pr) 7 2 co) (uf (uf f 4 w) 8 cg) (uC C 3 (pr, Pu_8, co, se_9, hd_10, hz_11, sp_12, ch_13)) T rc tl) rfl ?_
  refine Rx.walk 1 (pc' := 51) (L' := [some (.ref 0)]) (st' := [.int (iz 3)]) (h' := cxW (u2 (u2 (u2 (u2 z 0 6 4) 3 1 K) 7 0 pr) 7 2 co) (uf (uf f 4 w) 8 cg) (uC C 3 (pr, Pu_8, co, se_9, hd_10, hz_11, sp_12, ch_13)) T rc tl) rfl ?_
  refine Rx.ret rfl ?_
  exact ⟨_, (pr, Pu_8, co, se_9, hd_10, hz_11, sp_12, ch_13), L_14, rfl, rfl, rfl, rfl, f15, f16, f17, f18.2⟩
set_option maxRecDepth 100000 in
set_option maxHeartbeats 4000000 in
theorem x_addsCF (d : Nat) (z : Nat → Nat → Int) (f : Nat → Int → Int) (C : Nat → CuR) (T : Nat → TsR) (rc : Nat → Nat) (tl : AmH)  (K : Int) (M : Int) (hK : 0 ≤ K ∧ K ≤ 4) (hM : 0 ≤ M ∧ M ≤ 4) (hF : K = 0 ∨ M = 4) : Rx (d + 1) m_X11_addsCustomer 0 (am_ent [.ref 0] 1) [] (cxW (u2 (u2 z 0 6 M) 3 1 K) f C T rc tl) (fun rv h => rv = some (.int (iz (-1))) ∧ h = cxW (u2 (u2 z 0 6 M) 3 1 K) f C T rc tl) := by
  refine Rx.walk 0 (pc' := 0) (L' := [some (.ref 0)]) (st' := []) (h' := cxW (u2 (u2 z 0 6 M) 3 1 K) f C T rc tl) rfl ?_
  refine Rx.walk 2 (pc' := 4) (L' := [some (.ref 0)]) (st' := [.ref 3]) (h' := cxW (u2 (u2 z 0 6 M) 3 1 K) f C T rc tl) rfl ?_
  refine Rx.callx (m' := m_X7_isOpen) (as := [.ref 3]) (rest := []) rfl (x_sopen _ (u2 z 0 6 M) f C T rc tl  K hK) (fun v3 h4 q5 => ?_)
  obtain ⟨r_1, rfl, rfl, f2⟩ := q5
  refine Rx.walk 0 (pc' := 7) (L' := [some (.ref 0)]) (st' := [.int (iz r_1)]) (h' := cxW (u2 (u2 z 0 6 M) 3 1 K) f C T rc tl) rfl ?_
  refine Rx.eq1 rfl rfl ⟨by omega, by omega⟩ (fun b6 => ?_) (fun b6 => ?_)
  · refine Rx.walk 1 (pc' := 19) (L' := [some (.ref 0)]) (st' := [.int (iz (-1))]) (h' := cxW (u2 (u2 z 0 6 M) 3 1 K) f C T rc tl) rfl ?_
    refine Rx.ret rfl ?_
    exact ⟨rfl, rfl⟩
  · refine Rx.walk 3 (pc' := 15) (L' := [some (.ref 0)]) (st' := [.int (iz 4), .int (iz M)]) (h' := cxW (u2 (u2 z 0 6 M) 3 1 K) f C T rc tl) rfl ?_
    refine Rx.lt2 rfl rfl ⟨by omega, by omega⟩ ⟨by omega, by omega⟩ (fun b7 => by omega) (fun b7 => ?_)
    refine Rx.walk 1 (pc' := 19) (L' := [some (.ref 0)]) (st' := [.int (iz (-1))]) (h' := cxW (u2 (u2 z 0 6 M) 3 1 K) f C T rc tl) rfl ?_
    refine Rx.ret rfl ?_
    exact ⟨rfl, rfl⟩
set_option maxRecDepth 100000 in
set_option maxHeartbeats 4000000 in
theorem x_text1_0 (d : Nat) (z : Nat → Nat → Int) (f : Nat → Int → Int) (C : Nat → CuR) (T : Nat → TsR) (rc : Nat → Nat) (tl : AmH)  (n : Int) (b : Int → Int) (at_ : Int) (K : Int) (w : Int → Int) (pr : Int) (co : Int) (cg : Int → Int) (hT : tOK n b) (hK : 1 ≤ K ∧ K ≤ 4) (hw : wOK w) (hco : 0 ≤ co ∧ co ≤ 4) : Rx (d + 5) m_X11_text 0 (am_ent [.ref 0, .int (iz 1)] 3) [] (cxW (u2 (u2 (u2 (u2 (u2 (u2 z 0 6 0) 1 1 n) 1 2 at_) 3 1 K) 7 0 pr) 7 2 co) (uf (uf (uf f 2 b) 4 w) 8 cg) C T rc tl) (fun rv h => ∃ r : Int, ∃ n' : Int, ∃ at' : Int, ∃ pr' : Int, ∃ co' : Int, ∃ cg' : Int → Int, ∃ C' : Nat → CuR, ∃ M' : Int, rv = some (.int (iz r)) ∧ h = cxW (u2 (u2 (u2 (u2 (u2 (u2 z 0 6 M') 1 1 n') 1 2 at') 3 1 K) 7 0 pr') 7 2 co') (uf (uf (uf f 2 b) 4 w) 8 cg') C' T rc tl ∧ (((cuP n b (k4 K)).1 ≠ -1 ∧ r = -1 ∧ n' = n ∧ C' = C ∧ M' = 0) ∨ (∃ (X : CuR) (l : List Int), cuP n b (k4 K) = (-1, some (pr', l)) ∧ cuT X w K pr' l ∧ C' = uC C 0 X ∧ r = 0 ∧ M' = 1 ∧ n' = 0)) ∧ (0 ≤ co' ∧ co' ≤ 4) ∧ (0 ≤ at' ∧ at' ≤ n)) := by
  obtain ⟨hT1, hT2, hT3⟩ := id hT
  obtain ⟨hK1, hK4⟩ := id hK
  refine Rx.walk 0 (pc' := 0) (L' := [some (.ref 0), some (.int (iz 1)), none]) (st' := []) (h' := cxW (u2 (u2 (u2 (u2 (u2 (u2 z 0 6 0) 1 1 n) 1 2 at_) 3 1 K) 7 0 pr) 7 2 co) (uf (uf (uf f 2 b) 4 w) 8 cg) C T rc tl) rfl ?_
  refine Rx.walk 2 (pc' := 2) (L' := [some (.ref 0), some (.int (iz 1)), none]) (st' := [.int (iz 1), .ref 0]) (h' := cxW (u2 (u2 (u2 (u2 (u2 (u2 z 0 6 0) 1 1 n) 1 2 at_) 3 1 K) 7 0 pr) 7 2 co) (uf (uf (uf f 2 b) 4 w) 8 cg) C T rc tl) rfl ?_
  refine Rx.callx (m' := m_X11_fault) (as := [.ref 0, .int (iz 1)]) (rest := []) rfl (x_fault1 _ (u2 z 0 6 0) (uf f 4 w) C T rc tl  n b at_ K pr co cg hT ⟨by omega, by omega⟩ hco) (fun v11 h12 q13 => ?_)
  obtain ⟨r_1, at_2, pr_3, co_4, cg_5, rfl, rfl, f6, f7, f8, f9, f10⟩ := q13
  refine Rx.walk 0 (pc' := 5) (L' := [some (.ref 0), some (.int (iz 1)), none]) (st' := [.int (iz r_1)]) (h' := cxW (u2 (u2 (u2 (u2 (u2 (u2 z 0 6 0) 1 1 n) 1 2 at_2) 3 1 K) 7 0 pr_3) 7 2 co_4) (uf (uf (uf f 2 b) 4 w) 8 cg_5) C T rc tl) rfl ?_
  refine Rx.walk 1 (pc' := 6) (L' := [some (.ref 0), some (.int (iz 1)), none]) (st' := [.int (iz (-1)), .int (iz r_1)]) (h' := cxW (u2 (u2 (u2 (u2 (u2 (u2 z 0 6 0) 1 1 n) 1 2 at_2) 3 1 K) 7 0 pr_3) 7 2 co_4) (uf (uf (uf f 2 b) 4 w) 8 cg_5) C T rc tl) rfl ?_
  refine Rx.eq2 rfl rfl ⟨by omega, by omega⟩ ⟨by omega, by omega⟩ (fun b14 => ?_) (fun b14 => ?_)
  · refine Rx.walk 1 (pc' := 12) (L' := [some (.ref 0), some (.int (iz 1)), none]) (st' := [.int (iz 1)]) (h' := cxW (u2 (u2 (u2 (u2 (u2 (u2 z 0 6 0) 1 1 n) 1 2 at_2) 3 1 K) 7 0 pr_3) 7 2 co_4) (uf (uf (uf f 2 b) 4 w) 8 cg_5) C T rc tl) rfl ?_
    refine Rx.ne1 rfl rfl ⟨by omega, by omega⟩ (fun b15 => ?_) (fun b15 => by omega)
    refine Rx.walk 2 (pc' := 24) (L' := [some (.ref 0), some (.int (iz 1)), none]) (st' := [.int (iz 1), .int (iz 1)]) (h' := cxW (u2 (u2 (u2 (u2 (u2 (u2 z 0 6 0) 1 1 n) 1 2 at_2) 3 1 K) 7 0 pr_3) 7 2 co_4) (uf (uf (uf f 2 b) 4 w) 8 cg_5) C T rc tl) rfl ?_
    refine Rx.ne2 rfl rfl ⟨by omega, by omega⟩ ⟨by omega, by omega⟩ (fun b16 => by omega) (fun b16 => ?_)
    obtain ⟨l, hE1, hE2, hE3, hE4⟩ := f7 (by omega)
    have hk4 : k4 K = K := by unfold k4; rw [if_neg (by omega)]
    obtain ⟨hc1, hc2, hc3, hc4⟩ := cuP_in hT1 hE1
    have hlb := (insL_props (K := k4 K) (by omega) l [] hc2 List.Pairwise.nil (fun x hx => by cases hx))
    have hPt : ∀ i : Int, 0 ≤ i → i < co_4 → 1 ≤ cg_5 i ∧ cg_5 i ≤ 4 := by
      intro i i0 i1
      have hlen : i.toNat < (insL l []).length := by rw [hlb.1]; simp; omega
      have hat := lst_at hE4 i.toNat ((insL l [])[i.toNat]) (by rw [List.getElem?_eq_getElem hlen])
      rw [show (0 : Int) + (i.toNat : Int) = i by omega] at hat
      rw [hat]
      exact hlb.2.2 _ (List.getElem_mem hlen)
    refine Rx.walk 1 (pc' := 28) (L' := [some (.ref 0), some (.int (iz 1)), none]) (st' := [.ref 0]) (h' := cxW (u2 (u2 (u2 (u2 (u2 (u2 z 0 6 0) 1 1 n) 1 2 at_2) 3 1 K) 7 0 pr_3) 7 2 co_4) (uf (uf (uf f 2 b) 4 w) 8 cg_5) C T rc tl) rfl ?_
    refine Rx.callx (m' := m_X11_addsCustomer) (as := [.ref 0]) (rest := []) rfl (x_addsC0 _ (u2 (u2 z 1 1 n) 1 2 at_2) (uf f 2 b) C T rc tl  K w pr_3 co_4 cg_5 hK hw ⟨by omega, by omega⟩ hPt ⟨hc3, hc4⟩) (fun v26 h27 q28 => ?_)
    obtain ⟨C_17, X_18, L_19, rfl, rfl, f20, f21, f22, f23, f24, f25⟩ := q28
    refine Rx.walk 0 (pc' := 31) (L' := [some (.ref 0), some (.int (iz 1)), none]) (st' := [.int (iz 0)]) (h' := cxW (u2 (u2 (u2 (u2 (u2 (u2 z 0 6 1) 1 1 n) 1 2 at_2) 3 1 K) 7 0 pr_3) 7 2 co_4) (uf (uf (uf f 2 b) 4 w) 8 cg_5) C_17 T rc tl) rfl ?_
    refine Rx.walk 4 (pc' := 41) (L' := [some (.ref 0), some (.int (iz 1)), some (.int (iz 0))]) (st' := [.int (iz (-1)), .int (iz 0)]) (h' := cxW (u2 (u2 (u2 (u2 (u2 (u2 z 0 6 1) 1 1 n) 1 2 at_2) 3 1 K) 7 0 pr_3) 7 2 co_4) (uf (uf (uf f 2 b) 4 w) 8 cg_5) C_17 T rc tl) rfl ?_
    refine Rx.eq2 rfl rfl ⟨by omega, by omega⟩ ⟨by omega, by omega⟩ (fun b29 => by omega) (fun b29 => ?_)
    refine Rx.walk 5 (pc' := 53) (L' := [some (.ref 0), some (.int (iz 1)), some (.int (iz 0))]) (st' := [.int (iz 0)]) (h' := cxW (u2 (u2 (u2 (u2 (u2 (u2 z 0 6 1) 1 1 0) 1 2 at_2) 3 1 K) 7 0 pr_3) 7 2 co_4) (uf (uf (uf f 2 b) 4 w) 8 cg_5) C_17 T rc tl) rfl ?_
    refine Rx.ret rfl ?_
    exact ⟨_, _, _, _, _, _, _, _, rfl, rfl, Or.inr ⟨X_18, l, hE1, by rw [f21]; exact cuT_of hT1 hw hK.1 hK.2 hE1 hE3 hE4 f22 f23 f25 f24, f20, rfl, rfl, rfl⟩, f8, f10⟩
  · refine Rx.walk 1 (pc' := 10) (L' := [some (.ref 0), some (.int (iz 1)), none]) (st' := [.int (iz (-1))]) (h' := cxW (u2 (u2 (u2 (u2 (u2 (u2 z 0 6 0) 1 1 n) 1 2 at_2) 3 1 K) 7 0 pr_3) 7 2 co_4) (uf (uf (uf f 2 b) 4 w) 8 cg_5) C T rc tl) rfl ?_
    refine Rx.ret rfl ?_
    exact ⟨_, _, _, _, _, _, _, _, rfl, rfl, Or.inl ⟨by rw [← f6]; omega, rfl, rfl, rfl, rfl⟩, f8, f10⟩
set_option maxRecDepth 100000 in
set_option maxHeartbeats 4000000 in
theorem x_text1_1 (d : Nat) (z : Nat → Nat → Int) (f : Nat → Int → Int) (C : Nat → CuR) (T : Nat → TsR) (rc : Nat → Nat) (tl : AmH)  (n : Int) (b : Int → Int) (at_ : Int) (K : Int) (w : Int → Int) (pr : Int) (co : Int) (cg : Int → Int) (hT : tOK n b) (hK : 1 ≤ K ∧ K ≤ 4) (hw : wOK w) (hco : 0 ≤ co ∧ co ≤ 4) : Rx (d + 5) m_X11_text 0 (am_ent [.ref 0, .int (iz 1)] 3) [] (cxW (u2 (u2 (u2 (u2 (u2 (u2 z 0 6 1) 1 1 n) 1 2 at_) 3 1 K) 7 0 pr) 7 2 co) (uf (uf (uf f 2 b) 4 w) 8 cg) C T rc tl) (fun rv h => ∃ r : Int, ∃ n' : Int, ∃ at' : Int, ∃ pr' : Int, ∃ co' : Int, ∃ cg' : Int → Int, ∃ C' : Nat → CuR, ∃ M' : Int, rv = some (.int (iz r)) ∧ h = cxW (u2 (u2 (u2 (u2 (u2 (u2 z 0 6 M') 1 1 n') 1 2 at') 3 1 K) 7 0 pr') 7 2 co') (uf (uf (uf f 2 b) 4 w) 8 cg') C' T rc tl ∧ (((cuP n b (k4 K)).1 ≠ -1 ∧ r = -1 ∧ n' = n ∧ C' = C ∧ M' = 1) ∨ (∃ (X : CuR) (l : List Int), cuP n b (k4 K) = (-1, some (pr', l)) ∧ cuT X w K pr' l ∧ C' = uC C 1 X ∧ r = 1 ∧ M' = 2 ∧ n' = 0)) ∧ (0 ≤ co' ∧ co' ≤ 4) ∧ (0 ≤ at' ∧ at' ≤ n)) := by
  obtain ⟨hT1, hT2, hT3⟩ := id hT
  obtain ⟨hK1, hK4⟩ := id hK
  refine Rx.walk 0 (pc' := 0) (L' := [some (.ref 0), some (.int (iz 1)), none]) (st' := []) (h' := cxW (u2 (u2 (u2 (u2 (u2 (u2 z 0 6 1) 1 1 n) 1 2 at_) 3 1 K) 7 0 pr) 7 2 co) (uf (uf (uf f 2 b) 4 w) 8 cg) C T rc tl) rfl ?_
  refine Rx.walk 2 (pc' := 2) (L' := [some (.ref 0), some (.int (iz 1)), none]) (st' := [.int (iz 1), .ref 0]) (h' := cxW (u2 (u2 (u2 (u2 (u2 (u2 z 0 6 1) 1 1 n) 1 2 at_) 3 1 K) 7 0 pr) 7 2 co) (uf (uf (uf f 2 b) 4 w) 8 cg) C T rc tl) rfl ?_
  refine Rx.callx (m' := m_X11_fault) (as := [.ref 0, .int (iz 1)]) (rest := []) rfl (x_fault1 _ (u2 z 0 6 1) (uf f 4 w) C T rc tl  n b at_ K pr co cg hT ⟨by omega, by omega⟩ hco) (fun v11 h12 q13 => ?_)
  obtain ⟨r_1, at_2, pr_3, co_4, cg_5, rfl, rfl, f6, f7, f8, f9, f10⟩ := q13
  refine Rx.walk 0 (pc' := 5) (L' := [some (.ref 0), some (.int (iz 1)), none]) (st' := [.int (iz r_1)]) (h' := cxW (u2 (u2 (u2 (u2 (u2 (u2 z 0 6 1) 1 1 n) 1 2 at_2) 3 1 K) 7 0 pr_3) 7 2 co_4) (uf (uf (uf f 2 b) 4 w) 8 cg_5) C T rc tl) rfl ?_
  refine Rx.walk 1 (pc' := 6) (L' := [some (.ref 0), some (.int (iz 1)), none]) (st' := [.int (iz (-1)), .int (iz r_1)]) (h' := cxW (u2 (u2 (u2 (u2 (u2 (u2 z 0 6 1) 1 1 n) 1 2 at_2) 3 1 K) 7 0 pr_3) 7 2 co_4) (uf (uf (uf f 2 b) 4 w) 8 cg_5) C T rc tl) rfl ?_
  refine Rx.eq2 rfl rfl ⟨by omega, by omega⟩ ⟨by omega, by omega⟩ (fun b14 => ?_) (fun b14 => ?_)
  · refine Rx.walk 1 (pc' := 12) (L' := [some (.ref 0), some (.int (iz 1)), none]) (st' := [.int (iz 1)]) (h' := cxW (u2 (u2 (u2 (u2 (u2 (u2 z 0 6 1) 1 1 n) 1 2 at_2) 3 1 K) 7 0 pr_3) 7 2 co_4) (uf (uf (uf f 2 b) 4 w) 8 cg_5) C T rc tl) rfl ?_
    refine Rx.ne1 rfl rfl ⟨by omega, by omega⟩ (fun b15 => ?_) (fun b15 => by omega)
    refine Rx.walk 2 (pc' := 24) (L' := [some (.ref 0), some (.int (iz 1)), none]) (st' := [.int (iz 1), .int (iz 1)]) (h' := cxW (u2 (u2 (u2 (u2 (u2 (u2 z 0 6 1) 1 1 n) 1 2 at_2) 3 1 K) 7 0 pr_3) 7 2 co_4) (uf (uf (uf f 2 b) 4 w) 8 cg_5) C T rc tl) rfl ?_
    refine Rx.ne2 rfl rfl ⟨by omega, by omega⟩ ⟨by omega, by omega⟩ (fun b16 => by omega) (fun b16 => ?_)
    obtain ⟨l, hE1, hE2, hE3, hE4⟩ := f7 (by omega)
    have hk4 : k4 K = K := by unfold k4; rw [if_neg (by omega)]
    obtain ⟨hc1, hc2, hc3, hc4⟩ := cuP_in hT1 hE1
    have hlb := (insL_props (K := k4 K) (by omega) l [] hc2 List.Pairwise.nil (fun x hx => by cases hx))
    have hPt : ∀ i : Int, 0 ≤ i → i < co_4 → 1 ≤ cg_5 i ∧ cg_5 i ≤ 4 := by
      intro i i0 i1
      have hlen : i.toNat < (insL l []).length := by rw [hlb.1]; simp; omega
      have hat := lst_at hE4 i.toNat ((insL l [])[i.toNat]) (by rw [List.getElem?_eq_getElem hlen])
      rw [show (0 : Int) + (i.toNat : Int) = i by omega] at hat
      rw [hat]
      exact hlb.2.2 _ (List.getElem_mem hlen)
    refine Rx.walk 1 (pc' := 28) (L' := [some (.ref 0), some (.int (iz 1)), none]) (st' := [.ref 0]) (h' := cxW (u2 (u2 (u2 (u2 (u2 (u2 z 0 6 1) 1 1 n) 1 2 at_2) 3 1 K) 7 0 pr_3) 7 2 co_4) (uf (uf (uf f 2 b) 4 w) 8 cg_5) C T rc tl) rfl ?_
    refine Rx.callx (m' := m_X11_addsCustomer) (as := [.ref 0]) (rest := []) rfl (x_addsC1 _ (u2 (u2 z 1 1 n) 1 2 at_2) (uf f 2 b) C T rc tl  K w pr_3 co_4 cg_5 hK hw ⟨by omega, by omega⟩ hPt ⟨hc3, hc4⟩) (fun v26 h27 q28 => ?_)
    obtain ⟨C_17, X_18, L_19, rfl, rfl, f20, f21, f22, f23, f24, f25⟩ := q28
    refine Rx.walk 0 (pc' := 31) (L' := [some (.ref 0), some (.int (iz 1)), none]) (st' := [.int (iz 1)]) (h' := cxW (u2 (u2 (u2 (u2 (u2 (u2 z 0 6 2) 1 1 n) 1 2 at_2) 3 1 K) 7 0 pr_3) 7 2 co_4) (uf (uf (uf f 2 b) 4 w) 8 cg_5) C_17 T rc tl) rfl ?_
    refine Rx.walk 4 (pc' := 41) (L' := [some (.ref 0), some (.int (iz 1)), some (.int (iz 1))]) (st' := [.int (iz (-1)), .int (iz 1)]) (h' := cxW (u2 (u2 (u2 (u2 (u2 (u2 z 0 6 2) 1 1 n) 1 2 at_2) 3 1 K) 7 0 pr_3) 7 2 co_4) (uf (uf (uf f 2 b) 4 w) 8 cg_5) C_17 T rc tl) rfl ?_
    refine Rx.eq2 rfl rfl ⟨by omega, by omega⟩ ⟨by omega, by omega⟩ (fun b29 => by omega) (fun b29 => ?_)
    refine Rx.walk 5 (pc' := 53) (L' := [some (.ref 0), some (.int (iz 1)), some (.int (iz 1))]) (st' := [.int (iz 1)]) (h' := cxW (u2 (u2 (u2 (u2 (u2 (u2 z 0 6 2) 1 1 0) 1 2 at_2) 3 1 K) 7 0 pr_3) 7 2 co_4) (uf (uf (uf f 2 b) 4 w) 8 cg_5) C_17 T rc tl) rfl ?_
    refine Rx.ret rfl ?_
    exact ⟨_, _, _, _, _, _, _, _, rfl, rfl, Or.inr ⟨X_18, l, hE1, by rw [f21]; exact cuT_of hT1 hw hK.1 hK.2 hE1 hE3 hE4 f22 f23 f25 f24, f20, rfl, rfl, rfl⟩, f8, f10⟩
  · refine Rx.walk 1 (pc' := 10) (L' := [some (.ref 0), some (.int (iz 1)), none]) (st' := [.int (iz (-1))]) (h' := cxW (u2 (u2 (u2 (u2 (u2 (u2 z 0 6 1) 1 1 n) 1 2 at_2) 3 1 K) 7 0 pr_3) 7 2 co_4) (uf (uf (uf f 2 b) 4 w) 8 cg_5) C T rc tl) rfl ?_
    refine Rx.ret rfl ?_
    exact ⟨_, _, _, _, _, _, _, _, rfl, rfl, Or.inl ⟨by rw [← f6]; omega, rfl, rfl, rfl, rfl⟩, f8, f10⟩
set_option maxRecDepth 100000 in
set_option maxHeartbeats 4000000 in
theorem x_text1_2 (d : Nat) (z : Nat → Nat → Int) (f : Nat → Int → Int) (C : Nat → CuR) (T : Nat → TsR) (rc : Nat → Nat) (tl : AmH)  (n : Int) (b : Int → Int) (at_ : Int) (K : Int) (w : Int → Int) (pr : Int) (co : Int) (cg : Int → Int) (hT : tOK n b) (hK : 1 ≤ K ∧ K ≤ 4) (hw : wOK w) (hco : 0 ≤ co ∧ co ≤ 4) : Rx (d + 5) m_X11_text 0 (am_ent [.ref 0, .int (iz 1)] 3) [] (cxW (u2 (u2 (u2 (u2 (u2 (u2 z 0 6 2) 1 1 n) 1 2 at_) 3 1 K) 7 0 pr) 7 2 co) (uf (uf (uf f 2 b) 4 w) 8 cg) C T rc tl) (fun rv h => ∃ r : Int, ∃ n' : Int, ∃ at' : Int, ∃ pr' : Int, ∃ co' : Int, ∃ cg' : Int → Int, ∃ C' : Nat → CuR, ∃ M' : Int, rv = some (.int (iz r)) ∧ h = cxW (u2 (u2 (u2 (u2 (u2 (u2 z 0 6 M') 1 1 n') 1 2 at') 3 1 K) 7 0 pr') 7 2 co') (uf (uf (uf f 2 b) 4 w) 8 cg') C' T rc tl ∧ (((cuP n b (k4 K)).1 ≠ -1 ∧ r = -1 ∧ n' = n ∧ C' = C ∧ M' = 2) ∨ (∃ (X : CuR) (l : List Int), cuP n b (k4 K) = (-1, some (pr', l)) ∧ cuT X w K pr' l ∧ C' = uC C 2 X ∧ r = 2 ∧ M' = 3 ∧ n' = 0)) ∧ (0 ≤ co' ∧ co' ≤ 4) ∧ (0 ≤ at' ∧ at' ≤ n)) := by
  obtain ⟨hT1, hT2, hT3⟩ := id hT
  obtain ⟨hK1, hK4⟩ := id hK
  refine Rx.walk 0 (pc' := 0) (L' := [some (.ref 0), some (.int (iz 1)), none]) (st' := []) (h' := cxW (u2 (u2 (u2 (u2 (u2 (u2 z 0 6 2) 1 1 n) 1 2 at_) 3 1 K) 7 0 pr) 7 2 co) (uf (uf (uf f 2 b) 4 w) 8 cg) C T rc tl) rfl ?_
  refine Rx.walk 2 (pc' := 2) (L' := [some (.ref 0), some (.int (iz 1)), none]) (st' := [.int (iz 1), .ref 0]) (h' := cxW (u2 (u2 (u2 (u2 (u2 (u2 z 0 6 2) 1 1 n) 1 2 at_) 3 1 K) 7 0 pr) 7 2 co) (uf (uf (uf f 2 b) 4 w) 8 cg) C T rc tl) rfl ?_
  refine Rx.callx (m' := m_X11_fault) (as := [.ref 0, .int (iz 1)]) (rest := []) rfl (x_fault1 _ (u2 z 0 6 2) (uf f 4 w) C T rc tl  n b at_ K pr co cg hT ⟨by omega, by omega⟩ hco) (fun v11 h12 q13 => ?_)
  obtain ⟨r_1, at_2, pr_3, co_4, cg_5, rfl, rfl, f6, f7, f8, f9, f10⟩ := q13
  refine Rx.walk 0 (pc' := 5) (L' := [some (.ref 0), some (.int (iz 1)), none]) (st' := [.int (iz r_1)]) (h' := cxW (u2 (u2 (u2 (u2 (u2 (u2 z 0 6 2) 1 1 n) 1 2 at_2) 3 1 K) 7 0 pr_3) 7 2 co_4) (uf (uf (uf f 2 b) 4 w) 8 cg_5) C T rc tl) rfl ?_
  refine Rx.walk 1 (pc' := 6) (L' := [some (.ref 0), some (.int (iz 1)), none]) (st' := [.int (iz (-1)), .int (iz r_1)]) (h' := cxW (u2 (u2 (u2 (u2 (u2 (u2 z 0 6 2) 1 1 n) 1 2 at_2) 3 1 K) 7 0 pr_3) 7 2 co_4) (uf (uf (uf f 2 b) 4 w) 8 cg_5) C T rc tl) rfl ?_
  refine Rx.eq2 rfl rfl ⟨by omega, by omega⟩ ⟨by omega, by omega⟩ (fun b14 => ?_) (fun b14 => ?_)
  · refine Rx.walk 1 (pc' := 12) (L' := [some (.ref 0), some (.int (iz 1)), none]) (st' := [.int (iz 1)]) (h' := cxW (u2 (u2 (u2 (u2 (u2 (u2 z 0 6 2) 1 1 n) 1 2 at_2) 3 1 K) 7 0 pr_3) 7 2 co_4) (uf (uf (uf f 2 b) 4 w) 8 cg_5) C T rc tl) rfl ?_
    refine Rx.ne1 rfl rfl ⟨by omega, by omega⟩ (fun b15 => ?_) (fun b15 => by omega)
    refine Rx.walk 2 (pc' := 24) (L' := [some (.ref 0), some (.int (iz 1)), none]) (st' := [.int (iz 1), .int (iz 1)]) (h' := cxW (u2 (u2 (u2 (u2 (u2 (u2 z 0 6 2) 1 1 n) 1 2 at_2) 3 1 K) 7 0 pr_3) 7 2 co_4) (uf (uf (uf f 2 b) 4 w) 8 cg_5) C T rc tl) rfl ?_
    refine Rx.ne2 rfl rfl ⟨by omega, by omega⟩ ⟨by omega, by omega⟩ (fun b16 => by omega) (fun b16 => ?_)
    obtain ⟨l, hE1, hE2, hE3, hE4⟩ := f7 (by omega)
    have hk4 : k4 K = K := by unfold k4; rw [if_neg (by omega)]
    obtain ⟨hc1, hc2, hc3, hc4⟩ := cuP_in hT1 hE1
    have hlb := (insL_props (K := k4 K) (by omega) l [] hc2 List.Pairwise.nil (fun x hx => by cases hx))
    have hPt : ∀ i : Int, 0 ≤ i → i < co_4 → 1 ≤ cg_5 i ∧ cg_5 i ≤ 4 := by
      intro i i0 i1
      have hlen : i.toNat < (insL l []).length := by rw [hlb.1]; simp; omega
      have hat := lst_at hE4 i.toNat ((insL l [])[i.toNat]) (by rw [List.getElem?_eq_getElem hlen])
      rw [show (0 : Int) + (i.toNat : Int) = i by omega] at hat
      rw [hat]
      exact hlb.2.2 _ (List.getElem_mem hlen)
    refine Rx.walk 1 (pc' := 28) (L' := [some (.ref 0), some (.int (iz 1)), none]) (st' := [.ref 0]) (h' := cxW (u2 (u2 (u2 (u2 (u2 (u2 z 0 6 2) 1 1 n) 1 2 at_2) 3 1 K) 7 0 pr_3) 7 2 co_4) (uf (uf (uf f 2 b) 4 w) 8 cg_5) C T rc tl) rfl ?_
    refine Rx.callx (m' := m_X11_addsCustomer) (as := [.ref 0]) (rest := []) rfl (x_addsC2 _ (u2 (u2 z 1 1 n) 1 2 at_2) (uf f 2 b) C T rc tl  K w pr_3 co_4 cg_5 hK hw ⟨by omega, by omega⟩ hPt ⟨hc3, hc4⟩) (fun v26 h27 q28 => ?_)
    obtain ⟨C_17, X_18, L_19, rfl, rfl, f20, f21, f22, f23, f24, f25⟩ := q28
    refine Rx.walk 0 (pc' := 31) (L' := [some (.ref 0), some (.int (iz 1)), none]) (st' := [.int (iz 2)]) (h' := cxW (u2 (u2 (u2 (u2 (u2 (u2 z 0 6 3) 1 1 n) 1 2 at_2) 3 1 K) 7 0 pr_3) 7 2 co_4) (uf (uf (uf f 2 b) 4 w) 8 cg_5) C_17 T rc tl) rfl ?_
    refine Rx.walk 4 (pc' := 41) (L' := [some (.ref 0), some (.int (iz 1)), some (.int (iz 2))]) (st' := [.int (iz (-1)), .int (iz 2)]) (h' := cxW (u2 (u2 (u2 (u2 (u2 (u2 z 0 6 3) 1 1 n) 1 2 at_2) 3 1 K) 7 0 pr_3) 7 2 co_4) (uf (uf (uf f 2 b) 4 w) 8 cg_5) C_17 T rc tl) rfl ?_
    refine Rx.eq2 rfl rfl ⟨by omega, by omega⟩ ⟨by omega, by omega⟩ (fun b29 => by omega) (fun b29 => ?_)
    refine Rx.walk 5 (pc' := 53) (L' := [some (.ref 0), some (.int (iz 1)), some (.int (iz 2))]) (st' := [.int (iz 2)]) (h' := cxW (u2 (u2 (u2 (u2 (u2 (u2 z 0 6 3) 1 1 0) 1 2 at_2) 3 1 K) 7 0 pr_3) 7 2 co_4) (uf (uf (uf f 2 b) 4 w) 8 cg_5) C_17 T rc tl) rfl ?_
    refine Rx.ret rfl ?_
    exact ⟨_, _, _, _, _, _, _, _, rfl, rfl, Or.inr ⟨X_18, l, hE1, by rw [f21]; exact cuT_of hT1 hw hK.1 hK.2 hE1 hE3 hE4 f22 f23 f25 f24, f20, rfl, rfl, rfl⟩, f8, f10⟩
  · refine Rx.walk 1 (pc' := 10) (L' := [some (.ref 0), some (.int (iz 1)), none]) (st' := [.int (iz (-1))]) (h' := cxW (u2 (u2 (u2 (u2 (u2 (u2 z 0 6 2) 1 1 n) 1 2 at_2) 3 1 K) 7 0 pr_3) 7 2 co_4) (uf (uf (uf f 2 b) 4 w) 8 cg_5) C T rc tl) rfl ?_
    refine Rx.ret rfl ?_
    exact ⟨_, _, _, _, _, _, _, _, rfl, rfl, Or.inl ⟨by rw [← f6]; omega, rfl, rfl, rfl, rfl⟩, f8, f10⟩
set_option maxRecDepth 100000 in
set_option maxHeartbeats 4000000 in
theorem x_text1_3 (d : Nat) (z : Nat → Nat → Int) (f : Nat → Int → Int) (C : Nat → CuR) (T : Nat → TsR) (rc : Nat → Nat) (tl : AmH)  (n : Int) (b : Int → Int) (at_ : Int) (K : Int) (w : Int → Int) (pr : Int) (co : Int) (cg : Int → Int) (hT : tOK n b) (hK : 1 ≤ K ∧ K ≤ 4) (hw : wOK w) (hco : 0 ≤ co ∧ co ≤ 4) : Rx (d + 5) m_X11_text 0 (am_ent [.ref 0, .int (iz 1)] 3) [] (cxW (u2 (u2 (u2 (u2 (u2 (u2 z 0 6 3) 1 1 n) 1 2 at_) 3 1 K) 7 0 pr) 7 2 co) (uf (uf (uf f 2 b) 4 w) 8 cg) C T rc tl) (fun rv h => ∃ r : Int, ∃ n' : Int, ∃ at' : Int, ∃ pr' : Int, ∃ co' : Int, ∃ cg' : Int → Int, ∃ C' : Nat → CuR, ∃ M' : Int, rv = some (.int (iz r)) ∧ h = cxW (u2 (u2 (u2 (u2 (u2 (u2 z 0 6 M') 1 1 n') 1 2 at') 3 1 K) 7 0 pr') 7 2 co') (uf (uf (uf f 2 b) 4 w) 8 cg') C' T rc tl ∧ (((cuP n b (k4 K)).1 ≠ -1 ∧ r = -1 ∧ n' = n ∧ C' = C ∧ M' = 3) ∨ (∃ (X : CuR) (l : List Int), cuP n b (k4 K) = (-1, some (pr', l)) ∧ cuT X w K pr' l ∧ C' = uC C 3 X ∧ r = 3 ∧ M' = 4 ∧ n' = 0)) ∧ (0 ≤ co' ∧ co' ≤ 4) ∧ (0 ≤ at' ∧ at' ≤ n)) := by
  obtain ⟨hT1, hT2, hT3⟩ := id hT
  obtain ⟨hK1, hK4⟩ := id hK
  refine Rx.walk 0 (pc' := 0) (L' := [some (.ref 0), some (.int (iz 1)), none]) (st' := []) (h' := cxW (u2 (u2 (u2 (u2 (u2 (u2 z 0 6 3) 1 1 n) 1 2 at_) 3 1 K) 7 0 pr) 7 2 co) (uf (uf (uf f 2 b) 4 w) 8 cg) C T rc tl) rfl ?_
  refine Rx.walk 2 (pc' := 2) (L' := [some (.ref 0), some (.int (iz 1)), none]) (st' := [.int (iz 1), .ref 0]) (h' := cxW (u2 (u2 (u2 (u2 (u2 (u2 z 0 6 3) 1 1 n) 1 2 at_) 3 1 K) 7 0 pr) 7 2 co) (uf (uf (uf f 2 b) 4 w) 8 cg) C T rc tl) rfl ?_
  refine Rx.callx (m' := m_X11_fault) (as := [.ref 0, .int (iz 1)]) (rest := []) rfl (x_fault1 _ (u2 z 0 6 3) (uf f 4 w) C T rc tl  n b at_ K pr co cg hT ⟨by omega, by omega⟩ hco) (fun v11 h12 q13 => ?_)
  obtain ⟨r_1, at_2, pr_3, co_4, cg_5, rfl, rfl, f6, f7, f8, f9, f10⟩ := q13
  refine Rx.walk 0 (pc' := 5) (L' := [some (.ref 0), some (.int (iz 1)), none]) (st' := [.int (iz r_1)]) (h' := cxW (u2 (u2 (u2 (u2 (u2 (u2 z 0 6 3) 1 1 n) 1 2 at_2) 3 1 K) 7 0 pr_3) 7 2 co_4) (uf (uf (uf f 2 b) 4 w) 8 cg_5) C T rc tl) rfl ?_
  refine Rx.walk 1 (pc' := 6) (L' := [some (.ref 0), some (.int (iz 1)), none]) (st' := [.int (iz (-1)), .int (iz r_1)]) (h' := cxW (u2 (u2 (u2 (u2 (u2 (u2 z 0 6 3) 1 1 n) 1 2 at_2) 3 1 K) 7 0 pr_3) 7 2 co_4) (uf (uf (uf f 2 b) 4 w) 8 cg_5) C T rc tl) rfl ?_
  refine Rx.eq2 rfl rfl ⟨by omega, by omega⟩ ⟨by omega, by omega⟩ (fun b14 => ?_) (fun b14 => ?_)
  · refine Rx.walk 1 (pc' := 12) (L' := [some (.ref 0), some (.int (iz 1)), none]) (st' := [.int (iz 1)]) (h' := cxW (u2 (u2 (u2 (u2 (u2 (u2 z 0 6 3) 1 1 n) 1 2 at_2) 3 1 K) 7 0 pr_3) 7 2 co_4) (uf (uf (uf f 2 b) 4 w) 8 cg_5) C T rc tl) rfl ?_
    refine Rx.ne1 rfl rfl ⟨by omega, by omega⟩ (fun b15 => ?_) (fun b15 => by omega)
    refine Rx.walk 2 (pc' := 24) (L' := [some (.ref 0), some (.int (iz 1)), none]) (st' := [.int (iz 1), .int (iz 1)]) (h' := cxW (u2 (u2 (u2 (u2 (u2 (u2 z 0 6 3) 1 1 n) 1 2 at_2) 3 1 K) 7 0 pr_3) 7 2 co_4) (uf (uf (uf f 2 b) 4 w) 8 cg_5) C T rc tl) rfl ?_
    refine Rx.ne2 rfl rfl ⟨by omega, by omega⟩ ⟨by omega, by omega⟩ (fun b16 => by omega) (fun b16 => ?_)
    obtain ⟨l, hE1, hE2, hE3, hE4⟩ := f7 (by omega)
    have hk4 : k4 K = K := by unfold k4; rw [if_neg (by omega)]
    obtain ⟨hc1, hc2, hc3, hc4⟩ := cuP_in hT1 hE1
    have hlb := (insL_props (K := k4 K) (by omega) l [] hc2 List.Pairwise.nil (fun x hx => by cases hx))
    have hPt : ∀ i : Int, 0 ≤ i → i < co_4 → 1 ≤ cg_5 i ∧ cg_5 i ≤ 4 := by
      intro i i0 i1
      have hlen : i.toNat < (insL l []).length := by rw [hlb.1]; simp; omega
      have hat := lst_at hE4 i.toNat ((insL l [])[i.toNat]) (by rw [List.getElem?_eq_getElem hlen])
      rw [show (0 : Int) + (i.toNat : Int) = i by omega] at hat
      rw [hat]
      exact hlb.2.2 _ (List.getElem_mem hlen)
    refine Rx.walk 1 (pc' := 28) (L' := [some (.ref 0), some (.int (iz 1)), none]) (st' := [.ref 0]) (h' := cxW (u2 (u2 (u2 (u2 (u2 (u2 z 0 6 3) 1 1 n) 1 2 at_2) 3 1 K) 7 0 pr_3) 7 2 co_4) (uf (uf (uf f 2 b) 4 w) 8 cg_5) C T rc tl) rfl ?_
    refine Rx.callx (m' := m_X11_addsCustomer) (as := [.ref 0]) (rest := []) rfl (x_addsC3 _ (u2 (u2 z 1 1 n) 1 2 at_2) (uf f 2 b) C T rc tl  K w pr_3 co_4 cg_5 hK hw ⟨by omega, by omega⟩ hPt ⟨hc3, hc4⟩) (fun v26 h27 q28 => ?_)
    obtain ⟨C_17, X_18, L_19, rfl, rfl, f20, f21, f22, f23, f24, f25⟩ := q28
    refine Rx.walk 0 (pc' := 31) (L' := [some (.ref 0), some (.int (iz 1)), none]) (st' := [.int (iz 3)]) (h' := cxW (u2 (u2 (u2 (u2 (u2 (u2 z 0 6 4) 1 1 n) 1 2 at_2) 3 1 K) 7 0 pr_3) 7 2 co_4) (uf (uf (uf f 2 b) 4 w) 8 cg_5) C_17 T rc tl) rfl ?_
    refine Rx.walk 4 (pc' := 41) (L' := [some (.ref 0), some (.int (iz 1)), some (.int (iz 3))]) (st' := [.int (iz (-1)), .int (iz 3)]) (h' := cxW (u2 (u2 (u2 (u2 (u2 (u2 z 0 6 4) 1 1 n) 1 2 at_2) 3 1 K) 7 0 pr_3) 7 2 co_4) (uf (uf (uf f 2 b) 4 w) 8 cg_5) C_17 T rc tl) rfl ?_
    refine Rx.eq2 rfl rfl ⟨by omega, by omega⟩ ⟨by omega, by omega⟩ (fun b29 => by omega) (fun b29 => ?_)
    refine Rx.walk 5 (pc' := 53) (L' := [some (.ref 0), some (.int (iz 1)), some (.int (iz 3))]) (st' := [.int (iz 3)]) (h' := cxW (u2 (u2 (u2 (u2 (u2 (u2 z 0 6 4) 1 1 0) 1 2 at_2) 3 1 K) 7 0 pr_3) 7 2 co_4) (uf (uf (uf f 2 b) 4 w) 8 cg_5) C_17 T rc tl) rfl ?_
    refine Rx.ret rfl ?_
    exact ⟨_, _, _, _, _, _, _, _, rfl, rfl, Or.inr ⟨X_18, l, hE1, by rw [f21]; exact cuT_of hT1 hw hK.1 hK.2 hE1 hE3 hE4 f22 f23 f25 f24, f20, rfl, rfl, rfl⟩, f8, f10⟩
  · refine Rx.walk 1 (pc' := 10) (L' := [some (.ref 0), some (.int (iz 1)), none]) (st' := [.int (iz (-1))]) (h' := cxW (u2 (u2 (u2 (u2 (u2 (u2 z 0 6 3) 1 1 n) 1 2 at_2) 3 1 K) 7 0 pr_3) 7 2 co_4) (uf (uf (uf f 2 b) 4 w) 8 cg_5) C T rc tl) rfl ?_
    refine Rx.ret rfl ?_
    exact ⟨_, _, _, _, _, _, _, _, rfl, rfl, Or.inl ⟨by rw [← f6]; omega, rfl, rfl, rfl, rfl⟩, f8, f10⟩
set_option maxRecDepth 100000 in
set_option maxHeartbeats 4000000 in
theorem x_text1F (d : Nat) (z : Nat → Nat → Int) (f : Nat → Int → Int) (C : Nat → CuR) (T : Nat → TsR) (rc : Nat → Nat) (tl : AmH)  (n : Int) (b : Int → Int) (at_ : Int) (K : Int) (pr : Int) (co : Int) (cg : Int → Int) (M : Int) (hT : tOK n b) (hK : 0 ≤ K ∧ K ≤ 4) (hM : 0 ≤ M ∧ M ≤ 4) (hF : K = 0 ∨ M = 4) (hco : 0 ≤ co ∧ co ≤ 4) : Rx (d + 5) m_X11_text 0 (am_ent [.ref 0, .int (iz 1)] 3) [] (cxW (u2 (u2 (u2 (u2 (u2 (u2 z 0 6 M) 1 1 n) 1 2 at_) 3 1 K) 7 0 pr) 7 2 co) (uf (uf f 2 b) 8 cg) C T rc tl) (fun rv h => ∃ at' : Int, ∃ pr' : Int, ∃ co' : Int, ∃ cg' : Int → Int, rv = some (.int (iz (-1))) ∧ h = cxW (u2 (u2 (u2 (u2 (u2 (u2 z 0 6 M) 1 1 n) 1 2 at') 3 1 K) 7 0 pr') 7 2 co') (uf (uf f 2 b) 8 cg') C T rc tl ∧ (0 ≤ co' ∧ co' ≤ 4) ∧ (0 ≤ at' ∧ at' ≤ n)) := by
  obtain ⟨hT1, hT2, hT3⟩ := id hT
  refine Rx.walk 0 (pc' := 0) (L' := [some (.ref 0), some (.int (iz 1)), none]) (st' := []) (h' := cxW (u2 (u2 (u2 (u2 (u2 (u2 z 0 6 M) 1 1 n) 1 2 at_) 3 1 K) 7 0 pr) 7 2 co) (uf (uf f 2 b) 8 cg) C T rc tl) rfl ?_
  refine Rx.walk 2 (pc' := 2) (L' := [some (.ref 0), some (.int (iz 1)), none]) (st' := [.int (iz 1), .ref 0]) (h' := cxW (u2 (u2 (u2 (u2 (u2 (u2 z 0 6 M) 1 1 n) 1 2 at_) 3 1 K) 7 0 pr) 7 2 co) (uf (uf f 2 b) 8 cg) C T rc tl) rfl ?_
  refine Rx.callx (m' := m_X11_fault) (as := [.ref 0, .int (iz 1)]) (rest := []) rfl (x_fault1 _ (u2 z 0 6 M) f C T rc tl  n b at_ K pr co cg hT hK hco) (fun v11 h12 q13 => ?_)
  obtain ⟨r_1, at_2, pr_3, co_4, cg_5, rfl, rfl, f6, f7, f8, f9, f10⟩ := q13
  refine Rx.walk 0 (pc' := 5) (L' := [some (.ref 0), some (.int (iz 1)), none]) (st' := [.int (iz r_1)]) (h' := cxW (u2 (u2 (u2 (u2 (u2 (u2 z 0 6 M) 1 1 n) 1 2 at_2) 3 1 K) 7 0 pr_3) 7 2 co_4) (uf (uf f 2 b) 8 cg_5) C T rc tl) rfl ?_
  refine Rx.walk 1 (pc' := 6) (L' := [some (.ref 0), some (.int (iz 1)), none]) (st' := [.int (iz (-1)), .int (iz r_1)]) (h' := cxW (u2 (u2 (u2 (u2 (u2 (u2 z 0 6 M) 1 1 n) 1 2 at_2) 3 1 K) 7 0 pr_3) 7 2 co_4) (uf (uf f 2 b) 8 cg_5) C T rc tl) rfl ?_
  refine Rx.eq2 rfl rfl ⟨by omega, by omega⟩ ⟨by omega, by omega⟩ (fun b14 => ?_) (fun b14 => ?_)
  · refine Rx.walk 1 (pc' := 12) (L' := [some (.ref 0), some (.int (iz 1)), none]) (st' := [.int (iz 1)]) (h' := cxW (u2 (u2 (u2 (u2 (u2 (u2 z 0 6 M) 1 1 n) 1 2 at_2) 3 1 K) 7 0 pr_3) 7 2 co_4) (uf (uf f 2 b) 8 cg_5) C T rc tl) rfl ?_
    refine Rx.ne1 rfl rfl ⟨by omega, by omega⟩ (fun b15 => ?_) (fun b15 => by omega)
    refine Rx.walk 2 (pc' := 24) (L' := [some (.ref 0), some (.int (iz 1)), none]) (st' := [.int (iz 1), .int (iz 1)]) (h' := cxW (u2 (u2 (u2 (u2 (u2 (u2 z 0 6 M) 1 1 n) 1 2 at_2) 3 1 K) 7 0 pr_3) 7 2 co_4) (uf (uf f 2 b) 8 cg_5) C T rc tl) rfl ?_
    refine Rx.ne2 rfl rfl ⟨by omega, by omega⟩ ⟨by omega, by omega⟩ (fun b16 => by omega) (fun b16 => ?_)
    refine Rx.walk 1 (pc' := 28) (L' := [some (.ref 0), some (.int (iz 1)), none]) (st' := [.ref 0]) (h' := cxW (u2 (u2 (u2 (u2 (u2 (u2 z 0 6 M) 1 1 n) 1 2 at_2) 3 1 K) 7 0 pr_3) 7 2 co_4) (uf (uf f 2 b) 8 cg_5) C T rc tl) rfl ?_
    refine Rx.callx (m' := m_X11_addsCustomer) (as := [.ref 0]) (rest := []) rfl (x_addsCF _ (u2 (u2 (u2 (u2 z 1 1 n) 1 2 at_2) 7 0 pr_3) 7 2 co_4) (uf (uf f 2 b) 8 cg_5) C T rc tl  K M hK hM hF) (fun v17 h18 q19 => ?_)
    obtain ⟨rfl, rfl⟩ := q19
    refine Rx.walk 0 (pc' := 31) (L' := [some (.ref 0), some (.int (iz 1)), none]) (st' := [.int (iz (-1))]) (h' := cxW (u2 (u2 (u2 (u2 (u2 (u2 z 0 6 M) 1 1 n) 1 2 at_2) 3 1 K) 7 0 pr_3) 7 2 co_4) (uf (uf f 2 b) 8 cg_5) C T rc tl) rfl ?_
    refine Rx.walk 4 (pc' := 41) (L' := [some (.ref 0), some (.int (iz 1)), some (.int (iz (-1)))]) (st' := [.int (iz (-1)), .int (iz (-1))]) (h' := cxW (u2 (u2 (u2 (u2 (u2 (u2 z 0 6 M) 1 1 n) 1 2 at_2) 3 1 K) 7 0 pr_3) 7 2 co_4) (uf (uf f 2 b) 8 cg_5) C T rc tl) rfl ?_
    refine Rx.eq2 rfl rfl ⟨by omega, by omega⟩ ⟨by omega, by omega⟩ (fun b20 => ?_) (fun b20 => by omega)
    refine Rx.walk 1 (pc' := 53) (L' := [some (.ref 0), some (.int (iz 1)), some (.int (iz (-1)))]) (st' := [.int (iz (-1))]) (h' := cxW (u2 (u2 (u2 (u2 (u2 (u2 z 0 6 M) 1 1 n) 1 2 at_2) 3 1 K) 7 0 pr_3) 7 2 co_4) (uf (uf f 2 b) 8 cg_5) C T rc tl) rfl ?_
    refine Rx.ret rfl ?_
    exact ⟨_, _, _, _, rfl, rfl, f8, f10⟩
  · refine Rx.walk 1 (pc' := 10) (L' := [some (.ref 0), some (.int (iz 1)), none]) (st' := [.int (iz (-1))]) (h' := cxW (u2 (u2 (u2 (u2 (u2 (u2 z 0 6 M) 1 1 n) 1 2 at_2) 3 1 K) 7 0 pr_3) 7 2 co_4) (uf (uf f 2 b) 8 cg_5) C T rc tl) rfl ?_
    refine Rx.ret rfl ?_
    exact ⟨_, _, _, _, rfl, rfl, f8, f10⟩
set_option maxRecDepth 100000 in
set_option maxHeartbeats 4000000 in
theorem x_textD (d : Nat) (z : Nat → Nat → Int) (f : Nat → Int → Int) (C : Nat → CuR) (T : Nat → TsR) (rc : Nat → Nat) (tl : AmH)  (n : Int) (b : Int → Int) (at_ : Int) (so : Int) (hso : bI so) (hsD : ¬ (0 ≤ so ∧ so ≤ 2)) : Rx (d + 1) m_X11_text 0 (am_ent [.ref 0, .int (iz so)] 3) [] (cxW (u2 (u2 z 1 1 n) 1 2 at_) (uf f 2 b) C T rc tl) (fun rv h => rv = some (.int (iz (-1))) ∧ h = cxW (u2 (u2 z 1 1 n) 1 2 0) (uf f 2 b) C T rc tl) := by
  refine Rx.walk 0 (pc' := 0) (L' := [some (.ref 0), some (.int (iz so)), none]) (st' := []) (h' := cxW (u2 (u2 z 1 1 n) 1 2 at_) (uf f 2 b) C T rc tl) rfl ?_
  refine Rx.walk 2 (pc' := 2) (L' := [some (.ref 0), some (.int (iz so)), none]) (st' := [.int (iz so), .ref 0]) (h' := cxW (u2 (u2 z 1 1 n) 1 2 at_) (uf f 2 b) C T rc tl) rfl ?_
  refine Rx.callx (m' := m_X11_fault) (as := [.ref 0, .int (iz so)]) (rest := []) rfl (x_faultD _ z f C T rc tl  n b at_ so hso hsD) (fun v1 h2 q3 => ?_)
  obtain ⟨rfl, rfl⟩ := q3
  refine Rx.walk 0 (pc' := 5) (L' := [some (.ref 0), some (.int (iz so)), none]) (st' := [.int (iz (-2))]) (h' := cxW (u2 (u2 z 1 1 n) 1 2 0) (uf f 2 b) C T rc tl) rfl ?_
  refine Rx.walk 1 (pc' := 6) (L' := [some (.ref 0), some (.int (iz so)), none]) (st' := [.int (iz (-1)), .int (iz (-2))]) (h' := cxW (u2 (u2 z 1 1 n) 1 2 0) (uf f 2 b) C T rc tl) rfl ?_
  refine Rx.eq2 rfl rfl ⟨by omega, by omega⟩ ⟨by omega, by omega⟩ (fun b4 => by omega) (fun b4 => ?_)
  refine Rx.walk 1 (pc' := 10) (L' := [some (.ref 0), some (.int (iz so)), none]) (st' := [.int (iz (-1))]) (h' := cxW (u2 (u2 z 1 1 n) 1 2 0) (uf f 2 b) C T rc tl) rfl ?_
  refine Rx.ret rfl ?_
  exact ⟨rfl, rfl⟩
set_option maxRecDepth 100000 in
set_option maxHeartbeats 4000000 in
theorem x_text2N (d : Nat) (z : Nat → Nat → Int) (f : Nat → Int → Int) (C : Nat → CuR) (T : Nat → TsR) (rc : Nat → Nat) (tl : AmH)  (n : Int) (b : Int → Int) (at_ : Int) (sz : Int) (cd : Int → Int) (Rt : RuT) (hT : tOK n b) (hRt : Rt = ruleL n b 161 0) (hN : ¬ (Rt.1 = true ∧ sg n b Rt.2.1 = -1)) : Rx (d + 36) m_X11_text 0 (am_ent [.ref 0, .int (iz 2)] 3) [] (cxW (u2 (u2 (u2 z 1 1 n) 1 2 at_) 12 1 sz) (uf (uf f 2 b) 13 cd) C T rc tl) (fun rv h => ∃ at' : Int, ∃ sz' : Int, ∃ cd' : Int → Int, rv = some (.int (iz (-1))) ∧ h = cxW (u2 (u2 (u2 z 1 1 n) 1 2 at') 12 1 sz') (uf (uf f 2 b) 13 cd') C T rc tl ∧ (0 ≤ at' ∧ at' ≤ n)) := by
  obtain ⟨hT1, hT2, hT3⟩ := id hT
  refine Rx.walk 0 (pc' := 0) (L' := [some (.ref 0), some (.int (iz 2)), none]) (st' := []) (h' := cxW (u2 (u2 (u2 z 1 1 n) 1 2 at_) 12 1 sz) (uf (uf f 2 b) 13 cd) C T rc tl) rfl ?_
  refine Rx.walk 2 (pc' := 2) (L' := [some (.ref 0), some (.int (iz 2)), none]) (st' := [.int (iz 2), .ref 0]) (h' := cxW (u2 (u2 (u2 z 1 1 n) 1 2 at_) 12 1 sz) (uf (uf f 2 b) 13 cd) C T rc tl) rfl ?_
  refine Rx.callx (m' := m_X11_fault) (as := [.ref 0, .int (iz 2)]) (rest := []) rfl (x_fault2 _ z f C T rc tl  n b at_ sz cd Rt hT hRt) (fun v10 h11 q12 => ?_)
  obtain ⟨r_1, at_2, sz_3, cd_4, rfl, rfl, f5, f6, f7, f8, f9⟩ := q12
  refine Rx.walk 0 (pc' := 5) (L' := [some (.ref 0), some (.int (iz 2)), none]) (st' := [.int (iz r_1)]) (h' := cxW (u2 (u2 (u2 z 1 1 n) 1 2 at_2) 12 1 sz_3) (uf (uf f 2 b) 13 cd_4) C T rc tl) rfl ?_
  have hrN : r_1 ≠ -1 := by rcases f5 with q | q; (exact absurd ⟨q.1, q.2.1⟩ hN); exact q.2.2
  refine Rx.walk 1 (pc' := 6) (L' := [some (.ref 0), some (.int (iz 2)), none]) (st' := [.int (iz (-1)), .int (iz r_1)]) (h' := cxW (u2 (u2 (u2 z 1 1 n) 1 2 at_2) 12 1 sz_3) (uf (uf f 2 b) 13 cd_4) C T rc tl) rfl ?_
  refine Rx.eq2 rfl rfl ⟨by omega, by omega⟩ ⟨by omega, by omega⟩ (fun b13 => by omega) (fun b13 => ?_)
  refine Rx.walk 1 (pc' := 10) (L' := [some (.ref 0), some (.int (iz 2)), none]) (st' := [.int (iz (-1))]) (h' := cxW (u2 (u2 (u2 z 1 1 n) 1 2 at_2) 12 1 sz_3) (uf (uf f 2 b) 13 cd_4) C T rc tl) rfl ?_
  refine Rx.ret rfl ?_
  exact ⟨_, _, _, rfl, rfl, f9⟩
set_option maxRecDepth 100000 in
set_option maxHeartbeats 4000000 in
theorem x_addsRF (d : Nat) (z : Nat → Nat → Int) (f : Nat → Int → Int) (C : Nat → CuR) (T : Nat → TsR) (rc : Nat → Nat) (tl : AmH)   : Rx (d) m_X11_addsRule 0 (am_ent [.ref 0] 1) [] (cxW (u2 z 0 8 4) f C T rc tl) (fun rv h => rv = some (.int (iz (-1))) ∧ h = cxW (u2 z 0 8 4) f C T rc tl) := by
  refine Rx.walk 0 (pc' := 0) (L' := [some (.ref 0)]) (st' := []) (h' := cxW (u2 z 0 8 4) f C T rc tl) rfl ?_
  refine Rx.walk 3 (pc' := 5) (L' := [some (.ref 0)]) (st' := [.int (iz 4), .int (iz 4)]) (h' := cxW (u2 z 0 8 4) f C T rc tl) rfl ?_
  refine Rx.lt2 rfl rfl ⟨by omega, by omega⟩ ⟨by omega, by omega⟩ (fun b1 => by omega) (fun b1 => ?_)
  refine Rx.walk 1 (pc' := 9) (L' := [some (.ref 0)]) (st' := [.int (iz (-1))]) (h' := cxW (u2 z 0 8 4) f C T rc tl) rfl ?_
  refine Rx.ret rfl ?_
  exact ⟨rfl, rfl⟩
set_option maxRecDepth 100000 in
set_option maxHeartbeats 4000000 in
theorem x_text2F (d : Nat) (z : Nat → Nat → Int) (f : Nat → Int → Int) (C : Nat → CuR) (T : Nat → TsR) (rc : Nat → Nat) (tl : AmH)  (n : Int) (b : Int → Int) (at_ : Int) (sz : Int) (cd : Int → Int) (Rt : RuT) (hT : tOK n b) (hRt : Rt = ruleL n b 161 0) : Rx (d + 36) m_X11_text 0 (am_ent [.ref 0, .int (iz 2)] 3) [] (cxW (u2 (u2 (u2 (u2 z 0 8 4) 1 1 n) 1 2 at_) 12 1 sz) (uf (uf f 2 b) 13 cd) C T rc tl) (fun rv h => ∃ at' : Int, ∃ sz' : Int, ∃ cd' : Int → Int, rv = some (.int (iz (-1))) ∧ h = cxW (u2 (u2 (u2 (u2 z 0 8 4) 1 1 n) 1 2 at') 12 1 sz') (uf (uf f 2 b) 13 cd') C T rc tl ∧ (0 ≤ at' ∧ at' ≤ n)) := by
  obtain ⟨hT1, hT2, hT3⟩ := id hT
  refine Rx.walk 0 (pc' := 0) (L' := [some (.ref 0), some (.int (iz 2)), none]) (st' := []) (h' := cxW (u2 (u2 (u2 (u2 z 0 8 4) 1 1 n) 1 2 at_) 12 1 sz) (uf (uf f 2 b) 13 cd) C T rc tl) rfl ?_
  refine Rx.walk 2 (pc' := 2) (L' := [some (.ref 0), some (.int (iz 2)), none]) (st' := [.int (iz 2), .ref 0]) (h' := cxW (u2 (u2 (u2 (u2 z 0 8 4) 1 1 n) 1 2 at_) 12 1 sz) (uf (uf f 2 b) 13 cd) C T rc tl) rfl ?_
  refine Rx.callx (m' := m_X11_fault) (as := [.ref 0, .int (iz 2)]) (rest := []) rfl (x_fault2 _ (u2 z 0 8 4) f C T rc tl  n b at_ sz cd Rt hT hRt) (fun v10 h11 q12 => ?_)
  obtain ⟨r_1, at_2, sz_3, cd_4, rfl, rfl, f5, f6, f7, f8, f9⟩ := q12
  refine Rx.walk 0 (pc' := 5) (L' := [some (.ref 0), some (.int (iz 2)), none]) (st' := [.int (iz r_1)]) (h' := cxW (u2 (u2 (u2 (u2 z 0 8 4) 1 1 n) 1 2 at_2) 12 1 sz_3) (uf (uf f 2 b) 13 cd_4) C T rc tl) rfl ?_
  refine Rx.walk 1 (pc' := 6) (L' := [some (.ref 0), some (.int (iz 2)), none]) (st' := [.int (iz (-1)), .int (iz r_1)]) (h' := cxW (u2 (u2 (u2 (u2 z 0 8 4) 1 1 n) 1 2 at_2) 12 1 sz_3) (uf (uf f 2 b) 13 cd_4) C T rc tl) rfl ?_
  refine Rx.eq2 rfl rfl ⟨by omega, by omega⟩ ⟨by omega, by omega⟩ (fun b13 => ?_) (fun b13 => ?_)
  · refine Rx.walk 1 (pc' := 12) (L' := [some (.ref 0), some (.int (iz 2)), none]) (st' := [.int (iz 2)]) (h' := cxW (u2 (u2 (u2 (u2 z 0 8 4) 1 1 n) 1 2 at_2) 12 1 sz_3) (uf (uf f 2 b) 13 cd_4) C T rc tl) rfl ?_
    refine Rx.ne1 rfl rfl ⟨by omega, by omega⟩ (fun b14 => ?_) (fun b14 => by omega)
    refine Rx.walk 2 (pc' := 24) (L' := [some (.ref 0), some (.int (iz 2)), none]) (st' := [.int (iz 1), .int (iz 2)]) (h' := cxW (u2 (u2 (u2 (u2 z 0 8 4) 1 1 n) 1 2 at_2) 12 1 sz_3) (uf (uf f 2 b) 13 cd_4) C T rc tl) rfl ?_
    refine Rx.ne2 rfl rfl ⟨by omega, by omega⟩ ⟨by omega, by omega⟩ (fun b15 => ?_) (fun b15 => by omega)
    refine Rx.walk 1 (pc' := 35) (L' := [some (.ref 0), some (.int (iz 2)), none]) (st' := [.ref 0]) (h' := cxW (u2 (u2 (u2 (u2 z 0 8 4) 1 1 n) 1 2 at_2) 12 1 sz_3) (uf (uf f 2 b) 13 cd_4) C T rc tl) rfl ?_
    refine Rx.callx (m' := m_X11_addsRule) (as := [.ref 0]) (rest := []) rfl (x_addsRF _ (u2 (u2 (u2 z 1 1 n) 1 2 at_2) 12 1 sz_3) (uf (uf f 2 b) 13 cd_4) C T rc tl   ) (fun v16 h17 q18 => ?_)
    obtain ⟨rfl, rfl⟩ := q18
    refine Rx.walk 0 (pc' := 38) (L' := [some (.ref 0), some (.int (iz 2)), none]) (st' := [.int (iz (-1))]) (h' := cxW (u2 (u2 (u2 (u2 z 0 8 4) 1 1 n) 1 2 at_2) 12 1 sz_3) (uf (uf f 2 b) 13 cd_4) C T rc tl) rfl ?_
    refine Rx.walk 3 (pc' := 41) (L' := [some (.ref 0), some (.int (iz 2)), some (.int (iz (-1)))]) (st' := [.int (iz (-1)), .int (iz (-1))]) (h' := cxW (u2 (u2 (u2 (u2 z 0 8 4) 1 1 n) 1 2 at_2) 12 1 sz_3) (uf (uf f 2 b) 13 cd_4) C T rc tl) rfl ?_
    refine Rx.eq2 rfl rfl ⟨by omega, by omega⟩ ⟨by omega, by omega⟩ (fun b19 => ?_) (fun b19 => by omega)
    refine Rx.walk 1 (pc' := 53) (L' := [some (.ref 0), some (.int (iz 2)), some (.int (iz (-1)))]) (st' := [.int (iz (-1))]) (h' := cxW (u2 (u2 (u2 (u2 z 0 8 4) 1 1 n) 1 2 at_2) 12 1 sz_3) (uf (uf f 2 b) 13 cd_4) C T rc tl) rfl ?_
    refine Rx.ret rfl ?_
    exact ⟨_, _, _, rfl, rfl, f9⟩
  · refine Rx.walk 1 (pc' := 10) (L' := [some (.ref 0), some (.int (iz 2)), none]) (st' := [.int (iz (-1))]) (h' := cxW (u2 (u2 (u2 (u2 z 0 8 4) 1 1 n) 1 2 at_2) 12 1 sz_3) (uf (uf f 2 b) 13 cd_4) C T rc tl) rfl ?_
    refine Rx.ret rfl ?_
    exact ⟨_, _, _, rfl, rfl, f9⟩

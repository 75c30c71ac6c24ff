/-! the model's till from its number; results kept (printed by wip/whole/genmo.py) -/
theorem okN_pos {K : Int} {n : Nat} {p : Int} (h : okN K n p) (hp : 0 < p) : ∃ m, n = m + 1 ∧ okN K m (p / 5) := by
  cases n with
  | zero => have h : p = 0 := h; omega
  | succ m => exact ⟨m, rfl, h.2.2⟩
theorem okN_zero {K : Int} {n : Nat} (h : okN K n 0) : n = 0 := by
  cases n with
  | zero => rfl
  | succ m => have := h.1; omega
theorem krs {a : Int} (b : Int) (h : a = b) (c : Int) : (a = c) = (b = c) := by rw [h]
theorem kr_ins {rm k v : Int} {rs g : Int → Int} (h : krI rm rs) (k0 : 0 ≤ k) (k1 : k ≤ rm) (hr : rm ≤ 1000) (hv : 0 ≤ v ∧ v < 2147483648) (hlo : ∀ i : Int, 0 ≤ i → i < k → rs i < v) (hhi : ∀ i : Int, k ≤ i → i < rm → v < rs i) (g1 : ∀ j : Int, 0 ≤ j → j ≤ k → g j = rs j) (g2 : ∀ j : Int, k < j → j ≤ rm → g j = rs (j - 1)) : krX (fun x => x = v) rm rs (rm + 1) (iu g k v) ∧ hasR (rm + 1) (iu g k v) v := by
  obtain ⟨a1, a2, a3, a4⟩ := h
  have hm : ∀ x, x ∈ lsI (rm + 1).toNat (iu g k v) ↔ x = v ∨ x ∈ lsI rm.toNat rs := fun x => by
    rw [mem_lsI, mem_lsI]
    constructor
    · rintro ⟨i, i0, i1, rfl⟩
      by_cases e : i = k
      · rw [e, iu_at]; exact Or.inl rfl
      · rw [iu_ne _ _ e]
        rcases Int.lt_or_lt_of_ne e with q | q
        · exact Or.inr ⟨i, i0, by omega, (g1 i i0 (by omega)).symm⟩
        · exact Or.inr ⟨i - 1, by omega, by omega, (g2 i q (by omega)).symm⟩
    · rintro (rfl | ⟨i, i0, i1, rfl⟩)
      · exact ⟨k, k0, by omega, iu_at _ _ _⟩
      · by_cases q : i < k
        · exact ⟨i, i0, by omega, by rw [iu_ne _ _ (by omega)]; exact g1 i i0 (by omega)⟩
        · exact ⟨i + 1, by omega, by omega, by rw [iu_ne _ _ (by omega), g2 (i + 1) (by omega) (by omega)]; congr 1; omega⟩
  refine ⟨⟨by omega, ⟨by omega, by omega, fun i j i0 ij j1 => ?_, fun i i0 i1 => ?_⟩, fun x hx => (hm x).mpr (Or.inr hx), fun x hx => ((hm x).mp hx).elim Or.inr Or.inl⟩, Or.inr ((hm v).mpr (Or.inl rfl))⟩
  · by_cases e : i = k
    · rw [e, iu_at, iu_ne _ _ (by omega), g2 j (by omega) (by omega)]
      exact hhi (j - 1) (by omega) (by omega)
    · by_cases e2 : j = k
      · rw [e2, iu_at, iu_ne _ _ e, g1 i i0 (by omega)]
        exact hlo i i0 (by omega)
      · rw [iu_ne _ _ e, iu_ne _ _ e2]
        rcases Int.lt_or_lt_of_ne e2 with q | q
        · rw [g1 i i0 (by omega), g1 j (by omega) (by omega)]; exact a3 i j i0 ij (by omega)
        · rw [g2 j q (by omega)]
          rcases Int.lt_or_lt_of_ne e with q2 | q2
          · rw [g1 i i0 (by omega)]; exact a3 i (j - 1) i0 (by omega) (by omega)
          · rw [g2 i q2 (by omega)]; exact a3 (i - 1) (j - 1) (by omega) (by omega) (by omega)
  · by_cases e : i = k
    · rw [e, iu_at]; exact hv
    · rw [iu_ne _ _ e]
      rcases Int.lt_or_lt_of_ne e with q | q
      · rw [g1 i i0 (by omega)]; exact a4 i i0 (by omega)
      · rw [g2 i q (by omega)]; exact a4 (i - 1) (by omega) (by omega)
set_option maxRecDepth 100000 in
set_option maxHeartbeats 4000000 in
theorem m_opens_c1 (d : Nat) (z : Nat → Int) (zl : Nat → Int) (f : Nat → Int → Int) (fl : Nat → Int → Int) (tx : Nat)  (K : Int) (num : Int) (x3 : Int) (lf : Int) (nn : Int) (Nn : Nat) (hN : Nn ≤ 5) (P : Option Value → AmH → Prop) (hx0 : ∀ (v' : Int), Rx (d) m_X12_opensAs 91 [some (.ref 0), some (.long (jz num)), none, some (.int (iz x3)), some (.long (jz lf)), none, some (.int (iz 1)), some (.int (iz nn)), some (.int (iz (Nn : Int))), some (.int (iz v'))] [] (cmH z zl f fl tx) P) : ∀ (kF : Nat) (mn : Int) (v : Int), (0 ≤ v) → (v < 3125) → (0 ≤ mn) → (∃ m : Nat, okN K m v ∧ mn + m = Nn) → v < (kF : Int) → Rx (d) m_X12_opensAs 74 [some (.ref 0), some (.long (jz num)), none, some (.int (iz x3)), some (.long (jz lf)), none, some (.int (iz 1)), some (.int (iz nn)), some (.int (iz mn)), some (.int (iz v))] [] (cmH z zl f fl tx) P := by
  intro kF
  induction kF with
  | zero =>
    intro mn v v0 v1 m0 hv hk
    exfalso; omega
  | succ kF ih =>
    intro mn v v0 v1 m0 hv hk
    obtain ⟨m, hm1, hm2⟩ := hv
    refine Rx.walk 1 (pc' := 76) (L' := [some (.ref 0), some (.long (jz num)), none, some (.int (iz x3)), some (.long (jz lf)), none, some (.int (iz 1)), some (.int (iz nn)), some (.int (iz mn)), some (.int (iz v))]) (st' := [.int (iz v)]) (h' := cmH z zl f fl tx) rfl ?_
    refine Rx.le1 rfl rfl ⟨by omega, by omega⟩ (fun b1 => ?_) (fun b1 => ?_)
    · have e : v = 0 := by omega
      subst e
      have := okN_zero hm1
      have e2 : mn = (Nn : Int) := by omega
      subst e2
      exact hx0 _ 
    · refine Rx.iinc (b := 1) rfl rfl rfl ?_
      refine Rx.walk 0 (pc' := 82) (L' := [some (.ref 0), some (.long (jz num)), none, some (.int (iz x3)), some (.long (jz lf)), none, some (.int (iz 1)), some (.int (iz nn)), some (.int (iz (mn + 1))), some (.int (iz v))]) (st' := []) (h' := cmH z zl f fl tx) rfl ?_
      refine Rx.walk 2 (pc' := 85) (L' := [some (.ref 0), some (.long (jz num)), none, some (.int (iz x3)), some (.long (jz lf)), none, some (.int (iz 1)), some (.int (iz nn)), some (.int (iz (mn + 1))), some (.int (iz v))]) (st' := [.int (iz 5), .int (iz v)]) (h' := cmH z zl f fl tx) rfl ?_
      refine Rx.idiv rfl ⟨by omega, by omega⟩ ⟨by omega, by omega⟩ (by omega) (by omega) ?_
      refine Rx.walk 2 (pc' := 74) (L' := [some (.ref 0), some (.long (jz num)), none, some (.int (iz x3)), some (.long (jz lf)), none, some (.int (iz 1)), some (.int (iz nn)), some (.int (iz (mn + 1))), some (.int (iz (v / 5)))]) (st' := []) (h' := cmH z zl f fl tx) rfl ?_
      obtain ⟨m2, e1, e2⟩ := okN_pos hm1 (by omega)
      exact ih (mn + 1) (v / 5) (by first | assumption | omega) (by first | assumption | omega) (by first | assumption | omega) ⟨m2, e2, by omega⟩ (by first | assumption | omega) 
set_option maxRecDepth 100000 in
set_option maxHeartbeats 4000000 in
theorem m_opens_f1 (d : Nat) (z : Nat → Int) (zl : Nat → Int) (f : Nat → Int → Int) (fl : Nat → Int → Int) (tx : Nat)  (K : Int) (num : Int) (x3 : Int) (lf : Int) (Nn : Nat) (pp0 : Int → Int) (p1 : Int) (hN : Nn ≤ 5) (P : Option Value → AmH → Prop) (hx0 : ∀ (n' : Int) (i' : Int) (pp' : Int → Int), (prI K pp' 5 Nn p1) → (∀ j : Int, (j < 5 ∨ 10 ≤ j) → pp' j = pp0 j) → Rx (d) m_X12_opensAs 141 [some (.ref 0), some (.long (jz num)), none, some (.int (iz x3)), some (.long (jz lf)), none, some (.int (iz 1)), some (.int (iz n')), some (.int (iz (Nn : Int))), some (.int (iz i'))] [] (cmH z zl (uf f 10 pp') fl tx) P) : ∀ (kF : Nat) (n : Int) (i : Int) (pp : Int → Int), (0 ≤ n) → (n < 3125) → (-1 ≤ i) → (i < Nn) → (okN K (i + 1).toNat n) → (∀ j : Int, (j < 5 ∨ 10 ≤ j) → pp j = pp0 j) → (∀ g : Int → Int, (∀ j : Int, i < j → j < Nn → g (5 + j) = pp (5 + j)) → prI K g 5 (i + 1).toNat n → prI K g 5 Nn p1) → (i + 1) < (kF : Int) → Rx (d) m_X12_opensAs 106 [some (.ref 0), some (.long (jz num)), none, some (.int (iz x3)), some (.long (jz lf)), none, some (.int (iz 1)), some (.int (iz n)), some (.int (iz (Nn : Int))), some (.int (iz i))] [] (cmH z zl (uf f 10 pp) fl tx) P := by
  intro kF
  induction kF with
  | zero =>
    intro n i pp n0 n1 i0 i1 hn hg hi hk
    exfalso; omega
  | succ kF ih =>
    intro n i pp n0 n1 i0 i1 hn hg hi hk
    refine Rx.walk 1 (pc' := 108) (L' := [some (.ref 0), some (.long (jz num)), none, some (.int (iz x3)), some (.long (jz lf)), none, some (.int (iz 1)), some (.int (iz n)), some (.int (iz (Nn : Int))), some (.int (iz i))]) (st' := [.int (iz i)]) (h' := cmH z zl (uf f 10 pp) fl tx) rfl ?_
    refine Rx.lt1 rfl rfl ⟨by omega, by omega⟩ (fun b1 => ?_) (fun b1 => ?_)
    · have e : i = -1 := by omega
      subst e
      exact hx0 _ _ _ (hi pp (fun j _ _ => rfl) hn) hg
    · refine Rx.walk 4 (pc' := 118) (L' := [some (.ref 0), some (.long (jz num)), none, some (.int (iz x3)), some (.long (jz lf)), none, some (.int (iz 1)), some (.int (iz n)), some (.int (iz (Nn : Int))), some (.int (iz i))]) (st' := [.int (iz 1), .int (iz 5), .ref 10]) (h' := cmH z zl (uf f 10 pp) fl tx) rfl ?_
      refine Rx.imul rfl ?_
      refine Rx.walk 0 (pc' := 119) (L' := [some (.ref 0), some (.long (jz num)), none, some (.int (iz x3)), some (.long (jz lf)), none, some (.int (iz 1)), some (.int (iz n)), some (.int (iz (Nn : Int))), some (.int (iz i))]) (st' := [.int (iz 5), .ref 10]) (h' := cmH z zl (uf f 10 pp) fl tx) rfl ?_
      refine Rx.walk 1 (pc' := 121) (L' := [some (.ref 0), some (.long (jz num)), none, some (.int (iz x3)), some (.long (jz lf)), none, some (.int (iz 1)), some (.int (iz n)), some (.int (iz (Nn : Int))), some (.int (iz i))]) (st' := [.int (iz i), .int (iz 5), .ref 10]) (h' := cmH z zl (uf f 10 pp) fl tx) rfl ?_
      refine Rx.iadd rfl ?_
      refine Rx.walk 2 (pc' := 125) (L' := [some (.ref 0), some (.long (jz num)), none, some (.int (iz x3)), some (.long (jz lf)), none, some (.int (iz 1)), some (.int (iz n)), some (.int (iz (Nn : Int))), some (.int (iz i))]) (st' := [.int (iz 5), .int (iz n), .int (iz (5 + i)), .ref 10]) (h' := cmH z zl (uf f 10 pp) fl tx) rfl ?_
      refine Rx.irem rfl ⟨by omega, by omega⟩ ⟨by omega, by omega⟩ (by omega) (by omega) ?_
      refine Rx.walk 1 (pc' := 127) (L' := [some (.ref 0), some (.long (jz num)), none, some (.int (iz x3)), some (.long (jz lf)), none, some (.int (iz 1)), some (.int (iz n)), some (.int (iz (Nn : Int))), some (.int (iz i))]) (st' := [.int (iz 1), .int (iz (n % 5)), .int (iz (5 + i)), .ref 10]) (h' := cmH z zl (uf f 10 pp) fl tx) rfl ?_
      refine Rx.isub rfl ?_
      refine Rx.ias (g := pp) (h' := cmH z zl (uf f 10 (iu pp (5 + i) ((n % 5) - 1))) fl tx) rfl rfl (by omega) (by omega) (by omega) rfl ?_
      refine Rx.walk 2 (pc' := 132) (L' := [some (.ref 0), some (.long (jz num)), none, some (.int (iz x3)), some (.long (jz lf)), none, some (.int (iz 1)), some (.int (iz n)), some (.int (iz (Nn : Int))), some (.int (iz i))]) (st' := [.int (iz 5), .int (iz n)]) (h' := cmH z zl (uf f 10 (iu pp (5 + i) ((n % 5) - 1))) fl tx) rfl ?_
      refine Rx.idiv rfl ⟨by omega, by omega⟩ ⟨by omega, by omega⟩ (by omega) (by omega) ?_
      refine Rx.walk 1 (pc' := 135) (L' := [some (.ref 0), some (.long (jz num)), none, some (.int (iz x3)), some (.long (jz lf)), none, some (.int (iz 1)), some (.int (iz (n / 5))), some (.int (iz (Nn : Int))), some (.int (iz i))]) (st' := []) (h' := cmH z zl (uf f 10 (iu pp (5 + i) ((n % 5) - 1))) fl tx) rfl ?_
      refine Rx.iinc (b := -1) rfl rfl rfl ?_
      refine Rx.walk 0 (pc' := 138) (L' := [some (.ref 0), some (.long (jz num)), none, some (.int (iz x3)), some (.long (jz lf)), none, some (.int (iz 1)), some (.int (iz (n / 5))), some (.int (iz (Nn : Int))), some (.int (iz (i + (-1))))]) (st' := []) (h' := cmH z zl (uf f 10 (iu pp (5 + i) ((n % 5) - 1))) fl tx) rfl ?_
      refine Rx.walk 1 (pc' := 106) (L' := [some (.ref 0), some (.long (jz num)), none, some (.int (iz x3)), some (.long (jz lf)), none, some (.int (iz 1)), some (.int (iz (n / 5))), some (.int (iz (Nn : Int))), some (.int (iz (i + (-1))))]) (st' := []) (h' := cmH z zl (uf f 10 (iu pp (5 + i) ((n % 5) - 1))) fl tx) rfl ?_
      rw [show (i + 1).toNat = (i + -1 + 1).toNat + 1 by omega] at hn
      obtain ⟨hn1, hn2, hn3⟩ := hn
      exact ih (n / 5) (i + (-1)) (iu pp (5 + i) ((n % 5) - 1)) (by first | assumption | omega) (by first | assumption | omega) (by first | assumption | omega) (by first | assumption | omega) hn3 (fun j hj => by rw [iu_ne _ _ (by omega)]; exact hg j hj) (fun g hg1 hg2 => hi g (fun j j0 j1 => by rw [hg1 j (by omega) j1, iu_ne _ _ (by omega)]) (by rw [show (i + 1).toNat = (i + -1 + 1).toNat + 1 by omega]; refine ⟨hn1, hn2, ?_, hg2⟩; rw [show ((i + -1 + 1).toNat : Int) = i by omega, hg1 i (by omega) i1, iu_at])) (by first | assumption | omega) 
set_option maxRecDepth 100000 in
set_option maxHeartbeats 4000000 in
theorem m_opens_c0 (d : Nat) (z : Nat → Int) (zl : Nat → Int) (f : Nat → Int → Int) (fl : Nat → Int → Int) (tx : Nat)  (K : Int) (num : Int) (x3 : Int) (lf : Int) (nn : Int) (Nn : Nat) (hN : Nn ≤ 5) (P : Option Value → AmH → Prop) (hx0 : ∀ (v' : Int), Rx (d) m_X12_opensAs 91 [some (.ref 0), some (.long (jz num)), none, some (.int (iz x3)), some (.long (jz lf)), none, some (.int (iz 0)), some (.int (iz nn)), some (.int (iz (Nn : Int))), some (.int (iz v'))] [] (cmH z zl f fl tx) P) : ∀ (kF : Nat) (mn : Int) (v : Int), (0 ≤ v) → (v < 3125) → (0 ≤ mn) → (∃ m : Nat, okN K m v ∧ mn + m = Nn) → v < (kF : Int) → Rx (d) m_X12_opensAs 74 [some (.ref 0), some (.long (jz num)), none, some (.int (iz x3)), some (.long (jz lf)), none, some (.int (iz 0)), some (.int (iz nn)), some (.int (iz mn)), some (.int (iz v))] [] (cmH z zl f fl tx) P := by
  intro kF
  induction kF with
  | zero =>
    intro mn v v0 v1 m0 hv hk
    exfalso; omega
  | succ kF ih =>
    intro mn v v0 v1 m0 hv hk
    obtain ⟨m, hm1, hm2⟩ := hv
    refine Rx.walk 1 (pc' := 76) (L' := [some (.ref 0), some (.long (jz num)), none, some (.int (iz x3)), some (.long (jz lf)), none, some (.int (iz 0)), some (.int (iz nn)), some (.int (iz mn)), some (.int (iz v))]) (st' := [.int (iz v)]) (h' := cmH z zl f fl tx) rfl ?_
    refine Rx.le1 rfl rfl ⟨by omega, by omega⟩ (fun b1 => ?_) (fun b1 => ?_)
    · have e : v = 0 := by omega
      subst e
      have := okN_zero hm1
      have e2 : mn = (Nn : Int) := by omega
      subst e2
      exact hx0 _ 
    · refine Rx.iinc (b := 1) rfl rfl rfl ?_
      refine Rx.walk 0 (pc' := 82) (L' := [some (.ref 0), some (.long (jz num)), none, some (.int (iz x3)), some (.long (jz lf)), none, some (.int (iz 0)), some (.int (iz nn)), some (.int (iz (mn + 1))), some (.int (iz v))]) (st' := []) (h' := cmH z zl f fl tx) rfl ?_
      refine Rx.walk 2 (pc' := 85) (L' := [some (.ref 0), some (.long (jz num)), none, some (.int (iz x3)), some (.long (jz lf)), none, some (.int (iz 0)), some (.int (iz nn)), some (.int (iz (mn + 1))), some (.int (iz v))]) (st' := [.int (iz 5), .int (iz v)]) (h' := cmH z zl f fl tx) rfl ?_
      refine Rx.idiv rfl ⟨by omega, by omega⟩ ⟨by omega, by omega⟩ (by omega) (by omega) ?_
      refine Rx.walk 2 (pc' := 74) (L' := [some (.ref 0), some (.long (jz num)), none, some (.int (iz x3)), some (.long (jz lf)), none, some (.int (iz 0)), some (.int (iz nn)), some (.int (iz (mn + 1))), some (.int (iz (v / 5)))]) (st' := []) (h' := cmH z zl f fl tx) rfl ?_
      obtain ⟨m2, e1, e2⟩ := okN_pos hm1 (by omega)
      exact ih (mn + 1) (v / 5) (by first | assumption | omega) (by first | assumption | omega) (by first | assumption | omega) ⟨m2, e2, by omega⟩ (by first | assumption | omega) 
set_option maxRecDepth 100000 in
set_option maxHeartbeats 4000000 in
theorem m_opens_f0 (d : Nat) (z : Nat → Int) (zl : Nat → Int) (f : Nat → Int → Int) (fl : Nat → Int → Int) (tx : Nat)  (K : Int) (num : Int) (x3 : Int) (lf : Int) (Nn : Nat) (pp0 : Int → Int) (p0 : Int) (hN : Nn ≤ 5) (P : Option Value → AmH → Prop) (hx0 : ∀ (n' : Int) (i' : Int) (pp' : Int → Int), (prI K pp' 0 Nn p0) → (∀ j : Int, (j < 0 ∨ 5 ≤ j) → pp' j = pp0 j) → Rx (d) m_X12_opensAs 141 [some (.ref 0), some (.long (jz num)), none, some (.int (iz x3)), some (.long (jz lf)), none, some (.int (iz 0)), some (.int (iz n')), some (.int (iz (Nn : Int))), some (.int (iz i'))] [] (cmH z zl (uf f 10 pp') fl tx) P) : ∀ (kF : Nat) (n : Int) (i : Int) (pp : Int → Int), (0 ≤ n) → (n < 3125) → (-1 ≤ i) → (i < Nn) → (okN K (i + 1).toNat n) → (∀ j : Int, (j < 0 ∨ 5 ≤ j) → pp j = pp0 j) → (∀ g : Int → Int, (∀ j : Int, i < j → j < Nn → g (0 + j) = pp (0 + j)) → prI K g 0 (i + 1).toNat n → prI K g 0 Nn p0) → (i + 1) < (kF : Int) → Rx (d) m_X12_opensAs 106 [some (.ref 0), some (.long (jz num)), none, some (.int (iz x3)), some (.long (jz lf)), none, some (.int (iz 0)), some (.int (iz n)), some (.int (iz (Nn : Int))), some (.int (iz i))] [] (cmH z zl (uf f 10 pp) fl tx) P := by
  intro kF
  induction kF with
  | zero =>
    intro n i pp n0 n1 i0 i1 hn hg hi hk
    exfalso; omega
  | succ kF ih =>
    intro n i pp n0 n1 i0 i1 hn hg hi hk
    refine Rx.walk 1 (pc' := 108) (L' := [some (.ref 0), some (.long (jz num)), none, some (.int (iz x3)), some (.long (jz lf)), none, some (.int (iz 0)), some (.int (iz n)), some (.int (iz (Nn : Int))), some (.int (iz i))]) (st' := [.int (iz i)]) (h' := cmH z zl (uf f 10 pp) fl tx) rfl ?_
    refine Rx.lt1 rfl rfl ⟨by omega, by omega⟩ (fun b1 => ?_) (fun b1 => ?_)
    · have e : i = -1 := by omega
      subst e
      exact hx0 _ _ _ (hi pp (fun j _ _ => rfl) hn) hg
    · refine Rx.walk 4 (pc' := 118) (L' := [some (.ref 0), some (.long (jz num)), none, some (.int (iz x3)), some (.long (jz lf)), none, some (.int (iz 0)), some (.int (iz n)), some (.int (iz (Nn : Int))), some (.int (iz i))]) (st' := [.int (iz 0), .int (iz 5), .ref 10]) (h' := cmH z zl (uf f 10 pp) fl tx) rfl ?_
      refine Rx.imul rfl ?_
      refine Rx.walk 0 (pc' := 119) (L' := [some (.ref 0), some (.long (jz num)), none, some (.int (iz x3)), some (.long (jz lf)), none, some (.int (iz 0)), some (.int (iz n)), some (.int (iz (Nn : Int))), some (.int (iz i))]) (st' := [.int (iz 0), .ref 10]) (h' := cmH z zl (uf f 10 pp) fl tx) rfl ?_
      refine Rx.walk 1 (pc' := 121) (L' := [some (.ref 0), some (.long (jz num)), none, some (.int (iz x3)), some (.long (jz lf)), none, some (.int (iz 0)), some (.int (iz n)), some (.int (iz (Nn : Int))), some (.int (iz i))]) (st' := [.int (iz i), .int (iz 0), .ref 10]) (h' := cmH z zl (uf f 10 pp) fl tx) rfl ?_
      refine Rx.iadd rfl ?_
      refine Rx.walk 2 (pc' := 125) (L' := [some (.ref 0), some (.long (jz num)), none, some (.int (iz x3)), some (.long (jz lf)), none, some (.int (iz 0)), some (.int (iz n)), some (.int (iz (Nn : Int))), some (.int (iz i))]) (st' := [.int (iz 5), .int (iz n), .int (iz (0 + i)), .ref 10]) (h' := cmH z zl (uf f 10 pp) fl tx) rfl ?_
      refine Rx.irem rfl ⟨by omega, by omega⟩ ⟨by omega, by omega⟩ (by omega) (by omega) ?_
      refine Rx.walk 1 (pc' := 127) (L' := [some (.ref 0), some (.long (jz num)), none, some (.int (iz x3)), some (.long (jz lf)), none, some (.int (iz 0)), some (.int (iz n)), some (.int (iz (Nn : Int))), some (.int (iz i))]) (st' := [.int (iz 1), .int (iz (n % 5)), .int (iz (0 + i)), .ref 10]) (h' := cmH z zl (uf f 10 pp) fl tx) rfl ?_
      refine Rx.isub rfl ?_
      refine Rx.ias (g := pp) (h' := cmH z zl (uf f 10 (iu pp (0 + i) ((n % 5) - 1))) fl tx) rfl rfl (by omega) (by omega) (by omega) rfl ?_
      refine Rx.walk 2 (pc' := 132) (L' := [some (.ref 0), some (.long (jz num)), none, some (.int (iz x3)), some (.long (jz lf)), none, some (.int (iz 0)), some (.int (iz n)), some (.int (iz (Nn : Int))), some (.int (iz i))]) (st' := [.int (iz 5), .int (iz n)]) (h' := cmH z zl (uf f 10 (iu pp (0 + i) ((n % 5) - 1))) fl tx) rfl ?_
      refine Rx.idiv rfl ⟨by omega, by omega⟩ ⟨by omega, by omega⟩ (by omega) (by omega) ?_
      refine Rx.walk 1 (pc' := 135) (L' := [some (.ref 0), some (.long (jz num)), none, some (.int (iz x3)), some (.long (jz lf)), none, some (.int (iz 0)), some (.int (iz (n / 5))), some (.int (iz (Nn : Int))), some (.int (iz i))]) (st' := []) (h' := cmH z zl (uf f 10 (iu pp (0 + i) ((n % 5) - 1))) fl tx) rfl ?_
      refine Rx.iinc (b := -1) rfl rfl rfl ?_
      refine Rx.walk 0 (pc' := 138) (L' := [some (.ref 0), some (.long (jz num)), none, some (.int (iz x3)), some (.long (jz lf)), none, some (.int (iz 0)), some (.int (iz (n / 5))), some (.int (iz (Nn : Int))), some (.int (iz (i + (-1))))]) (st' := []) (h' := cmH z zl (uf f 10 (iu pp (0 + i) ((n % 5) - 1))) fl tx) rfl ?_
      refine Rx.walk 1 (pc' := 106) (L' := [some (.ref 0), some (.long (jz num)), none, some (.int (iz x3)), some (.long (jz lf)), none, some (.int (iz 0)), some (.int (iz (n / 5))), some (.int (iz (Nn : Int))), some (.int (iz (i + (-1))))]) (st' := []) (h' := cmH z zl (uf f 10 (iu pp (0 + i) ((n % 5) - 1))) fl tx) rfl ?_
      rw [show (i + 1).toNat = (i + -1 + 1).toNat + 1 by omega] at hn
      obtain ⟨hn1, hn2, hn3⟩ := hn
      exact ih (n / 5) (i + (-1)) (iu pp (0 + i) ((n % 5) - 1)) (by first | assumption | omega) (by first | assumption | omega) (by first | assumption | omega) (by first | assumption | omega) hn3 (fun j hj => by rw [iu_ne _ _ (by omega)]; exact hg j hj) (fun g hg1 hg2 => hi g (fun j j0 j1 => by rw [hg1 j (by omega) j1, iu_ne _ _ (by omega)]) (by rw [show (i + 1).toNat = (i + -1 + 1).toNat + 1 by omega]; refine ⟨hn1, hn2, ?_, hg2⟩; rw [show ((i + -1 + 1).toNat : Int) = i by omega, hg1 i (by omega) i1, iu_at])) (by first | assumption | omega) 
theorem prI_ext {K : Int} {g g' : Int → Int} {o : Int} : ∀ {n : Nat} {p : Int}, prI K g o n p → (∀ i : Nat, i < n → g' (o + (i : Int)) = g (o + (i : Int))) → prI K g' o n p
  | 0, _, h, _ => h
  | n + 1, p, ⟨a, b, c, d⟩, hj => ⟨a, b, by rw [hj n (Nat.lt_succ_self n)]; exact c, prI_ext d (fun i hi => hj i (by omega))⟩
set_option maxRecDepth 100000 in
set_option maxHeartbeats 4000000 in
theorem m_opensAs (d : Nat) (z : Nat → Int) (zl : Nat → Int) (f : Nat → Int → Int) (fl : Nat → Int → Int) (tx : Nat)  (num : Int) (K : Int) (p0 : Int) (p1 : Int) (t : Int) (pp : Int → Int) (li : Int → Int) (ty : Int → Int) (hnum : num = tn p0 p1 t) (hK : K ≤ 4) (hp0 : 0 ≤ p0) (hp1 : 0 ≤ p1) (hv0 : ∃ n : Nat, n ≤ 5 ∧ okN K n p0) (hv1 : ∃ n : Nat, n ≤ 5 ∧ okN K n p1) (ht0 : 0 ≤ t) (ht1 : t ≤ K) : Rx (d) m_X12_opensAs 0 (am_ent [.ref 0, .long (jz num)] 10) [] (cmH z zl (uf (uf (uf f 10 pp) 11 li) 12 ty) fl tx) (fun rv h => ∃ pp' : Int → Int, ∃ li' : Int → Int, ∃ ty' : Int → Int, rv = none ∧ h = cmH z zl (uf (uf (uf f 10 pp') 11 li') 12 ty') fl tx ∧ mtI K pp' li' ty' p0 p1 t) := by
  obtain ⟨n0, hn0, hk0⟩ := hv0
  obtain ⟨n1, hn1, hk1⟩ := hv1
  have hb0 := okN_ht hp0 hk0 hn0
  have hb1 := okN_ht hp1 hk1 hn1
  have ht := tw_c ht0 (by omega)
  have he := tn_0 (p0 := p0) (p1 := p1) (t := t) hp1 (by omega) ht0 (by omega)
  rw [← hnum] at he
  have hnb : 0 ≤ num ∧ num < 2147483648 := by rw [hnum]; unfold tn; omega
  refine Rx.walk 0 (pc' := 0) (L' := [some (.ref 0), some (.long (jz num)), none, none, none, none, none, none, none, none]) (st' := []) (h' := cmH z zl (uf (uf (uf f 10 pp) 11 li) 12 ty) fl tx) rfl ?_
  refine Rx.walk 2 (pc' := 4) (L' := [some (.ref 0), some (.long (jz num)), none, none, none, none, none, none, none, none]) (st' := [.long (jz 16), .long (jz num)]) (h' := cmH z zl (uf (uf (uf f 10 pp) 11 li) 12 ty) fl tx) rfl ?_
  refine Rx.lrem rfl ⟨by omega, by omega⟩ ⟨by omega, by omega⟩ (by omega) (by omega) ?_
  refine Rx.l2i rfl ?_
  refine Rx.walk 5 (pc' := 13) (L' := [some (.ref 0), some (.long (jz num)), none, some (.int (iz (num % 16))), some (.int (iz 0)), none, none, none, none, none]) (st' := [.int (iz 4), .int (iz 0)]) (h' := cmH z zl (uf (uf (uf f 10 pp) 11 li) 12 ty) fl tx) rfl ?_
  refine Rx.ge2 rfl rfl ⟨by omega, by omega⟩ ⟨by omega, by omega⟩ (fun b1 => by omega) (fun b1 => ?_)
  refine Rx.walk 5 (pc' := 25) (L' := [some (.ref 0), some (.long (jz num)), none, some (.int (iz (num % 16))), some (.int (iz 0)), none, none, none, none, none]) (st' := [.int (iz 0), .int (iz (num % 16)), .int (iz 0), .ref 12]) (h' := cmH z zl (uf (uf (uf f 10 pp) 11 li) 12 ty) fl tx) rfl ?_
  refine Rx.ishr (c := ((num % 16) / 1)) rfl (show iz (num % 16) >>> (iz 0 &&& 31) = iz ((num % 16) / 1) from iz_shr ⟨by omega, by omega⟩ 0 (by omega)) ?_
  refine Rx.walk 1 (pc' := 27) (L' := [some (.ref 0), some (.long (jz num)), none, some (.int (iz (num % 16))), some (.int (iz 0)), none, none, none, none, none]) (st' := [.int (iz 1), .int (iz ((num % 16) / 1)), .int (iz 0), .ref 12]) (h' := cmH z zl (uf (uf (uf f 10 pp) 11 li) 12 ty) fl tx) rfl ?_
  refine Rx.iand (c := (((num % 16) / 1) % 2)) rfl (iz_and1 _) ?_
  refine Rx.ias (g := ty) (h' := cmH z zl (uf (uf (uf f 10 pp) 11 li) 12 (iu ty 0 (((num % 16) / 1) % 2))) fl tx) rfl rfl (by omega) (by omega) (by omega) rfl ?_
  refine Rx.iinc (b := 1) rfl rfl rfl ?_
  refine Rx.walk 0 (pc' := 32) (L' := [some (.ref 0), some (.long (jz num)), none, some (.int (iz (num % 16))), some (.int (iz 1)), none, none, none, none, none]) (st' := []) (h' := cmH z zl (uf (uf (uf f 10 pp) 11 li) 12 (iu ty 0 (((num % 16) / 1) % 2))) fl tx) rfl ?_
  refine Rx.walk 3 (pc' := 13) (L' := [some (.ref 0), some (.long (jz num)), none, some (.int (iz (num % 16))), some (.int (iz 1)), none, none, none, none, none]) (st' := [.int (iz 4), .int (iz 1)]) (h' := cmH z zl (uf (uf (uf f 10 pp) 11 li) 12 (iu ty 0 (((num % 16) / 1) % 2))) fl tx) rfl ?_
  refine Rx.ge2 rfl rfl ⟨by omega, by omega⟩ ⟨by omega, by omega⟩ (fun b2 => by omega) (fun b2 => ?_)
  refine Rx.walk 5 (pc' := 25) (L' := [some (.ref 0), some (.long (jz num)), none, some (.int (iz (num % 16))), some (.int (iz 1)), none, none, none, none, none]) (st' := [.int (iz 1), .int (iz (num % 16)), .int (iz 1), .ref 12]) (h' := cmH z zl (uf (uf (uf f 10 pp) 11 li) 12 (iu ty 0 (((num % 16) / 1) % 2))) fl tx) rfl ?_
  refine Rx.ishr (c := ((num % 16) / 2)) rfl (show iz (num % 16) >>> (iz 1 &&& 31) = iz ((num % 16) / 2) from iz_shr ⟨by omega, by omega⟩ 1 (by omega)) ?_
  refine Rx.walk 1 (pc' := 27) (L' := [some (.ref 0), some (.long (jz num)), none, some (.int (iz (num % 16))), some (.int (iz 1)), none, none, none, none, none]) (st' := [.int (iz 1), .int (iz ((num % 16) / 2)), .int (iz 1), .ref 12]) (h' := cmH z zl (uf (uf (uf f 10 pp) 11 li) 12 (iu ty 0 (((num % 16) / 1) % 2))) fl tx) rfl ?_
  refine Rx.iand (c := (((num % 16) / 2) % 2)) rfl (iz_and1 _) ?_
  refine Rx.ias (g := (iu ty 0 (((num % 16) / 1) % 2))) (h' := cmH z zl (uf (uf (uf f 10 pp) 11 li) 12 (iu (iu ty 0 (((num % 16) / 1) % 2)) 1 (((num % 16) / 2) % 2))) fl tx) rfl rfl (by omega) (by omega) (by omega) rfl ?_
  refine Rx.iinc (b := 1) rfl rfl rfl ?_
  refine Rx.walk 0 (pc' := 32) (L' := [some (.ref 0), some (.long (jz num)), none, some (.int (iz (num % 16))), some (.int (iz 2)), none, none, none, none, none]) (st' := []) (h' := cmH z zl (uf (uf (uf f 10 pp) 11 li) 12 (iu (iu ty 0 (((num % 16) / 1) % 2)) 1 (((num % 16) / 2) % 2))) fl tx) rfl ?_
  refine Rx.walk 3 (pc' := 13) (L' := [some (.ref 0), some (.long (jz num)), none, some (.int (iz (num % 16))), some (.int (iz 2)), none, none, none, none, none]) (st' := [.int (iz 4), .int (iz 2)]) (h' := cmH z zl (uf (uf (uf f 10 pp) 11 li) 12 (iu (iu ty 0 (((num % 16) / 1) % 2)) 1 (((num % 16) / 2) % 2))) fl tx) rfl ?_
  refine Rx.ge2 rfl rfl ⟨by omega, by omega⟩ ⟨by omega, by omega⟩ (fun b3 => by omega) (fun b3 => ?_)
  refine Rx.walk 5 (pc' := 25) (L' := [some (.ref 0), some (.long (jz num)), none, some (.int (iz (num % 16))), some (.int (iz 2)), none, none, none, none, none]) (st' := [.int (iz 2), .int (iz (num % 16)), .int (iz 2), .ref 12]) (h' := cmH z zl (uf (uf (uf f 10 pp) 11 li) 12 (iu (iu ty 0 (((num % 16) / 1) % 2)) 1 (((num % 16) / 2) % 2))) fl tx) rfl ?_
  refine Rx.ishr (c := ((num % 16) / 4)) rfl (show iz (num % 16) >>> (iz 2 &&& 31) = iz ((num % 16) / 4) from iz_shr ⟨by omega, by omega⟩ 2 (by omega)) ?_
  refine Rx.walk 1 (pc' := 27) (L' := [some (.ref 0), some (.long (jz num)), none, some (.int (iz (num % 16))), some (.int (iz 2)), none, none, none, none, none]) (st' := [.int (iz 1), .int (iz ((num % 16) / 4)), .int (iz 2), .ref 12]) (h' := cmH z zl (uf (uf (uf f 10 pp) 11 li) 12 (iu (iu ty 0 (((num % 16) / 1) % 2)) 1 (((num % 16) / 2) % 2))) fl tx) rfl ?_
  refine Rx.iand (c := (((num % 16) / 4) % 2)) rfl (iz_and1 _) ?_
  refine Rx.ias (g := (iu (iu ty 0 (((num % 16) / 1) % 2)) 1 (((num % 16) / 2) % 2))) (h' := cmH z zl (uf (uf (uf f 10 pp) 11 li) 12 (iu (iu (iu ty 0 (((num % 16) / 1) % 2)) 1 (((num % 16) / 2) % 2)) 2 (((num % 16) / 4) % 2))) fl tx) rfl rfl (by omega) (by omega) (by omega) rfl ?_
  refine Rx.iinc (b := 1) rfl rfl rfl ?_
  refine Rx.walk 0 (pc' := 32) (L' := [some (.ref 0), some (.long (jz num)), none, some (.int (iz (num % 16))), some (.int (iz 3)), none, none, none, none, none]) (st' := []) (h' := cmH z zl (uf (uf (uf f 10 pp) 11 li) 12 (iu (iu (iu ty 0 (((num % 16) / 1) % 2)) 1 (((num % 16) / 2) % 2)) 2 (((num % 16) / 4) % 2))) fl tx) rfl ?_
  refine Rx.walk 3 (pc' := 13) (L' := [some (.ref 0), some (.long (jz num)), none, some (.int (iz (num % 16))), some (.int (iz 3)), none, none, none, none, none]) (st' := [.int (iz 4), .int (iz 3)]) (h' := cmH z zl (uf (uf (uf f 10 pp) 11 li) 12 (iu (iu (iu ty 0 (((num % 16) / 1) % 2)) 1 (((num % 16) / 2) % 2)) 2 (((num % 16) / 4) % 2))) fl tx) rfl ?_
  refine Rx.ge2 rfl rfl ⟨by omega, by omega⟩ ⟨by omega, by omega⟩ (fun b4 => by omega) (fun b4 => ?_)
  refine Rx.walk 5 (pc' := 25) (L' := [some (.ref 0), some (.long (jz num)), none, some (.int (iz (num % 16))), some (.int (iz 3)), none, none, none, none, none]) (st' := [.int (iz 3), .int (iz (num % 16)), .int (iz 3), .ref 12]) (h' := cmH z zl (uf (uf (uf f 10 pp) 11 li) 12 (iu (iu (iu ty 0 (((num % 16) / 1) % 2)) 1 (((num % 16) / 2) % 2)) 2 (((num % 16) / 4) % 2))) fl tx) rfl ?_
  refine Rx.ishr (c := ((num % 16) / 8)) rfl (show iz (num % 16) >>> (iz 3 &&& 31) = iz ((num % 16) / 8) from iz_shr ⟨by omega, by omega⟩ 3 (by omega)) ?_
  refine Rx.walk 1 (pc' := 27) (L' := [some (.ref 0), some (.long (jz num)), none, some (.int (iz (num % 16))), some (.int (iz 3)), none, none, none, none, none]) (st' := [.int (iz 1), .int (iz ((num % 16) / 8)), .int (iz 3), .ref 12]) (h' := cmH z zl (uf (uf (uf f 10 pp) 11 li) 12 (iu (iu (iu ty 0 (((num % 16) / 1) % 2)) 1 (((num % 16) / 2) % 2)) 2 (((num % 16) / 4) % 2))) fl tx) rfl ?_
  refine Rx.iand (c := (((num % 16) / 8) % 2)) rfl (iz_and1 _) ?_
  refine Rx.ias (g := (iu (iu (iu ty 0 (((num % 16) / 1) % 2)) 1 (((num % 16) / 2) % 2)) 2 (((num % 16) / 4) % 2))) (h' := cmH z zl (uf (uf (uf f 10 pp) 11 li) 12 (iu (iu (iu (iu ty 0 (((num % 16) / 1) % 2)) 1 (((num % 16) / 2) % 2)) 2 (((num % 16) / 4) % 2)) 3 (((num % 16) / 8) % 2))) fl tx) rfl rfl (by omega) (by omega) (by omega) rfl ?_
  refine Rx.iinc (b := 1) rfl rfl rfl ?_
  refine Rx.walk 0 (pc' := 32) (L' := [some (.ref 0), some (.long (jz num)), none, some (.int (iz (num % 16))), some (.int (iz 4)), none, none, none, none, none]) (st' := []) (h' := cmH z zl (uf (uf (uf f 10 pp) 11 li) 12 (iu (iu (iu (iu ty 0 (((num % 16) / 1) % 2)) 1 (((num % 16) / 2) % 2)) 2 (((num % 16) / 4) % 2)) 3 (((num % 16) / 8) % 2))) fl tx) rfl ?_
  refine Rx.walk 3 (pc' := 13) (L' := [some (.ref 0), some (.long (jz num)), none, some (.int (iz (num % 16))), some (.int (iz 4)), none, none, none, none, none]) (st' := [.int (iz 4), .int (iz 4)]) (h' := cmH z zl (uf (uf (uf f 10 pp) 11 li) 12 (iu (iu (iu (iu ty 0 (((num % 16) / 1) % 2)) 1 (((num % 16) / 2) % 2)) 2 (((num % 16) / 4) % 2)) 3 (((num % 16) / 8) % 2))) fl tx) rfl ?_
  refine Rx.ge2 rfl rfl ⟨by omega, by omega⟩ ⟨by omega, by omega⟩ (fun b5 => ?_) (fun b5 => by omega)
  refine Rx.walk 2 (pc' := 39) (L' := [some (.ref 0), some (.long (jz num)), none, some (.int (iz (num % 16))), some (.int (iz 4)), none, none, none, none, none]) (st' := [.long (jz 16), .long (jz num)]) (h' := cmH z zl (uf (uf (uf f 10 pp) 11 li) 12 (iu (iu (iu (iu ty 0 (((num % 16) / 1) % 2)) 1 (((num % 16) / 2) % 2)) 2 (((num % 16) / 4) % 2)) 3 (((num % 16) / 8) % 2))) fl tx) rfl ?_
  refine Rx.ldiv rfl ⟨by omega, by omega⟩ ⟨by omega, by omega⟩ (by omega) (by omega) ?_
  refine Rx.walk 4 (pc' := 47) (L' := [some (.ref 0), some (.long (jz num)), none, some (.int (iz (num % 16))), some (.long (jz (num / 16))), none, some (.int (iz 1)), none, none, none]) (st' := [.int (iz 1)]) (h' := cmH z zl (uf (uf (uf f 10 pp) 11 li) 12 (iu (iu (iu (iu ty 0 (((num % 16) / 1) % 2)) 1 (((num % 16) / 2) % 2)) 2 (((num % 16) / 4) % 2)) 3 (((num % 16) / 8) % 2))) fl tx) rfl ?_
  refine Rx.lt1 rfl rfl ⟨by omega, by omega⟩ (fun b6 => by omega) (fun b6 => ?_)
  refine Rx.walk 2 (pc' := 55) (L' := [some (.ref 0), some (.long (jz num)), none, some (.int (iz (num % 16))), some (.long (jz (num / 16))), none, some (.int (iz 1)), none, none, none]) (st' := [.long (jz 3125), .long (jz (num / 16))]) (h' := cmH z zl (uf (uf (uf f 10 pp) 11 li) 12 (iu (iu (iu (iu ty 0 (((num % 16) / 1) % 2)) 1 (((num % 16) / 2) % 2)) 2 (((num % 16) / 4) % 2)) 3 (((num % 16) / 8) % 2))) fl tx) rfl ?_
  refine Rx.lrem rfl ⟨by omega, by omega⟩ ⟨by omega, by omega⟩ (by omega) (by omega) ?_
  refine Rx.l2i rfl ?_
  refine Rx.walk 3 (pc' := 64) (L' := [some (.ref 0), some (.long (jz num)), none, some (.int (iz (num % 16))), some (.long (jz (num / 16))), none, some (.int (iz 1)), some (.int (iz ((num / 16) % 3125))), none, none]) (st' := [.long (jz 3125), .long (jz (num / 16))]) (h' := cmH z zl (uf (uf (uf f 10 pp) 11 li) 12 (iu (iu (iu (iu ty 0 (((num % 16) / 1) % 2)) 1 (((num % 16) / 2) % 2)) 2 (((num % 16) / 4) % 2)) 3 (((num % 16) / 8) % 2))) fl tx) rfl ?_
  refine Rx.ldiv rfl ⟨by omega, by omega⟩ ⟨by omega, by omega⟩ (by omega) (by omega) ?_
  refine Rx.walk 5 (pc' := 74) (L' := [some (.ref 0), some (.long (jz num)), none, some (.int (iz (num % 16))), some (.long (jz ((num / 16) / 3125))), none, some (.int (iz 1)), some (.int (iz ((num / 16) % 3125))), some (.int (iz 0)), some (.int (iz ((num / 16) % 3125)))]) (st' := []) (h' := cmH z zl (uf (uf (uf f 10 pp) 11 li) 12 (iu (iu (iu (iu ty 0 (((num % 16) / 1) % 2)) 1 (((num % 16) / 2) % 2)) 2 (((num % 16) / 4) % 2)) 3 (((num % 16) / 8) % 2))) fl tx) rfl ?_
  refine m_opens_c1 _ z zl (uf (uf (uf f 10 pp) 11 li) 12 (iu (iu (iu (iu ty 0 (((num % 16) / 1) % 2)) 1 (((num % 16) / 2) % 2)) 2 (((num % 16) / 4) % 2)) 3 (((num % 16) / 8) % 2))) fl tx K num (num % 16) ((num / 16) / 3125) ((num / 16) % 3125) n1 hn1 _ ?_ (((num / 16) % 3125) + 1 : Int).toNat 0 ((num / 16) % 3125) (by first | assumption | omega) (by first | assumption | omega) (by first | assumption | omega) ⟨n1, by rw [show ((num / 16) % 3125) = p1 by omega]; exact hk1, by omega⟩ (by omega) 
  intro v_7
  refine Rx.walk 0 (pc' := 91) (L' := [some (.ref 0), some (.long (jz num)), none, some (.int (iz (num % 16))), some (.long (jz ((num / 16) / 3125))), none, some (.int (iz 1)), some (.int (iz ((num / 16) % 3125))), some (.int (iz (n1 : Int))), some (.int (iz v_7))]) (st' := []) (h' := cmH z zl (uf (uf (uf f 10 pp) 11 li) 12 (iu (iu (iu (iu ty 0 (((num % 16) / 1) % 2)) 1 (((num % 16) / 2) % 2)) 2 (((num % 16) / 4) % 2)) 3 (((num % 16) / 8) % 2))) fl tx) rfl ?_
  refine Rx.walk 4 (pc' := 99) (L' := [some (.ref 0), some (.long (jz num)), none, some (.int (iz (num % 16))), some (.long (jz ((num / 16) / 3125))), none, some (.int (iz 1)), some (.int (iz ((num / 16) % 3125))), some (.int (iz (n1 : Int))), some (.int (iz v_7))]) (st' := [.int (iz (n1 : Int)), .int (iz 1), .ref 11]) (h' := cmH z zl (uf (uf (uf f 10 pp) 11 li) 12 (iu (iu (iu (iu ty 0 (((num % 16) / 1) % 2)) 1 (((num % 16) / 2) % 2)) 2 (((num % 16) / 4) % 2)) 3 (((num % 16) / 8) % 2))) fl tx) rfl ?_
  refine Rx.ias (g := li) (h' := cmH z zl (uf (uf (uf f 10 pp) 11 (iu li 1 (n1 : Int))) 12 (iu (iu (iu (iu ty 0 (((num % 16) / 1) % 2)) 1 (((num % 16) / 2) % 2)) 2 (((num % 16) / 4) % 2)) 3 (((num % 16) / 8) % 2))) fl tx) rfl rfl (by omega) (by omega) (by omega) rfl ?_
  refine Rx.walk 2 (pc' := 103) (L' := [some (.ref 0), some (.long (jz num)), none, some (.int (iz (num % 16))), some (.long (jz ((num / 16) / 3125))), none, some (.int (iz 1)), some (.int (iz ((num / 16) % 3125))), some (.int (iz (n1 : Int))), some (.int (iz v_7))]) (st' := [.int (iz 1), .int (iz (n1 : Int))]) (h' := cmH z zl (uf (uf (uf f 10 pp) 11 (iu li 1 (n1 : Int))) 12 (iu (iu (iu (iu ty 0 (((num % 16) / 1) % 2)) 1 (((num % 16) / 2) % 2)) 2 (((num % 16) / 4) % 2)) 3 (((num % 16) / 8) % 2))) fl tx) rfl ?_
  refine Rx.isub rfl ?_
  refine Rx.walk 1 (pc' := 106) (L' := [some (.ref 0), some (.long (jz num)), none, some (.int (iz (num % 16))), some (.long (jz ((num / 16) / 3125))), none, some (.int (iz 1)), some (.int (iz ((num / 16) % 3125))), some (.int (iz (n1 : Int))), some (.int (iz ((n1 : Int) - 1)))]) (st' := []) (h' := cmH z zl (uf (uf (uf f 10 pp) 11 (iu li 1 (n1 : Int))) 12 (iu (iu (iu (iu ty 0 (((num % 16) / 1) % 2)) 1 (((num % 16) / 2) % 2)) 2 (((num % 16) / 4) % 2)) 3 (((num % 16) / 8) % 2))) fl tx) rfl ?_
  refine m_opens_f1 _ z zl (uf (uf (uf f 10 pp) 11 (iu li 1 (n1 : Int))) 12 (iu (iu (iu (iu ty 0 (((num % 16) / 1) % 2)) 1 (((num % 16) / 2) % 2)) 2 (((num % 16) / 4) % 2)) 3 (((num % 16) / 8) % 2))) fl tx K num (num % 16) ((num / 16) / 3125) n1 pp p1 hn1 _ ?_ ((((n1 : Int) - 1) + 1) + 1 : Int).toNat ((num / 16) % 3125) ((n1 : Int) - 1) pp (by first | assumption | omega) (by first | assumption | omega) (by first | assumption | omega) (by first | assumption | omega) (by rw [show ((num / 16) % 3125) = p1 by omega, show ((n1 : Int) - 1 + 1).toNat = n1 by omega]; exact hk1) (fun j _ => rfl) (fun g _ hg => by rw [show ((num / 16) % 3125) = p1 by omega, show ((n1 : Int) - 1 + 1).toNat = n1 by omega] at hg; exact hg) (by omega) 
  intro n_8 i_9 pp_10 f11 f12
  refine Rx.walk 0 (pc' := 141) (L' := [some (.ref 0), some (.long (jz num)), none, some (.int (iz (num % 16))), some (.long (jz ((num / 16) / 3125))), none, some (.int (iz 1)), some (.int (iz n_8)), some (.int (iz (n1 : Int))), some (.int (iz i_9))]) (st' := []) (h' := cmH z zl (uf (uf (uf f 10 pp_10) 11 (iu li 1 (n1 : Int))) 12 (iu (iu (iu (iu ty 0 (((num % 16) / 1) % 2)) 1 (((num % 16) / 2) % 2)) 2 (((num % 16) / 4) % 2)) 3 (((num % 16) / 8) % 2))) fl tx) rfl ?_
  refine Rx.iinc (b := -1) rfl rfl rfl ?_
  refine Rx.walk 0 (pc' := 144) (L' := [some (.ref 0), some (.long (jz num)), none, some (.int (iz (num % 16))), some (.long (jz ((num / 16) / 3125))), none, some (.int (iz 0)), some (.int (iz n_8)), some (.int (iz (n1 : Int))), some (.int (iz i_9))]) (st' := []) (h' := cmH z zl (uf (uf (uf f 10 pp_10) 11 (iu li 1 (n1 : Int))) 12 (iu (iu (iu (iu ty 0 (((num % 16) / 1) % 2)) 1 (((num % 16) / 2) % 2)) 2 (((num % 16) / 4) % 2)) 3 (((num % 16) / 8) % 2))) fl tx) rfl ?_
  refine Rx.walk 2 (pc' := 47) (L' := [some (.ref 0), some (.long (jz num)), none, some (.int (iz (num % 16))), some (.long (jz ((num / 16) / 3125))), none, some (.int (iz 0)), some (.int (iz n_8)), some (.int (iz (n1 : Int))), some (.int (iz i_9))]) (st' := [.int (iz 0)]) (h' := cmH z zl (uf (uf (uf f 10 pp_10) 11 (iu li 1 (n1 : Int))) 12 (iu (iu (iu (iu ty 0 (((num % 16) / 1) % 2)) 1 (((num % 16) / 2) % 2)) 2 (((num % 16) / 4) % 2)) 3 (((num % 16) / 8) % 2))) fl tx) rfl ?_
  refine Rx.lt1 rfl rfl ⟨by omega, by omega⟩ (fun b13 => by omega) (fun b13 => ?_)
  refine Rx.walk 2 (pc' := 55) (L' := [some (.ref 0), some (.long (jz num)), none, some (.int (iz (num % 16))), some (.long (jz ((num / 16) / 3125))), none, some (.int (iz 0)), some (.int (iz n_8)), some (.int (iz (n1 : Int))), some (.int (iz i_9))]) (st' := [.long (jz 3125), .long (jz ((num / 16) / 3125))]) (h' := cmH z zl (uf (uf (uf f 10 pp_10) 11 (iu li 1 (n1 : Int))) 12 (iu (iu (iu (iu ty 0 (((num % 16) / 1) % 2)) 1 (((num % 16) / 2) % 2)) 2 (((num % 16) / 4) % 2)) 3 (((num % 16) / 8) % 2))) fl tx) rfl ?_
  refine Rx.lrem rfl ⟨by omega, by omega⟩ ⟨by omega, by omega⟩ (by omega) (by omega) ?_
  refine Rx.l2i rfl ?_
  refine Rx.walk 3 (pc' := 64) (L' := [some (.ref 0), some (.long (jz num)), none, some (.int (iz (num % 16))), some (.long (jz ((num / 16) / 3125))), none, some (.int (iz 0)), some (.int (iz (((num / 16) / 3125) % 3125))), some (.int (iz (n1 : Int))), some (.int (iz i_9))]) (st' := [.long (jz 3125), .long (jz ((num / 16) / 3125))]) (h' := cmH z zl (uf (uf (uf f 10 pp_10) 11 (iu li 1 (n1 : Int))) 12 (iu (iu (iu (iu ty 0 (((num % 16) / 1) % 2)) 1 (((num % 16) / 2) % 2)) 2 (((num % 16) / 4) % 2)) 3 (((num % 16) / 8) % 2))) fl tx) rfl ?_
  refine Rx.ldiv rfl ⟨by omega, by omega⟩ ⟨by omega, by omega⟩ (by omega) (by omega) ?_
  refine Rx.walk 5 (pc' := 74) (L' := [some (.ref 0), some (.long (jz num)), none, some (.int (iz (num % 16))), some (.long (jz (((num / 16) / 3125) / 3125))), none, some (.int (iz 0)), some (.int (iz (((num / 16) / 3125) % 3125))), some (.int (iz 0)), some (.int (iz (((num / 16) / 3125) % 3125)))]) (st' := []) (h' := cmH z zl (uf (uf (uf f 10 pp_10) 11 (iu li 1 (n1 : Int))) 12 (iu (iu (iu (iu ty 0 (((num % 16) / 1) % 2)) 1 (((num % 16) / 2) % 2)) 2 (((num % 16) / 4) % 2)) 3 (((num % 16) / 8) % 2))) fl tx) rfl ?_
  refine m_opens_c0 _ z zl (uf (uf (uf f 10 pp_10) 11 (iu li 1 (n1 : Int))) 12 (iu (iu (iu (iu ty 0 (((num % 16) / 1) % 2)) 1 (((num % 16) / 2) % 2)) 2 (((num % 16) / 4) % 2)) 3 (((num % 16) / 8) % 2))) fl tx K num (num % 16) (((num / 16) / 3125) / 3125) (((num / 16) / 3125) % 3125) n0 hn0 _ ?_ ((((num / 16) / 3125) % 3125) + 1 : Int).toNat 0 (((num / 16) / 3125) % 3125) (by first | assumption | omega) (by first | assumption | omega) (by first | assumption | omega) ⟨n0, by rw [show (((num / 16) / 3125) % 3125) = p0 by omega]; exact hk0, by omega⟩ (by omega) 
  intro v_14
  refine Rx.walk 0 (pc' := 91) (L' := [some (.ref 0), some (.long (jz num)), none, some (.int (iz (num % 16))), some (.long (jz (((num / 16) / 3125) / 3125))), none, some (.int (iz 0)), some (.int (iz (((num / 16) / 3125) % 3125))), some (.int (iz (n0 : Int))), some (.int (iz v_14))]) (st' := []) (h' := cmH z zl (uf (uf (uf f 10 pp_10) 11 (iu li 1 (n1 : Int))) 12 (iu (iu (iu (iu ty 0 (((num % 16) / 1) % 2)) 1 (((num % 16) / 2) % 2)) 2 (((num % 16) / 4) % 2)) 3 (((num % 16) / 8) % 2))) fl tx) rfl ?_
  refine Rx.walk 4 (pc' := 99) (L' := [some (.ref 0), some (.long (jz num)), none, some (.int (iz (num % 16))), some (.long (jz (((num / 16) / 3125) / 3125))), none, some (.int (iz 0)), some (.int (iz (((num / 16) / 3125) % 3125))), some (.int (iz (n0 : Int))), some (.int (iz v_14))]) (st' := [.int (iz (n0 : Int)), .int (iz 0), .ref 11]) (h' := cmH z zl (uf (uf (uf f 10 pp_10) 11 (iu li 1 (n1 : Int))) 12 (iu (iu (iu (iu ty 0 (((num % 16) / 1) % 2)) 1 (((num % 16) / 2) % 2)) 2 (((num % 16) / 4) % 2)) 3 (((num % 16) / 8) % 2))) fl tx) rfl ?_
  refine Rx.ias (g := (iu li 1 (n1 : Int))) (h' := cmH z zl (uf (uf (uf f 10 pp_10) 11 (iu (iu li 1 (n1 : Int)) 0 (n0 : Int))) 12 (iu (iu (iu (iu ty 0 (((num % 16) / 1) % 2)) 1 (((num % 16) / 2) % 2)) 2 (((num % 16) / 4) % 2)) 3 (((num % 16) / 8) % 2))) fl tx) rfl rfl (by omega) (by omega) (by omega) rfl ?_
  refine Rx.walk 2 (pc' := 103) (L' := [some (.ref 0), some (.long (jz num)), none, some (.int (iz (num % 16))), some (.long (jz (((num / 16) / 3125) / 3125))), none, some (.int (iz 0)), some (.int (iz (((num / 16) / 3125) % 3125))), some (.int (iz (n0 : Int))), some (.int (iz v_14))]) (st' := [.int (iz 1), .int (iz (n0 : Int))]) (h' := cmH z zl (uf (uf (uf f 10 pp_10) 11 (iu (iu li 1 (n1 : Int)) 0 (n0 : Int))) 12 (iu (iu (iu (iu ty 0 (((num % 16) / 1) % 2)) 1 (((num % 16) / 2) % 2)) 2 (((num % 16) / 4) % 2)) 3 (((num % 16) / 8) % 2))) fl tx) rfl ?_
  refine Rx.isub rfl ?_
  refine Rx.walk 1 (pc' := 106) (L' := [some (.ref 0), some (.long (jz num)), none, some (.int (iz (num % 16))), some (.long (jz (((num / 16) / 3125) / 3125))), none, some (.int (iz 0)), some (.int (iz (((num / 16) / 3125) % 3125))), some (.int (iz (n0 : Int))), some (.int (iz ((n0 : Int) - 1)))]) (st' := []) (h' := cmH z zl (uf (uf (uf f 10 pp_10) 11 (iu (iu li 1 (n1 : Int)) 0 (n0 : Int))) 12 (iu (iu (iu (iu ty 0 (((num % 16) / 1) % 2)) 1 (((num % 16) / 2) % 2)) 2 (((num % 16) / 4) % 2)) 3 (((num % 16) / 8) % 2))) fl tx) rfl ?_
  refine m_opens_f0 _ z zl (uf (uf (uf f 10 pp_10) 11 (iu (iu li 1 (n1 : Int)) 0 (n0 : Int))) 12 (iu (iu (iu (iu ty 0 (((num % 16) / 1) % 2)) 1 (((num % 16) / 2) % 2)) 2 (((num % 16) / 4) % 2)) 3 (((num % 16) / 8) % 2))) fl tx K num (num % 16) (((num / 16) / 3125) / 3125) n0 pp_10 p0 hn0 _ ?_ ((((n0 : Int) - 1) + 1) + 1 : Int).toNat (((num / 16) / 3125) % 3125) ((n0 : Int) - 1) pp_10 (by first | assumption | omega) (by first | assumption | omega) (by first | assumption | omega) (by first | assumption | omega) (by rw [show (((num / 16) / 3125) % 3125) = p0 by omega, show ((n0 : Int) - 1 + 1).toNat = n0 by omega]; exact hk0) (fun j _ => rfl) (fun g _ hg => by rw [show (((num / 16) / 3125) % 3125) = p0 by omega, show ((n0 : Int) - 1 + 1).toNat = n0 by omega] at hg; exact hg) (by omega) 
  intro n_15 i_16 pp_17 f18 f19
  refine Rx.walk 0 (pc' := 141) (L' := [some (.ref 0), some (.long (jz num)), none, some (.int (iz (num % 16))), some (.long (jz (((num / 16) / 3125) / 3125))), none, some (.int (iz 0)), some (.int (iz n_15)), some (.int (iz (n0 : Int))), some (.int (iz i_16))]) (st' := []) (h' := cmH z zl (uf (uf (uf f 10 pp_17) 11 (iu (iu li 1 (n1 : Int)) 0 (n0 : Int))) 12 (iu (iu (iu (iu ty 0 (((num % 16) / 1) % 2)) 1 (((num % 16) / 2) % 2)) 2 (((num % 16) / 4) % 2)) 3 (((num % 16) / 8) % 2))) fl tx) rfl ?_
  refine Rx.iinc (b := -1) rfl rfl rfl ?_
  refine Rx.walk 0 (pc' := 144) (L' := [some (.ref 0), some (.long (jz num)), none, some (.int (iz (num % 16))), some (.long (jz (((num / 16) / 3125) / 3125))), none, some (.int (iz (-1))), some (.int (iz n_15)), some (.int (iz (n0 : Int))), some (.int (iz i_16))]) (st' := []) (h' := cmH z zl (uf (uf (uf f 10 pp_17) 11 (iu (iu li 1 (n1 : Int)) 0 (n0 : Int))) 12 (iu (iu (iu (iu ty 0 (((num % 16) / 1) % 2)) 1 (((num % 16) / 2) % 2)) 2 (((num % 16) / 4) % 2)) 3 (((num % 16) / 8) % 2))) fl tx) rfl ?_
  refine Rx.walk 2 (pc' := 47) (L' := [some (.ref 0), some (.long (jz num)), none, some (.int (iz (num % 16))), some (.long (jz (((num / 16) / 3125) / 3125))), none, some (.int (iz (-1))), some (.int (iz n_15)), some (.int (iz (n0 : Int))), some (.int (iz i_16))]) (st' := [.int (iz (-1))]) (h' := cmH z zl (uf (uf (uf f 10 pp_17) 11 (iu (iu li 1 (n1 : Int)) 0 (n0 : Int))) 12 (iu (iu (iu (iu ty 0 (((num % 16) / 1) % 2)) 1 (((num % 16) / 2) % 2)) 2 (((num % 16) / 4) % 2)) 3 (((num % 16) / 8) % 2))) fl tx) rfl ?_
  refine Rx.lt1 rfl rfl ⟨by omega, by omega⟩ (fun b20 => ?_) (fun b20 => by omega)
  refine Rx.ret rfl ?_
  refine ⟨_, _, _, rfl, rfl, hp0, hp1, ⟨n0, hn0, by simp [iu], f18⟩, ⟨n1, hn1, by simp [iu], ?_⟩, ht0, ht1, hK, fun k k0 k4 => ?_⟩
  · refine prI_ext f11 (fun i hi => (f19 _ (Or.inr (by omega))))
  · rcases (show k = 0 ∨ k = 1 ∨ k = 2 ∨ k = 3 by omega) with rfl | rfl | rfl | rfl <;> simp [iu] <;> (rcases ht with ⟨a, b⟩ | ⟨a, b⟩ | ⟨a, b⟩ | ⟨a, b⟩ | ⟨a, b⟩ <;> rw [a] <;> simp <;> omega)
set_option maxRecDepth 100000 in
set_option maxHeartbeats 4000000 in
theorem m_place15_l (d : Nat) (z : Nat → Int) (zl : Nat → Int) (f : Nat → Int → Int) (fl : Nat → Int → Int) (tx : Nat)  (mn : Int) (v : Int) (rs : Int → Int) (m1 : mn ≤ 1001) (hv : 0 ≤ v ∧ v < 2147483648) (hb : ∀ i : Int, 0 ≤ i → i < mn → 0 ≤ rs i ∧ rs i < 2147483648) (P : Option Value → AmH → Prop) (hx0 : ∀ (k' : Int), (0 ≤ k') → (k' ≤ mn) → (∀ i : Int, k' ≤ i → i < mn → v ≤ rs i) → (k' = 0 ∨ rs (k' - 1) < v) → Rx (d) m_X12_place 25 [some (.ref 15), some (.int (iz mn)), some (.long (jz v)), none, some (.int (iz k'))] [] (cmH z zl f (uf fl 15 rs) tx) P) : ∀ (kF : Nat) (k : Int), (0 ≤ k) → (k ≤ mn) → (∀ i : Int, k ≤ i → i < mn → v ≤ rs i) → k < (kF : Int) → Rx (d) m_X12_place 3 [some (.ref 15), some (.int (iz mn)), some (.long (jz v)), none, some (.int (iz k))] [] (cmH z zl f (uf fl 15 rs) tx) P := by
  intro kF
  induction kF with
  | zero =>
    intro k k0 k1 hi hk
    exfalso; omega
  | succ kF ih =>
    intro k k0 k1 hi hk
    refine Rx.walk 1 (pc' := 5) (L' := [some (.ref 15), some (.int (iz mn)), some (.long (jz v)), none, some (.int (iz k))]) (st' := [.int (iz k)]) (h' := cmH z zl f (uf fl 15 rs) tx) rfl ?_
    refine Rx.le1 rfl rfl ⟨by omega, by omega⟩ (fun b1 => ?_) (fun b1 => ?_)
    · exact hx0 _ (by first | assumption | omega) (by first | assumption | omega) hi (by first | assumption | omega)
    · refine Rx.walk 3 (pc' := 12) (L' := [some (.ref 15), some (.int (iz mn)), some (.long (jz v)), none, some (.int (iz k))]) (st' := [.int (iz 1), .int (iz k), .ref 15]) (h' := cmH z zl f (uf fl 15 rs) tx) rfl ?_
      refine Rx.isub rfl ?_
      refine Rx.lal (g := rs) rfl rfl (by omega) (by omega) (by omega) ?_
      have y := hb (k - 1) (by omega) (by omega)
      refine Rx.walk 1 (pc' := 15) (L' := [some (.ref 15), some (.int (iz mn)), some (.long (jz v)), none, some (.int (iz k))]) (st' := [.long (jz v), .long (jz (rs (k - 1)))]) (h' := cmH z zl f (uf fl 15 rs) tx) rfl ?_
      refine Rx.lcmp rfl ⟨by omega, by omega⟩ ⟨by omega, by omega⟩ ?_
      refine Rx.ltc rfl rfl (fun b2 => ?_) (fun b2 => ?_)
      · exact hx0 _ (by first | assumption | omega) (by first | assumption | omega) hi (by first | assumption | omega)
      · refine Rx.iinc (b := -1) rfl rfl rfl ?_
        refine Rx.walk 0 (pc' := 22) (L' := [some (.ref 15), some (.int (iz mn)), some (.long (jz v)), none, some (.int (iz (k + (-1))))]) (st' := []) (h' := cmH z zl f (uf fl 15 rs) tx) rfl ?_
        refine Rx.walk 1 (pc' := 3) (L' := [some (.ref 15), some (.int (iz mn)), some (.long (jz v)), none, some (.int (iz (k + (-1))))]) (st' := []) (h' := cmH z zl f (uf fl 15 rs) tx) rfl ?_
        exact ih (k + (-1)) (by first | assumption | omega) (by first | assumption | omega) (fun i h0 h1 => by by_cases e : i = k - 1; (rw [e]; omega); exact hi i (by omega) h1) (by first | assumption | omega) 
set_option maxRecDepth 100000 in
set_option maxHeartbeats 4000000 in
theorem m_place15 (d : Nat) (z : Nat → Int) (zl : Nat → Int) (f : Nat → Int → Int) (fl : Nat → Int → Int) (tx : Nat)  (mn : Int) (v : Int) (rs : Int → Int) (m0 : 0 ≤ mn) (m1 : mn ≤ 1001) (hv : 0 ≤ v ∧ v < 2147483648) (hb : ∀ i : Int, 0 ≤ i → i < mn → 0 ≤ rs i ∧ rs i < 2147483648) (hs : ∀ i j : Int, 0 ≤ i → i < j → j < mn → rs i < rs j) : Rx (d) m_X12_place 0 (am_ent [.ref 15, .int (iz mn), .long (jz v)] 5) [] (cmH z zl f (uf fl 15 rs) tx) (fun rv h => ∃ k : Int, rv = some (.int (iz k)) ∧ h = cmH z zl f (uf fl 15 rs) tx ∧ 0 ≤ k ∧ k ≤ mn ∧ (∀ i : Int, k ≤ i → i < mn → v ≤ rs i) ∧ (∀ i : Int, 0 ≤ i → i < k → rs i < v)) := by
  refine Rx.walk 0 (pc' := 0) (L' := [some (.ref 15), some (.int (iz mn)), some (.long (jz v)), none, none]) (st' := []) (h' := cmH z zl f (uf fl 15 rs) tx) rfl ?_
  refine Rx.walk 2 (pc' := 3) (L' := [some (.ref 15), some (.int (iz mn)), some (.long (jz v)), none, some (.int (iz mn))]) (st' := []) (h' := cmH z zl f (uf fl 15 rs) tx) rfl ?_
  refine m_place15_l _ z zl f (uf fl 15 rs) tx mn v rs (by first | assumption | omega) hv hb _ ?_ (mn + 1 : Int).toNat mn (by first | assumption | omega) (by first | assumption | omega) (fun i h0 h1 => by omega) (by omega) 
  intro k_1 f2 f3 f4 f5
  refine Rx.walk 0 (pc' := 25) (L' := [some (.ref 15), some (.int (iz mn)), some (.long (jz v)), none, some (.int (iz k_1))]) (st' := []) (h' := cmH z zl f (uf fl 15 rs) tx) rfl ?_
  refine Rx.walk 1 (pc' := 27) (L' := [some (.ref 15), some (.int (iz mn)), some (.long (jz v)), none, some (.int (iz k_1))]) (st' := [.int (iz k_1)]) (h' := cmH z zl f (uf fl 15 rs) tx) rfl ?_
  refine Rx.ret rfl ?_
  exact ⟨_, rfl, rfl, f2, f3, f4, fun i h0 h1 => by by_cases e : i = k_1 - 1; (rw [e]; omega); have := hs i (k_1 - 1) h0 (by omega) (by omega); omega⟩
set_option maxRecDepth 100000 in
set_option maxHeartbeats 4000000 in
theorem m_place19_l (d : Nat) (z : Nat → Int) (zl : Nat → Int) (f : Nat → Int → Int) (fl : Nat → Int → Int) (tx : Nat)  (mn : Int) (v : Int) (rs : Int → Int) (m1 : mn ≤ 201) (hv : 0 ≤ v ∧ v < 2147483648) (hb : ∀ i : Int, 0 ≤ i → i < mn → 0 ≤ rs i ∧ rs i < 2147483648) (P : Option Value → AmH → Prop) (hx0 : ∀ (k' : Int), (0 ≤ k') → (k' ≤ mn) → (∀ i : Int, k' ≤ i → i < mn → v ≤ rs i) → (k' = 0 ∨ rs (k' - 1) < v) → Rx (d) m_X12_place 25 [some (.ref 19), some (.int (iz mn)), some (.long (jz v)), none, some (.int (iz k'))] [] (cmH z zl f (uf fl 19 rs) tx) P) : ∀ (kF : Nat) (k : Int), (0 ≤ k) → (k ≤ mn) → (∀ i : Int, k ≤ i → i < mn → v ≤ rs i) → k < (kF : Int) → Rx (d) m_X12_place 3 [some (.ref 19), some (.int (iz mn)), some (.long (jz v)), none, some (.int (iz k))] [] (cmH z zl f (uf fl 19 rs) tx) P := by
  intro kF
  induction kF with
  | zero =>
    intro k k0 k1 hi hk
    exfalso; omega
  | succ kF ih =>
    intro k k0 k1 hi hk
    refine Rx.walk 1 (pc' := 5) (L' := [some (.ref 19), some (.int (iz mn)), some (.long (jz v)), none, some (.int (iz k))]) (st' := [.int (iz k)]) (h' := cmH z zl f (uf fl 19 rs) tx) rfl ?_
    refine Rx.le1 rfl rfl ⟨by omega, by omega⟩ (fun b1 => ?_) (fun b1 => ?_)
    · exact hx0 _ (by first | assumption | omega) (by first | assumption | omega) hi (by first | assumption | omega)
    · refine Rx.walk 3 (pc' := 12) (L' := [some (.ref 19), some (.int (iz mn)), some (.long (jz v)), none, some (.int (iz k))]) (st' := [.int (iz 1), .int (iz k), .ref 19]) (h' := cmH z zl f (uf fl 19 rs) tx) rfl ?_
      refine Rx.isub rfl ?_
      refine Rx.lal (g := rs) rfl rfl (by omega) (by omega) (by omega) ?_
      have y := hb (k - 1) (by omega) (by omega)
      refine Rx.walk 1 (pc' := 15) (L' := [some (.ref 19), some (.int (iz mn)), some (.long (jz v)), none, some (.int (iz k))]) (st' := [.long (jz v), .long (jz (rs (k - 1)))]) (h' := cmH z zl f (uf fl 19 rs) tx) rfl ?_
      refine Rx.lcmp rfl ⟨by omega, by omega⟩ ⟨by omega, by omega⟩ ?_
      refine Rx.ltc rfl rfl (fun b2 => ?_) (fun b2 => ?_)
      · exact hx0 _ (by first | assumption | omega) (by first | assumption | omega) hi (by first | assumption | omega)
      · refine Rx.iinc (b := -1) rfl rfl rfl ?_
        refine Rx.walk 0 (pc' := 22) (L' := [some (.ref 19), some (.int (iz mn)), some (.long (jz v)), none, some (.int (iz (k + (-1))))]) (st' := []) (h' := cmH z zl f (uf fl 19 rs) tx) rfl ?_
        refine Rx.walk 1 (pc' := 3) (L' := [some (.ref 19), some (.int (iz mn)), some (.long (jz v)), none, some (.int (iz (k + (-1))))]) (st' := []) (h' := cmH z zl f (uf fl 19 rs) tx) rfl ?_
        exact ih (k + (-1)) (by first | assumption | omega) (by first | assumption | omega) (fun i h0 h1 => by by_cases e : i = k - 1; (rw [e]; omega); exact hi i (by omega) h1) (by first | assumption | omega) 
set_option maxRecDepth 100000 in
set_option maxHeartbeats 4000000 in
theorem m_place19 (d : Nat) (z : Nat → Int) (zl : Nat → Int) (f : Nat → Int → Int) (fl : Nat → Int → Int) (tx : Nat)  (mn : Int) (v : Int) (rs : Int → Int) (m0 : 0 ≤ mn) (m1 : mn ≤ 201) (hv : 0 ≤ v ∧ v < 2147483648) (hb : ∀ i : Int, 0 ≤ i → i < mn → 0 ≤ rs i ∧ rs i < 2147483648) (hs : ∀ i j : Int, 0 ≤ i → i < j → j < mn → rs i < rs j) : Rx (d) m_X12_place 0 (am_ent [.ref 19, .int (iz mn), .long (jz v)] 5) [] (cmH z zl f (uf fl 19 rs) tx) (fun rv h => ∃ k : Int, rv = some (.int (iz k)) ∧ h = cmH z zl f (uf fl 19 rs) tx ∧ 0 ≤ k ∧ k ≤ mn ∧ (∀ i : Int, k ≤ i → i < mn → v ≤ rs i) ∧ (∀ i : Int, 0 ≤ i → i < k → rs i < v)) := by
  refine Rx.walk 0 (pc' := 0) (L' := [some (.ref 19), some (.int (iz mn)), some (.long (jz v)), none, none]) (st' := []) (h' := cmH z zl f (uf fl 19 rs) tx) rfl ?_
  refine Rx.walk 2 (pc' := 3) (L' := [some (.ref 19), some (.int (iz mn)), some (.long (jz v)), none, some (.int (iz mn))]) (st' := []) (h' := cmH z zl f (uf fl 19 rs) tx) rfl ?_
  refine m_place19_l _ z zl f (uf fl 19 rs) tx mn v rs (by first | assumption | omega) hv hb _ ?_ (mn + 1 : Int).toNat mn (by first | assumption | omega) (by first | assumption | omega) (fun i h0 h1 => by omega) (by omega) 
  intro k_1 f2 f3 f4 f5
  refine Rx.walk 0 (pc' := 25) (L' := [some (.ref 19), some (.int (iz mn)), some (.long (jz v)), none, some (.int (iz k_1))]) (st' := []) (h' := cmH z zl f (uf fl 19 rs) tx) rfl ?_
  refine Rx.walk 1 (pc' := 27) (L' := [some (.ref 19), some (.int (iz mn)), some (.long (jz v)), none, some (.int (iz k_1))]) (st' := [.int (iz k_1)]) (h' := cmH z zl f (uf fl 19 rs) tx) rfl ?_
  refine Rx.ret rfl ?_
  exact ⟨_, rfl, rfl, f2, f3, f4, fun i h0 h1 => by by_cases e : i = k_1 - 1; (rw [e]; omega); have := hs i (k_1 - 1) h0 (by omega) (by omega); omega⟩
set_option maxRecDepth 100000 in
set_option maxHeartbeats 4000000 in
theorem m_keepResult_l (d : Nat) (z : Nat → Int) (zl : Nat → Int) (f : Nat → Int → Int) (fl : Nat → Int → Int) (tx : Nat)  (v : Int) (k : Int) (rm : Int) (rs : Int → Int) (h0 : 0 ≤ k) (h1 : k ≤ rm) (h2 : rm ≤ 1000) (P : Option Value → AmH → Prop) (hx0 : ∀ (i' : Int) (g' : Int → Int), (∀ j : Int, 0 ≤ j → j ≤ k → g' j = rs j) → (∀ j : Int, k < j → j ≤ rm → g' j = rs (j - 1)) → Rx (d) m_X12_keepResult 77 [some (.ref 0), some (.long (jz v)), none, some (.int (iz k)), some (.int (iz i'))] [] (cmH (u1 z 39 rm) zl f (uf fl 15 g') tx) P) : ∀ (kF : Nat) (i : Int) (g : Int → Int), (k ≤ i) → (i ≤ rm) → (∀ j : Int, 0 ≤ j → j ≤ i → g j = rs j) → (∀ j : Int, i < j → j ≤ rm → g j = rs (j - 1)) → (i - k) < (kF : Int) → Rx (d) m_X12_keepResult 49 [some (.ref 0), some (.long (jz v)), none, some (.int (iz k)), some (.int (iz i))] [] (cmH (u1 z 39 rm) zl f (uf fl 15 g) tx) P := by
  intro kF
  induction kF with
  | zero =>
    intro i g i0 i1 g1 g2 hk
    exfalso; omega
  | succ kF ih =>
    intro i g i0 i1 g1 g2 hk
    refine Rx.walk 2 (pc' := 52) (L' := [some (.ref 0), some (.long (jz v)), none, some (.int (iz k)), some (.int (iz i))]) (st' := [.int (iz k), .int (iz i)]) (h' := cmH (u1 z 39 rm) zl f (uf fl 15 g) tx) rfl ?_
    refine Rx.le2 rfl rfl ⟨by omega, by omega⟩ ⟨by omega, by omega⟩ (fun b1 => ?_) (fun b1 => ?_)
    · have e : i = k := by omega
      subst e
      exact hx0 _ _ g1 g2
    · refine Rx.walk 7 (pc' := 68) (L' := [some (.ref 0), some (.long (jz v)), none, some (.int (iz k)), some (.int (iz i))]) (st' := [.int (iz 1), .int (iz i), .ref 15, .int (iz i), .ref 15]) (h' := cmH (u1 z 39 rm) zl f (uf fl 15 g) tx) rfl ?_
      refine Rx.isub rfl ?_
      refine Rx.lal (g := g) rfl rfl (by omega) (by omega) (by omega) ?_
      refine Rx.las (g := g) (h' := cmH (u1 z 39 rm) zl f (uf fl 15 (iu g i (g (i - 1)))) tx) rfl rfl (by omega) (by omega) (by omega) rfl ?_
      refine Rx.iinc (b := -1) rfl rfl rfl ?_
      refine Rx.walk 0 (pc' := 74) (L' := [some (.ref 0), some (.long (jz v)), none, some (.int (iz k)), some (.int (iz (i + (-1))))]) (st' := []) (h' := cmH (u1 z 39 rm) zl f (uf fl 15 (iu g i (g (i - 1)))) tx) rfl ?_
      refine Rx.walk 1 (pc' := 49) (L' := [some (.ref 0), some (.long (jz v)), none, some (.int (iz k)), some (.int (iz (i + (-1))))]) (st' := []) (h' := cmH (u1 z 39 rm) zl f (uf fl 15 (iu g i (g (i - 1)))) tx) rfl ?_
      exact ih (i + (-1)) (iu g i (g (i - 1))) (by first | assumption | omega) (by first | assumption | omega) (fun j j0 j1 => by rw [iu_ne _ _ (by omega)]; exact g1 j j0 (by omega)) (fun j j0 j1 => by by_cases e : j = i; (rw [e, iu_at]; exact g1 (i - 1) (by omega) (by omega)); rw [iu_ne _ _ e]; exact g2 j (by omega) j1) (by first | assumption | omega) 
set_option maxRecDepth 100000 in
set_option maxHeartbeats 4000000 in
theorem m_keepResult (d : Nat) (z : Nat → Int) (zl : Nat → Int) (f : Nat → Int → Int) (fl : Nat → Int → Int) (tx : Nat)  (v : Int) (rm : Int) (rs : Int → Int) (hv : 0 ≤ v ∧ v < 2147483648) (hI : krI rm rs) : Rx (d + 1) m_X12_keepResult 0 (am_ent [.ref 0, .long (jz v)] 5) [] (cmH (u1 z 39 rm) zl f (uf fl 15 rs) tx) (fun rv h => ∃ rm' : Int, ∃ rs' : Int → Int, rv = none ∧ h = cmH (u1 z 39 rm') zl f (uf fl 15 rs') tx ∧ krX (fun x => x = v) rm rs rm' rs' ∧ hasR rm' rs' v) := by
  obtain ⟨hi0, hi1, hi2, hi3⟩ := id hI
  refine Rx.walk 0 (pc' := 0) (L' := [some (.ref 0), some (.long (jz v)), none, none, none]) (st' := []) (h' := cmH (u1 z 39 rm) zl f (uf fl 15 rs) tx) rfl ?_
  refine Rx.walk 5 (pc' := 9) (L' := [some (.ref 0), some (.long (jz v)), none, none, none]) (st' := [.long (jz v), .int (iz rm), .ref 15]) (h' := cmH (u1 z 39 rm) zl f (uf fl 15 rs) tx) rfl ?_
  refine Rx.callx (m' := m_X12_place) (as := [.ref 15, .int (iz rm), .long (jz v)]) (rest := []) rfl (m_place15 _ (u1 z 39 rm) zl f (uf fl 15 rs) tx  rm v rs (by first | assumption | omega) (by first | assumption | omega) (by first | assumption | omega) hi3 hi2) (fun v6 h7 q8 => ?_)
  obtain ⟨k_1, rfl, rfl, f2, f3, f4, f5⟩ := q8
  refine Rx.walk 0 (pc' := 12) (L' := [some (.ref 0), some (.long (jz v)), none, none, none]) (st' := [.int (iz k_1)]) (h' := cmH (u1 z 39 rm) zl f (uf fl 15 rs) tx) rfl ?_
  refine Rx.walk 4 (pc' := 18) (L' := [some (.ref 0), some (.long (jz v)), none, some (.int (iz k_1)), none]) (st' := [.int (iz rm), .int (iz k_1)]) (h' := cmH (u1 z 39 rm) zl f (uf fl 15 rs) tx) rfl ?_
  refine Rx.ge2 rfl rfl ⟨by omega, by omega⟩ ⟨by omega, by omega⟩ (fun b9 => ?_) (fun b9 => ?_)
  · refine Rx.walk 3 (pc' := 39) (L' := [some (.ref 0), some (.long (jz v)), none, some (.int (iz k_1)), none]) (st' := [.int (iz 1000), .int (iz rm)]) (h' := cmH (u1 z 39 rm) zl f (uf fl 15 rs) tx) rfl ?_
    refine Rx.le2 rfl rfl ⟨by omega, by omega⟩ ⟨by omega, by omega⟩ (fun b10 => ?_) (fun b10 => ?_)
    · refine Rx.walk 3 (pc' := 49) (L' := [some (.ref 0), some (.long (jz v)), none, some (.int (iz k_1)), some (.int (iz rm))]) (st' := []) (h' := cmH (u1 z 39 rm) zl f (uf fl 15 rs) tx) rfl ?_
      refine m_keepResult_l _ (u1 z 39 rm) zl f (uf fl 15 rs) tx v k_1 rm rs (by first | assumption | omega) (by first | assumption | omega) (by first | assumption | omega) _ ?_ ((rm - k_1) + 1 : Int).toNat rm rs (by first | assumption | omega) (by first | assumption | omega) (fun j _ _ => rfl) (fun j h0 h1 => by omega) (by omega) 
      intro i_11 g_12 f13 f14
      refine Rx.walk 0 (pc' := 77) (L' := [some (.ref 0), some (.long (jz v)), none, some (.int (iz k_1)), some (.int (iz i_11))]) (st' := []) (h' := cmH (u1 z 39 rm) zl f (uf fl 15 g_12) tx) rfl ?_
      refine Rx.walk 4 (pc' := 83) (L' := [some (.ref 0), some (.long (jz v)), none, some (.int (iz k_1)), some (.int (iz i_11))]) (st' := [.long (jz v), .int (iz k_1), .ref 15]) (h' := cmH (u1 z 39 rm) zl f (uf fl 15 g_12) tx) rfl ?_
      refine Rx.las (g := g_12) (h' := cmH (u1 z 39 rm) zl f (uf fl 15 (iu g_12 k_1 v)) tx) rfl rfl (by omega) (by omega) (by omega) rfl ?_
      refine Rx.walk 4 (pc' := 90) (L' := [some (.ref 0), some (.long (jz v)), none, some (.int (iz k_1)), some (.int (iz i_11))]) (st' := [.int (iz 1), .int (iz rm), .ref 0]) (h' := cmH (u1 z 39 rm) zl f (uf fl 15 (iu g_12 k_1 v)) tx) rfl ?_
      refine Rx.iadd rfl ?_
      refine Rx.walk 1 (pc' := 94) (L' := [some (.ref 0), some (.long (jz v)), none, some (.int (iz k_1)), some (.int (iz i_11))]) (st' := []) (h' := cmH (u1 z 39 (rm + 1)) zl f (uf fl 15 (iu g_12 k_1 v)) tx) rfl ?_
      refine Rx.ret rfl ?_
      obtain ⟨x1, x2⟩ := kr_ins hI f2 f3 (by omega) hv f5 (fun i h0 h1 => by have q1 := f4 i h0 h1; by_cases e : rs i = v; (exfalso; by_cases e2 : i = k_1; (subst e2; omega); have := hI.2.2.1 k_1 i f2 (by omega) h1; have := f4 k_1 (by omega) (by omega); omega); omega) f13 f14
      exact ⟨_, _, rfl, rfl, x1, x2⟩
    · refine Rx.ret rfl ?_
      exact ⟨_, _, rfl, rfl, krX_rf hI, Or.inl (by omega)⟩
  · refine Rx.walk 3 (pc' := 26) (L' := [some (.ref 0), some (.long (jz v)), none, some (.int (iz k_1)), none]) (st' := [.int (iz k_1), .ref 15]) (h' := cmH (u1 z 39 rm) zl f (uf fl 15 rs) tx) rfl ?_
    refine Rx.lal (g := rs) rfl rfl (by omega) (by omega) (by omega) ?_
    have y := hi3 (k_1) (by omega) (by omega)
    refine Rx.walk 1 (pc' := 28) (L' := [some (.ref 0), some (.long (jz v)), none, some (.int (iz k_1)), none]) (st' := [.long (jz v), .long (jz (rs k_1))]) (h' := cmH (u1 z 39 rm) zl f (uf fl 15 rs) tx) rfl ?_
    refine Rx.lcmp rfl ⟨by omega, by omega⟩ ⟨by omega, by omega⟩ ?_
    refine Rx.eqc rfl rfl (fun b15 => ?_) (fun b15 => ?_)
    · refine Rx.ret rfl ?_
      exact ⟨_, _, rfl, rfl, krX_rf hI, Or.inr (mem_lsI.mpr ⟨k_1, f2, by omega, b15⟩)⟩
    · refine Rx.walk 3 (pc' := 39) (L' := [some (.ref 0), some (.long (jz v)), none, some (.int (iz k_1)), none]) (st' := [.int (iz 1000), .int (iz rm)]) (h' := cmH (u1 z 39 rm) zl f (uf fl 15 rs) tx) rfl ?_
      refine Rx.le2 rfl rfl ⟨by omega, by omega⟩ ⟨by omega, by omega⟩ (fun b16 => ?_) (fun b16 => ?_)
      · refine Rx.walk 3 (pc' := 49) (L' := [some (.ref 0), some (.long (jz v)), none, some (.int (iz k_1)), some (.int (iz rm))]) (st' := []) (h' := cmH (u1 z 39 rm) zl f (uf fl 15 rs) tx) rfl ?_
        refine m_keepResult_l _ (u1 z 39 rm) zl f (uf fl 15 rs) tx v k_1 rm rs (by first | assumption | omega) (by first | assumption | omega) (by first | assumption | omega) _ ?_ ((rm - k_1) + 1 : Int).toNat rm rs (by first | assumption | omega) (by first | assumption | omega) (fun j _ _ => rfl) (fun j h0 h1 => by omega) (by omega) 
        intro i_17 g_18 f19 f20
        refine Rx.walk 0 (pc' := 77) (L' := [some (.ref 0), some (.long (jz v)), none, some (.int (iz k_1)), some (.int (iz i_17))]) (st' := []) (h' := cmH (u1 z 39 rm) zl f (uf fl 15 g_18) tx) rfl ?_
        refine Rx.walk 4 (pc' := 83) (L' := [some (.ref 0), some (.long (jz v)), none, some (.int (iz k_1)), some (.int (iz i_17))]) (st' := [.long (jz v), .int (iz k_1), .ref 15]) (h' := cmH (u1 z 39 rm) zl f (uf fl 15 g_18) tx) rfl ?_
        refine Rx.las (g := g_18) (h' := cmH (u1 z 39 rm) zl f (uf fl 15 (iu g_18 k_1 v)) tx) rfl rfl (by omega) (by omega) (by omega) rfl ?_
        refine Rx.walk 4 (pc' := 90) (L' := [some (.ref 0), some (.long (jz v)), none, some (.int (iz k_1)), some (.int (iz i_17))]) (st' := [.int (iz 1), .int (iz rm), .ref 0]) (h' := cmH (u1 z 39 rm) zl f (uf fl 15 (iu g_18 k_1 v)) tx) rfl ?_
        refine Rx.iadd rfl ?_
        refine Rx.walk 1 (pc' := 94) (L' := [some (.ref 0), some (.long (jz v)), none, some (.int (iz k_1)), some (.int (iz i_17))]) (st' := []) (h' := cmH (u1 z 39 (rm + 1)) zl f (uf fl 15 (iu g_18 k_1 v)) tx) rfl ?_
        refine Rx.ret rfl ?_
        obtain ⟨x1, x2⟩ := kr_ins hI f2 f3 (by omega) hv f5 (fun i h0 h1 => by have q1 := f4 i h0 h1; by_cases e : rs i = v; (exfalso; by_cases e2 : i = k_1; (subst e2; omega); have := hI.2.2.1 k_1 i f2 (by omega) h1; have := f4 k_1 (by omega) (by omega); omega); omega) f19 f20
        exact ⟨_, _, rfl, rfl, x1, x2⟩
      · refine Rx.ret rfl ?_
        exact ⟨_, _, rfl, rfl, krX_rf hI, Or.inl (by omega)⟩

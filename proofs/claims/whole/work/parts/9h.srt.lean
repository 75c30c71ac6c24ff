/-! a set of tills, sorted -/
theorem nd_cnt {v : Int} : ∀ {l : List Int}, l.Pairwise (· ≠ ·) → l.count v ≤ 1
  | [], _ => by simp
  | a :: l, h => by
    obtain ⟨h1, h2⟩ := List.pairwise_cons.mp h
    rw [List.count_cons]
    by_cases e : a = v
    · subst e
      rw [List.count_eq_zero.mpr (fun q => h1 a q rfl)]
      simp
    · have := nd_cnt (v := v) h2
      simp [e]
      exact this
theorem cnt_2 {g : Int → Int} : ∀ {n : Nat} {i j : Int}, 0 ≤ i → i < j → j < n → g i = g j → 2 ≤ (lsI n g).count (g j)
  | 0, i, j, h0, h1, h2, _ => by omega
  | n + 1, i, j, h0, h1, h2, e => by
    rw [lsI_succ, List.count_append]
    by_cases q : j = (n : Int)
    · subst q
      have : 0 < (lsI n g).count (g (n : Int)) := List.count_pos_iff.mpr (mem_lsI.mpr ⟨i, h0, h1, e⟩)
      simp only [List.count_cons, List.count_nil, beq_self_eq_true, if_true]
      omega
    · have := cnt_2 (n := n) h0 h1 (by omega) e
      omega
theorem srt_fin {sz : Int} {ti ti' : Int → Int} (h0 : 0 ≤ sz) (hn : (lsI sz.toNat ti).Pairwise (· ≠ ·)) (hc : ∀ x : Int, (lsI sz.toNat ti').count x = (lsI sz.toNat ti).count x) (hs : srtI sz ti') : (∀ i j : Int, 0 ≤ i → i < j → j < sz → ti' i < ti' j) ∧ ∀ v, v ∈ lsI sz.toNat ti' ↔ v ∈ lsI sz.toNat ti := by
  refine ⟨fun i j i0 ij j1 => ?_, fun v => ?_⟩
  · have := hs i j i0 ij j1
    by_cases e : ti' i = ti' j
    · have h1 := cnt_2 (n := sz.toNat) i0 ij (by omega) e
      rw [hc] at h1
      have := nd_cnt (v := ti' j) hn
      omega
    · omega
  · rw [← List.count_pos_iff, ← List.count_pos_iff, hc]
/-- RESULTS told: n of them, rising -/
def srN (R : Int → Prop) (n : Int) (g : Int → Int) : Prop := 0 ≤ n ∧ n ≤ 1000 ∧ (∀ i j : Int, 0 ≤ i → i < j → j < n → g i < g j) ∧ ∀ v, v ∈ lsI n.toNat g ↔ R v
theorem srN_uq {R : Int → Prop} {n n' : Int} {g g' : Int → Int} (h : srN R n g) (h' : srN R n' g') : n = n' ∧ ∀ i : Int, 0 ≤ i → i < n → g i = g' i := by
  obtain ⟨a, b, c, d⟩ := h
  obtain ⟨a', b', c', d'⟩ := h'
  have s1 : (lsI n.toNat g).Pairwise (· < ·) := by
    unfold lsI
    rw [List.pairwise_map]
    refine List.Pairwise.imp_of_mem (R := (· < ·)) (fun {x y} hx hy q => ?_) List.pairwise_lt_range
    rw [List.mem_range] at hx hy
    exact c x y (by omega) (by omega) (by omega)
  have s2 : (lsI n'.toNat g').Pairwise (· < ·) := by
    unfold lsI
    rw [List.pairwise_map]
    refine List.Pairwise.imp_of_mem (R := (· < ·)) (fun {x y} hx hy q => ?_) List.pairwise_lt_range
    rw [List.mem_range] at hx hy
    exact c' x y (by omega) (by omega) (by omega)
  have e := srt_uniq s1 s2 (fun v => (d v).trans (d' v).symm)
  have el := congrArg List.length e
  rw [lsI_len, lsI_len] at el
  refine ⟨by omega, fun i i0 i1 => ?_⟩
  have e1 := lsI_at (n := n.toNat) (g := g) (i := i.toNat) (by omega)
  have e2 := lsI_at (n := n'.toNat) (g := g') (i := i.toNat) (by omega)
  rw [e, e2, Int.toNat_of_nonneg i0] at e1
  exact (Option.some.inj e1).symm
theorem srN_no {R : Int → Prop} {n : Int} {g : Int → Int} (h : srN R n g) : ¬ tooM 1000 R := tooM_no (fun v hv => (h.2.2.2 v).mpr hv) (by rw [lsI_len]; have := h.2.1; omega)
theorem krI_srN {R : Int → Prop} {rm : Int} {rs : Int → Int} (h : krI rm rs) (h1 : ∀ v, v ∈ lsI rm.toNat rs → R v) (h2 : rm ≤ 1000 ∧ ∀ v, R v → v ∈ lsI rm.toNat rs) : srN R rm rs := ⟨h.1, h2.1, h.2.2.1, fun v => ⟨h1 v, h2.2 v⟩⟩
theorem krI_tooM1 {rm : Int} {rs : Int → Int} {U : Int → Prop} (h : krI rm rs) (hm : rm = 1001) (hU : ∀ v, v ∈ lsI rm.toNat rs → U v) : tooM 1000 U := by
  obtain ⟨a1, a2, a3, a4⟩ := h
  subst hm
  exact ⟨lsI 1001 rs, lsI_nd (fun i j i0 ij j1 q => by have := a3 i j i0 ij (by omega); omega), lsI_len _ _, hU⟩
/-- the answer of result -/
def rsR (R : Int → Prop) (k r : Int) : Prop := (tooM 1000 R ∧ r = -2) ∨ (∃ n g, srN R n g ∧ ((k = -1 ∧ r = n) ∨ (0 ≤ k ∧ k < n ∧ r = g k) ∨ ((k < -1 ∨ n ≤ k) ∧ r = -1)))
theorem rsR_uq {R : Int → Prop} {k r r' : Int} (h : rsR R k r) (h' : rsR R k r') : r = r' := by
  rcases h with ⟨a, b⟩ | ⟨n, g, a, b⟩ <;> rcases h' with ⟨a', b'⟩ | ⟨n', g', a', b'⟩
  · omega
  · exact absurd a (srN_no a')
  · exact absurd a' (srN_no a)
  · obtain ⟨e1, e2⟩ := srN_uq a a'
    have := a.1
    by_cases q : 0 ≤ k ∧ k < n
    · have := e2 k q.1 q.2
      omega
    · omega

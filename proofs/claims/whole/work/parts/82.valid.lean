/-! tills that can be, and what is come to from them -/
def okP (K len p : Int) : Prop := 0 ≤ p ∧ ∃ n : Nat, n ≤ 5 ∧ okN K n p ∧ (n : Int) ≤ len
theorem okP_b {K len p : Int} (h : okP K len p) : 0 ≤ p ∧ p < 3125 ∧ ht p ≤ len := by
  obtain ⟨h0, n, n5, h1, h2⟩ := h
  have := okN_ht h0 h1 n5
  omega
theorem okP_pop {K len p : Int} (h : okP K len p) (hp : 0 < p % 5) : okP K len (p / 5) ∧ p % 5 ≤ K := by
  obtain ⟨h0, n, n5, h1, h2⟩ := h
  cases n with
  | zero => have h1 : p = 0 := h1; omega
  | succ n => exact ⟨⟨by omega, n, by omega, h1.2.2, by push_cast at h2; omega⟩, h1.2.1⟩
theorem okP_push {K len p e : Int} (h : okP K len p) (hl : ht p < len) (h5 : len ≤ 5) (e1 : 1 ≤ e) (eK : e ≤ K) (hK : K ≤ 4) : okP K len (p * 5 + e) := by
  obtain ⟨h0, n, n5, h1, h2⟩ := h
  have := okN_ht h0 h1 n5
  refine ⟨by omega, n + 1, by omega, ⟨by omega, by omega, by rw [show (p * 5 + e) / 5 = p by omega]; exact h1⟩, by push_cast; omega⟩
theorem okP_0 {K len : Int} (h : 0 ≤ len) : okP K len 0 := ⟨Int.le_refl _, 0, by omega, rfl, h⟩
def okS (K len pi : Int) (s : SS) : Prop := okP K len s.1 ∧ okP K len s.2.1 ∧ 0 ≤ s.2.2.1 ∧ s.2.2.1 ≤ K ∧ (pi = 1 → s.2.1 = 0)
theorem okS_stp {K len pi tr : Int} {w : Int → Int} {s s' : SS} (h : okS K len pi s) (hs : stp w tr s s') : okS K len pi s' := by
  obtain ⟨a, b, c, d, e⟩ := h
  obtain ⟨-, ⟨x1, -, rfl⟩ | ⟨x1, -, rfl⟩ | ⟨x1, x2, -, rfl⟩ | ⟨x1, -, rfl⟩ | ⟨x1, x2, -, rfl⟩⟩ := hs
  · exact ⟨a, b, Int.le_refl _, by show (0 : Int) ≤ K; omega, e⟩
  · exact ⟨(okP_pop a x1).1, b, c, d, e⟩
  · exact ⟨(okP_pop a x1).1, b, by show 0 ≤ s.1 % 5; omega, (okP_pop a x1).2, e⟩
  · exact ⟨a, (okP_pop b x1).1, c, d, fun q => by have := e q; show s.2.1 / 5 = 0; omega⟩
  · exact ⟨a, (okP_pop b x1).1, by show 0 ≤ s.2.1 % 5; omega, (okP_pop b x1).2, fun q => by have := e q; show s.2.1 / 5 = 0; omega⟩
theorem okS_rch {K len pi tr : Int} {w : Int → Int} {s : SS} (h : okS K len pi s) : ∀ {n : Nat} {s' : SS}, rch w tr n s s' → okS K len pi s'
  | 0, s', e => by
    have e : s' = s := e
    rw [e]; exact h
  | n + 1, s', ⟨m, h1, h2⟩ => okS_stp (okS_rch h h1) h2
/-- a till as its number -/
def vT (K len pi v : Int) : Prop := ∃ p0 p1 t, v = tn p0 p1 t ∧ okP K len p0 ∧ okP K len p1 ∧ 0 ≤ t ∧ t ≤ K ∧ (pi = 1 → p1 = 0)
theorem ptv_ok {K len pi t : Int} (hK : K ≤ 4) (h5 : len ≤ 5) (t0 : 0 ≤ t) (tK : t ≤ K) {v : Int} : ∀ {hd : List Int} {a b : Int}, (∀ e ∈ hd, 1 ≤ e ∧ e ≤ K) → okP K len a → okP K len b → (pi = 1 → b = 0) → v ∈ ptv len pi (tw t) hd a b → vT K len pi v
  | [], a, b, _, ha, hb, hp, hv => ⟨a, b, t, List.mem_singleton.mp hv, ha, hb, t0, tK, hp⟩
  | e :: l, a, b, he, ha, hb, hp, hv => by
    have hv : v ∈ _ ++ _ := hv
    have e1 := he e List.mem_cons_self
    rcases List.mem_append.mp hv with q | q
    · split at q
      · exact ptv_ok hK h5 t0 tK (fun x hx => he x (List.mem_cons_of_mem _ hx)) (okP_push ha (by assumption) h5 e1.1 e1.2 hK) hb hp q
      · cases q
    · split at q
      · rename_i h
        exact ptv_ok hK h5 t0 tK (fun x hx => he x (List.mem_cons_of_mem _ hx)) ha (okP_push hb h.2 h5 e1.1 e1.2 hK) (fun x => by omega) q
      · cases q
theorem hG_d {gv : Int → Int} : ∀ {k : Nat} {e : Int}, e ∈ hG gv k → 1 ≤ e ∧ e ≤ k
  | 0, _, h => by cases h
  | k + 1, e, h => by
    have h : e ∈ List.replicate (gv k).toNat ((k : Int) + 1) ++ hG gv k := h
    rcases List.mem_append.mp h with q | q
    · have := (List.mem_replicate.mp q).2
      push_cast
      omega
    · have := hG_d q
      push_cast
      omega
theorem RES_vT {w cn : Int → Int} {K tr len pi p0 p1 t pr v : Int} (hK0 : 0 ≤ K) (hK : K ≤ 4) (h5 : len ≤ 5) (h0 : okP K len p0) (h1 : okP K len p1) (t0 : 0 ≤ t) (tK : t ≤ K) (hp : pi = 1 → p1 = 0) (h : RES w K tr len pi p0 p1 t pr cn v) : vT K len pi v := by
  obtain ⟨gv, a, b, n, q0, q1, t', hr, hv⟩ := h
  obtain ⟨b1, b2, b3, b4, b5⟩ := okS_rch (s := (p0, p1, t, _)) (K := K) (len := len) (pi := pi) ⟨h0, h1, t0, tK, hp⟩ hr
  exact ptv_ok hK h5 b3 b4 (fun e he => by have := hG_d he; omega) b1 b2 b5 hv
def dgt (x : Int) : Int := if x = 0 then 0 else if x = 1 then 1 else if x = 2 then 2 else if x = 4 then 3 else 4
theorem dgt_tw {t : Int} (h0 : 0 ≤ t) (h4 : t ≤ 4) : dgt (tw t) = t := by
  rcases (show t = 0 ∨ t = 1 ∨ t = 2 ∨ t = 3 ∨ t = 4 by omega) with rfl | rfl | rfl | rfl | rfl <;> rfl
/-- RESULTS from a till's number -/
def resN (w : Int → Int) (K tr len pi pr : Int) (cn : Int → Int) (v v' : Int) : Prop := RES w K tr len pi (v / 16 / 3125) (v / 16 % 3125) (dgt (v % 16)) pr cn v'
theorem resN_tn {w cn : Int → Int} {K tr len pi pr p0 p1 t v : Int} (h1 : okP K len p1) (t0 : 0 ≤ t) (t4 : t ≤ 4) : resN w K tr len pi pr cn (tn p0 p1 t) v ↔ RES w K tr len pi p0 p1 t pr cn v := by
  have b := okP_b h1
  have e := tn_0 (p0 := p0) b.1 b.2.1 t0 t4
  unfold resN
  rw [e.1, e.2.1, e.2.2, dgt_tw t0 t4]
theorem resN_vT {w cn : Int → Int} {K tr len pi pr v v' : Int} (hK0 : 0 ≤ K) (hK : K ≤ 4) (h5 : len ≤ 5) (h : vT K len pi v) (hr : resN w K tr len pi pr cn v v') : vT K len pi v' := by
  obtain ⟨p0, p1, t, rfl, a, b, c, d, e⟩ := h
  exact RES_vT hK0 hK h5 a b c d e ((resN_tn b c (by omega)).mp hr)
theorem vT_b {K len pi v : Int} (hK : K ≤ 4) (h : vT K len pi v) : 0 ≤ v ∧ v < 2147483648 := by
  obtain ⟨p0, p1, t, rfl, a, b, c, d, e⟩ := h
  have a := okP_b a
  have b := okP_b b
  have t := tw_c c (by omega)
  unfold tn
  omega
/-- more than n -/
def tooM (n : Nat) (U : Int → Prop) : Prop := ∃ l : List Int, l.Pairwise (· ≠ ·) ∧ l.length = n + 1 ∧ ∀ v ∈ l, U v
theorem tooM_no {n : Nat} {U : Int → Prop} {S : List Int} (h : ∀ v, U v → v ∈ S) (hn : S.length ≤ n) : ¬ tooM n U := by
  rintro ⟨l, h1, h2, h3⟩
  have := nd_le l S h1 (fun v hv => h v (h3 v hv))
  omega
/-- a set that takes no more, and one more -/
theorem adS_tooM {t : Nat} {S' : List Int} {S : List Int} {V U : Int → Prop} (h : adS (tlm t) S S' V 0) (hn : S'.Pairwise (· ≠ ·)) (hU : ∀ v, v ∈ S' → U v) (hV : ∀ v, V v → U v) : tooM (tlm t).toNat U := by
  obtain ⟨-, -, h | ⟨-, h2, v, h3, h4⟩⟩ := h
  · exact absurd h.1 (by decide)
  · refine ⟨v :: S', List.pairwise_cons.mpr ⟨fun x hx q => h4 (q ▸ hx), hn⟩, ?_, fun x hx => ?_⟩
    · rw [List.length_cons]; omega
    · rcases List.mem_cons.mp hx with q | q
      · rw [q]; exact hV v h3
      · exact hU x q
theorem tsI_nd {t : Nat} {sz : Int} {sl ho ti : Int → Int} (h : tsI t sz sl ho ti) : (lsI sz.toNat ti).Pairwise (· ≠ ·) := lsI_nd (fun i j h0 h1 h2 q => by
  have := h.1
  have := h.2.2.2.2.1 i j h0 (by omega) (by omega) (by omega) q
  omega)
/-- behind a customer -/
def nxU (w : Int → Int) (K tr len pi pr : Int) (cn : Int → Int) (U : Int → Prop) (v : Int) : Prop := ∃ u, U u ∧ resN w K tr len pi pr cn u v

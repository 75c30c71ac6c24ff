/-! the model's till: pipes as rows of kinds -/
def prI (K : Int) (g : Int → Int) (o : Int) : Nat → Int → Prop
  | 0, p => p = 0
  | n + 1, p => 1 ≤ p % 5 ∧ p % 5 ≤ K ∧ g (o + n) = p % 5 - 1 ∧ prI K g o n (p / 5)
/-- digits that are none but 1 .. K -/
def okN (K : Int) : Nat → Int → Prop
  | 0, p => p = 0
  | n + 1, p => 1 ≤ p % 5 ∧ p % 5 ≤ K ∧ okN K n (p / 5)
theorem prI_okN {K : Int} {g : Int → Int} {o : Int} : ∀ {n : Nat} {p : Int}, prI K g o n p → okN K n p
  | 0, _, h => h
  | _ + 1, _, ⟨a, b, _, d⟩ => ⟨a, b, prI_okN d⟩
theorem okN_b {K : Int} : ∀ {n : Nat} {p : Int}, 0 ≤ p → okN K n p → (n = 0 ∧ p = 0) ∨ (n = 1 ∧ 1 ≤ p ∧ p < 5) ∨ (n = 2 ∧ 5 ≤ p ∧ p < 25) ∨ (n = 3 ∧ 25 ≤ p ∧ p < 125) ∨ (n = 4 ∧ 125 ≤ p ∧ p < 625) ∨ (n = 5 ∧ 625 ≤ p ∧ p < 3125) ∨ 6 ≤ n
  | 0, p, _, h => by
    have h : p = 0 := h
    omega
  | n + 1, p, h0, ⟨a, b, c⟩ => by
    have := okN_b (K := K) (n := n) (p := p / 5) (by omega) c
    omega
theorem okN_ht {K : Int} {n : Nat} {p : Int} (h0 : 0 ≤ p) (h : okN K n p) (hn : n ≤ 5) : ht p = n ∧ p < 3125 := by
  have a := okN_b h0 h
  have b := ht_c p
  omega
theorem prI_iu {K : Int} {g : Int → Int} {o j x : Int} : ∀ {n : Nat} {p : Int}, prI K g o n p → (∀ i : Nat, i < n → o + (i : Int) ≠ j) → prI K (iu g j x) o n p
  | 0, _, h, _ => h
  | n + 1, p, ⟨a, b, c, d⟩, hj => ⟨a, b, by rw [iu_ne _ _ (hj n (Nat.lt_succ_self n))]; exact c, prI_iu d (fun i hi => hj i (by omega))⟩
theorem prI_push {K : Int} {g : Int → Int} {o k : Int} {n : Nat} {p : Int} (h : prI K g o n p) (k0 : 0 ≤ k) (k1 : k < K) (K4 : K ≤ 4) : prI K (iu g (o + n) k) o (n + 1) (p * 5 + (k + 1)) := by
  refine ⟨by omega, by omega, by rw [iu_at]; omega, ?_⟩
  rw [show (p * 5 + (k + 1)) / 5 = p by omega]
  exact prI_iu h (fun i hi => by omega)
/-- what the first so many of a pipe are as a number -/
def pv (g : Int → Int) (o : Int) : Nat → Int
  | 0 => 0
  | n + 1 => 5 * pv g o n + g (o + n) + 1
theorem prI_pv {K : Int} {g : Int → Int} {o : Int} : ∀ {n : Nat} {p : Int}, prI K g o n p → pv g o n = p
  | 0, _, h => h.symm
  | n + 1, p, ⟨a, b, c, d⟩ => by
    show 5 * pv g o n + g (o + n) + 1 = p
    rw [prI_pv d, c]
    omega
theorem pv_b {K : Int} {g : Int → Int} {o : Int} (K4 : K ≤ 4) : ∀ {n m : Nat} {p : Int}, prI K g o n p → 0 ≤ p → m ≤ n → n ≤ 5 → 0 ≤ pv g o m ∧ pv g o m < 3125 ∧ (m < n → 0 ≤ g (o + m) ∧ g (o + m) < K)
  | 0, m, p, h, h0, hm, _ => by
    have : m = 0 := by omega
    subst this
    exact ⟨Int.le_refl _, by show (0 : Int) < 3125; omega, fun q => by omega⟩
  | n + 1, m, p, h, h0, hm, h5 => by
    by_cases e : m = n + 1
    · subst e
      rw [prI_pv h]
      have := okN_ht h0 (prI_okN h) h5
      exact ⟨h0, this.2, fun q => by omega⟩
    · have := pv_b K4 (n := n) (m := m) (p := p / 5) h.2.2.2 (by omega) (by omega) (by omega)
      refine ⟨this.1, this.2.1, fun q => ?_⟩
      by_cases e2 : m = n
      · subst e2
        have := h.2.2.1
        have := h.1
        have := h.2.1
        omega
      · exact this.2.2 (by omega)
def mtI (K : Int) (pp li ty : Int → Int) (p0 p1 t : Int) : Prop := 0 ≤ p0 ∧ 0 ≤ p1 ∧ (∃ n : Nat, n ≤ 5 ∧ li 0 = n ∧ prI K pp 0 n p0) ∧ (∃ n : Nat, n ≤ 5 ∧ li 1 = n ∧ prI K pp 5 n p1) ∧ 0 ≤ t ∧ t ≤ K ∧ K ≤ 4 ∧ ∀ k : Int, 0 ≤ k → k < 4 → ty k = if t = k + 1 then 1 else 0
theorem mtI_b {K : Int} {pp li ty : Int → Int} {p0 p1 t : Int} (h : mtI K pp li ty p0 p1 t) : (0 ≤ p0 ∧ p0 < 3125 ∧ li 0 = ht p0) ∧ (0 ≤ p1 ∧ p1 < 3125 ∧ li 1 = ht p1) ∧ 0 ≤ t ∧ t ≤ K ∧ K ≤ 4 := by
  obtain ⟨a, b, ⟨n, n5, c1, c2⟩, ⟨m, m5, d1, d2⟩, e, f, g, -⟩ := h
  have x := okN_ht a (prI_okN c2) n5
  have y := okN_ht b (prI_okN d2) m5
  omega
theorem mtI_t {K : Int} {pp li ty : Int → Int} {p0 p1 t : Int} (h : mtI K pp li ty p0 p1 t) : (t = 0 ∧ ty 0 = 0 ∧ ty 1 = 0 ∧ ty 2 = 0 ∧ ty 3 = 0) ∨ (t = 1 ∧ ty 0 = 1 ∧ ty 1 = 0 ∧ ty 2 = 0 ∧ ty 3 = 0) ∨ (t = 2 ∧ ty 0 = 0 ∧ ty 1 = 1 ∧ ty 2 = 0 ∧ ty 3 = 0) ∨ (t = 3 ∧ ty 0 = 0 ∧ ty 1 = 0 ∧ ty 2 = 1 ∧ ty 3 = 0) ∨ (t = 4 ∧ ty 0 = 0 ∧ ty 1 = 0 ∧ ty 2 = 0 ∧ ty 3 = 1) := by
  obtain ⟨-, -, -, -, e, f, g, h⟩ := h
  rcases (show t = 0 ∨ t = 1 ∨ t = 2 ∨ t = 3 ∨ t = 4 by omega) with rfl | rfl | rfl | rfl | rfl
  · exact Or.inl ⟨rfl, h 0 (by omega) (by omega), h 1 (by omega) (by omega), h 2 (by omega) (by omega), h 3 (by omega) (by omega)⟩
  · exact Or.inr (Or.inl ⟨rfl, h 0 (by omega) (by omega), h 1 (by omega) (by omega), h 2 (by omega) (by omega), h 3 (by omega) (by omega)⟩)
  · exact Or.inr (Or.inr (Or.inl ⟨rfl, h 0 (by omega) (by omega), h 1 (by omega) (by omega), h 2 (by omega) (by omega), h 3 (by omega) (by omega)⟩))
  · exact Or.inr (Or.inr (Or.inr (Or.inl ⟨rfl, h 0 (by omega) (by omega), h 1 (by omega) (by omega), h 2 (by omega) (by omega), h 3 (by omega) (by omega)⟩)))
  · exact Or.inr (Or.inr (Or.inr (Or.inr ⟨rfl, h 0 (by omega) (by omega), h 1 (by omega) (by omega), h 2 (by omega) (by omega), h 3 (by omega) (by omega)⟩)))
/-- the top of a pipe -/
theorem mtI_top0 {K : Int} {pp li ty : Int → Int} {p0 p1 t : Int} (h : mtI K pp li ty p0 p1 t) : (li 0 = 0 ∧ p0 = 0) ∨ (1 ≤ li 0 ∧ pp (li 0 - 1) = p0 % 5 - 1 ∧ 1 ≤ p0 % 5 ∧ p0 % 5 ≤ K) := by
  obtain ⟨a, b, ⟨n, n5, c1, c2⟩, -⟩ := h
  cases n with
  | zero => exact Or.inl ⟨c1, c2⟩
  | succ n =>
    obtain ⟨x1, x2, x3, x4⟩ := c2
    refine Or.inr ⟨by omega, ?_, x1, x2⟩
    rw [← x3, c1]
    congr 1
    push_cast
    omega
theorem mtI_top1 {K : Int} {pp li ty : Int → Int} {p0 p1 t : Int} (h : mtI K pp li ty p0 p1 t) : (li 1 = 0 ∧ p1 = 0) ∨ (1 ≤ li 1 ∧ pp (5 + li 1 - 1) = p1 % 5 - 1 ∧ 1 ≤ p1 % 5 ∧ p1 % 5 ≤ K) := by
  obtain ⟨a, b, -, ⟨n, n5, c1, c2⟩, -⟩ := h
  cases n with
  | zero => exact Or.inl ⟨c1, c2⟩
  | succ n =>
    obtain ⟨x1, x2, x3, x4⟩ := c2
    refine Or.inr ⟨by omega, ?_, x1, x2⟩
    rw [← x3, c1]
    congr 1
    push_cast
    omega
theorem mtI_pop0 {K : Int} {pp li ty : Int → Int} {p0 p1 t : Int} (h : mtI K pp li ty p0 p1 t) (hl : 1 ≤ li 0) : mtI K pp (iu li 0 (li 0 - 1)) ty (p0 / 5) p1 t := by
  obtain ⟨a, b, ⟨n, n5, c1, c2⟩, d, e⟩ := h
  cases n with
  | zero => omega
  | succ n => exact ⟨by omega, b, ⟨n, by omega, by rw [iu_at, c1]; push_cast; omega, c2.2.2.2⟩, by rw [iu_ne _ _ (by decide)]; exact d, e⟩
theorem mtI_pop1 {K : Int} {pp li ty : Int → Int} {p0 p1 t : Int} (h : mtI K pp li ty p0 p1 t) (hl : 1 ≤ li 1) : mtI K pp (iu li 1 (li 1 - 1)) ty p0 (p1 / 5) t := by
  obtain ⟨a, b, d, ⟨n, n5, c1, c2⟩, e⟩ := h
  cases n with
  | zero => omega
  | succ n => exact ⟨a, by omega, by rw [iu_ne _ _ (by decide)]; exact d, ⟨n, by omega, by rw [iu_at, c1]; push_cast; omega, c2.2.2.2⟩, e⟩
theorem mtI_push0 {K : Int} {pp li ty : Int → Int} {p0 p1 t k : Int} (h : mtI K pp li ty p0 p1 t) (hl : li 0 ≤ 4) (k0 : 0 ≤ k) (k1 : k < K) : mtI K (iu pp (li 0) k) (iu li 0 (li 0 + 1)) ty (p0 * 5 + (k + 1)) p1 t := by
  obtain ⟨a, b, ⟨n, n5, c1, c2⟩, ⟨m, m5, d1, d2⟩, e, f, g, i⟩ := h
  have q := prI_push c2 k0 k1 g
  rw [Int.zero_add, ← c1] at q
  refine ⟨by omega, b, ⟨n + 1, by omega, by rw [iu_at, c1]; push_cast; omega, q⟩, ⟨m, m5, by rw [iu_ne _ _ (by decide)]; exact d1, prI_iu d2 (fun i hi => by omega)⟩, e, f, g, i⟩
theorem mtI_push1 {K : Int} {pp li ty : Int → Int} {p0 p1 t k : Int} (h : mtI K pp li ty p0 p1 t) (hl : li 1 ≤ 4) (k0 : 0 ≤ k) (k1 : k < K) : mtI K (iu pp (5 + li 1) k) (iu li 1 (li 1 + 1)) ty p0 (p1 * 5 + (k + 1)) t := by
  obtain ⟨a, b, ⟨n, n5, c1, c2⟩, ⟨m, m5, d1, d2⟩, e, f, g, i⟩ := h
  have q := prI_push d2 k0 k1 g
  rw [← d1] at q
  refine ⟨a, by omega, ⟨n, n5, by rw [iu_ne _ _ (by decide)]; exact c1, prI_iu c2 (fun i hi => by omega)⟩, ⟨m + 1, by omega, by rw [iu_at, d1]; push_cast; omega, q⟩, e, f, g, i⟩
theorem mtI_tray {K : Int} {pp li ty : Int → Int} {p0 p1 t k x : Int} (h : mtI K pp li ty p0 p1 t) (k0 : 0 ≤ k) (k1 : k < K) (hx : (t = 0 ∧ x = 1) ∨ (t = k + 1 ∧ x = 0)) : mtI K pp li (iu ty k x) p0 p1 (if x = 1 then k + 1 else 0) := by
  obtain ⟨a, b, c, d, e, f, g, i⟩ := h
  refine ⟨a, b, c, d, by split <;> omega, by split <;> omega, g, fun j j0 j1 => ?_⟩
  have := i j j0 j1
  by_cases q : j = k
  · subst q
    rw [iu_at]
    rcases hx with ⟨h1, h2⟩ | ⟨h1, h2⟩ <;> subst h2 <;> simp
    omega
  · rw [iu_ne _ _ q, this]
    rcases hx with ⟨h1, h2⟩ | ⟨h1, h2⟩
    · subst h2; rw [if_neg (by omega), if_pos rfl, if_neg (by omega)]
    · subst h2; rw [if_neg (show ¬ t = j + 1 by omega), if_neg (show ¬ (if (0 : Int) = 1 then k + 1 else 0) = j + 1 by rw [if_neg (by decide)]; omega)]
theorem iu_back (g : Int → Int) (j x : Int) : iu (iu g j x) j (g j) = g := by
  funext i
  by_cases e : i = j
  · rw [e, iu_at]
  · rw [iu_ne _ _ e, iu_ne _ _ e]
theorem iu_eq {g : Int → Int} {j x : Int} (h : x = g j) : iu g j x = g := by
  funext i
  by_cases e : i = j
  · rw [e, iu_at, h]
  · rw [iu_ne _ _ e]
theorem iu_iu (g : Int → Int) (j x y : Int) : iu (iu g j x) j y = iu g j y := by
  funext i
  by_cases e : i = j
  · rw [e, iu_at, iu_at]
  · rw [iu_ne _ _ e, iu_ne _ _ e, iu_ne _ _ e]
/-! what a paying can leave, from a state on -/
section Rch
variable {w : Int → Int} {tr : Int}
theorem rch_f {s m : SS} (h : stp w tr s m) : ∀ {n : Nat} {s' : SS}, rch w tr n m s' → rch w tr (n + 1) s s'
  | 0, s', h2 => by
    have h2 : s' = m := h2
    rw [h2]
    exact ⟨s, rfl, h⟩
  | n + 1, s', ⟨u, h3, h4⟩ => ⟨u, rch_f h h3, h4⟩
theorem rch_b {s : SS} : ∀ {n : Nat} {s' : SS}, rch w tr (n + 1) s s' → ∃ m, stp w tr s m ∧ rch w tr n m s'
  | 0, s', ⟨m, h1, h2⟩ => by
    have h1 : m = s := h1
    subst h1
    exact ⟨s', h2, rfl⟩
  | n + 1, s', ⟨m, h1, h2⟩ => by
    obtain ⟨u, h3, h4⟩ := rch_b (n := n) h1
    exact ⟨u, h3, ⟨m, h4, h2⟩⟩
end Rch
def lvW (w : Int → Int) (tr len pi : Int) (hd : List Int) (s : SS) (v : Int) : Prop := ∃ (n : Nat) (q0 q1 t' : Int), rch w tr n s (q0, q1, t', 0) ∧ v ∈ ptv len pi (tw t') hd q0 q1
section LvW
variable {w : Int → Int} {tr len pi : Int} {hd : List Int}
theorem lvW_0 (p0 p1 t v : Int) : lvW w tr len pi hd (p0, p1, t, 0) v ↔ v ∈ ptv len pi (tw t) hd p0 p1 := by
  constructor
  · rintro ⟨n, q0, q1, t', h, hv⟩
    cases n with
    | zero =>
      have h : (q0, q1, t', (0 : Int)) = (p0, p1, t, 0) := h
      cases h
      exact hv
    | succ n =>
      obtain ⟨m, h1, -⟩ := rch_b h
      exact absurd rfl h1.1
  · intro hv
    exact ⟨0, p0, p1, t, rfl, hv⟩
theorem lvW_s {s : SS} (h : s.2.2.2 ≠ 0) (v : Int) : lvW w tr len pi hd s v ↔ ∃ m, stp w tr s m ∧ lvW w tr len pi hd m v := by
  constructor
  · rintro ⟨n, q0, q1, t', h1, hv⟩
    cases n with
    | zero =>
      have h1 : (q0, q1, t', (0 : Int)) = s := h1
      rw [← h1] at h
      exact absurd rfl h
    | succ n =>
      obtain ⟨m, h2, h3⟩ := rch_b h1
      exact ⟨m, h2, n, q0, q1, t', h3, hv⟩
  · rintro ⟨m, h2, n, q0, q1, t', h3, hv⟩
    exact ⟨n + 1, q0, q1, t', rch_f h2 h3, hv⟩
end LvW
/-! the model's results: sorted, 1001 at most -/
def krI (rm : Int) (rs : Int → Int) : Prop := 0 ≤ rm ∧ rm ≤ 1001 ∧ (∀ i j : Int, 0 ≤ i → i < j → j < rm → rs i < rs j) ∧ (∀ i : Int, 0 ≤ i → i < rm → 0 ≤ rs i ∧ rs i < 2147483648)
def hasR (rm : Int) (rs : Int → Int) (v : Int) : Prop := 1001 ≤ rm ∨ v ∈ lsI rm.toNat rs
/-- from one row of results to a longer one: what is new is W's -/
def krX (W : Int → Prop) (rm : Int) (rs : Int → Int) (rm' : Int) (rs' : Int → Int) : Prop := rm ≤ rm' ∧ krI rm' rs' ∧ (∀ v, v ∈ lsI rm.toNat rs → v ∈ lsI rm'.toNat rs') ∧ (∀ v, v ∈ lsI rm'.toNat rs' → v ∈ lsI rm.toNat rs ∨ W v)
theorem krX_rf {W : Int → Prop} {rm : Int} {rs : Int → Int} (h : krI rm rs) : krX W rm rs rm rs := ⟨Int.le_refl _, h, fun _ h => h, fun _ h => Or.inl h⟩
theorem krX_tr {W : Int → Prop} {a b c : Int} {r s u : Int → Int} (h : krX W a r b s) (h' : krX W b s c u) : krX W a r c u := ⟨Int.le_trans h.1 h'.1, h'.2.1, fun v hv => h'.2.2.1 v (h.2.2.1 v hv), fun v hv => (h'.2.2.2 v hv).elim (fun x => h.2.2.2 v x) Or.inr⟩
theorem krX_im {W W' : Int → Prop} {a b : Int} {r s : Int → Int} (h : krX W a r b s) (hW : ∀ v, W v → W' v) : krX W' a r b s := ⟨h.1, h.2.1, h.2.2.1, fun v hv => (h.2.2.2 v hv).imp id (hW v)⟩
theorem hasR_x {W : Int → Prop} {a b v : Int} {r s : Int → Int} (h : hasR a r v) (hx : krX W a r b s) : hasR b s v := h.elim (fun q => Or.inl (Int.le_trans q hx.1)) (fun q => Or.inr (hx.2.2.1 v q))

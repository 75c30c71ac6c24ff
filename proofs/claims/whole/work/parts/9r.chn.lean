/-! chains: sets of customers, sequences, the greatest set -/
def sO : List Int → Int
  | [] => 0
  | c :: e => orB (sO e) c
def inR (M : Int) (l : List Int) : Prop := ∀ x ∈ l, 0 ≤ x ∧ x < M
def okL (M : Int) (l : List Int) : Prop := inR M l ∧ l.Pairwise (· ≠ ·)
theorem hb_or {s e x : Int} (s0 : 0 ≤ s) (s1 : s < 16) (h0 : 0 ≤ e) (h1 : e < 4) (x0 : 0 ≤ x) (x1 : x < 4) : hb (orB s e) x = 1 ↔ (hb s x = 1 ∨ x = e) := by
  obtain ⟨a, rfl⟩ := f4 h0 h1
  obtain ⟨b, rfl⟩ := f4 x0 x1
  obtain ⟨y, rfl⟩ := f16 s0 s1
  revert a b y
  decide +kernel
theorem hb_ext16 : ∀ a b : Fin 16, (∀ x : Fin 4, hb ((a : Nat) : Int) ((x : Nat) : Int) = 1 ↔ hb ((b : Nat) : Int) ((x : Nat) : Int) = 1) → a = b := by decide +kernel
theorem hb_ext {a b : Int} (a0 : 0 ≤ a) (a1 : a < 16) (b0 : 0 ≤ b) (b1 : b < 16) (h : ∀ x : Int, 0 ≤ x → x < 4 → (hb a x = 1 ↔ hb b x = 1)) : a = b := by
  obtain ⟨a, rfl⟩ := f16 a0 a1
  obtain ⟨b, rfl⟩ := f16 b0 b1
  rw [hb_ext16 a b (fun x => h _ (by omega) (by have := x.2; omega))]
theorem sO_b : ∀ {l : List Int}, inR 4 l → (0 ≤ sO l ∧ sO l < 16) ∧ ∀ x : Int, 0 ≤ x → x < 4 → (hb (sO l) x = 1 ↔ x ∈ l)
  | [], _ => ⟨⟨by decide, by decide⟩, fun x _ _ => by show hb 0 x = 1 ↔ _; rw [hb0]; simp⟩
  | c :: e, h => by
    obtain ⟨c0, c1⟩ := h c (List.mem_cons_self ..)
    obtain ⟨i1, i2⟩ := sO_b (l := e) (fun x hx => h x (List.mem_cons_of_mem _ hx))
    refine ⟨orB_b i1.1 i1.2 c0 c1, fun x x0 x1 => ?_⟩
    show hb (orB (sO e) c) x = 1 ↔ _
    rw [hb_or i1.1 i1.2 c0 c1 x0 x1, i2 x x0 x1, List.mem_cons]
    exact Or.comm
theorem inR_m {M M' : Int} {l : List Int} (h : inR M l) (hm : M ≤ M') : inR M' l := fun x hx => ⟨(h x hx).1, by have := (h x hx).2; omega⟩
theorem inR_app {M : Int} {l e : List Int} : inR M (l ++ e) ↔ inR M l ∧ inR M e := by
  unfold inR
  constructor
  · intro h
    exact ⟨fun x hx => h x (List.mem_append_left _ hx), fun x hx => h x (List.mem_append_right _ hx)⟩
  · rintro ⟨h1, h2⟩ x hx
    rcases List.mem_append.mp hx with q | q
    · exact h1 x q
    · exact h2 x q
theorem sO_app {l : List Int} {c : Int} (h : inR 4 l) (c0 : 0 ≤ c) (c1 : c < 4) : sO (l ++ [c]) = orB (sO l) c := by
  obtain ⟨i1, i2⟩ := sO_b h
  have h' : inR 4 (l ++ [c]) := inR_app.mpr ⟨h, fun x hx => by rw [List.mem_singleton] at hx; omega⟩
  obtain ⟨j1, j2⟩ := sO_b h'
  have ob := orB_b i1.1 i1.2 c0 c1
  refine hb_ext j1.1 j1.2 ob.1 ob.2 (fun x x0 x1 => ?_)
  rw [j2 x x0 x1, hb_or i1.1 i1.2 c0 c1 x0 x1, i2 x x0 x1, List.mem_append, List.mem_singleton]
theorem orB_same {s e : Int} (s0 : 0 ≤ s) (s1 : s < 16) (h0 : 0 ≤ e) (h1 : e < 4) : orB s e = s ↔ hb s e = 1 := by
  obtain ⟨a, rfl⟩ := f4 h0 h1
  obtain ⟨y, rfl⟩ := f16 s0 s1
  revert a y
  decide +kernel
/-- what set is better: more, then the smaller number -/
def Bt (a b : Int) : Prop := bc b < bc a ∨ (bc a = bc b ∧ a ≤ b)
theorem Bt_rf (a : Int) : Bt a a := Or.inr ⟨rfl, Int.le_refl _⟩
theorem Bt_tr {a b c : Int} (h : Bt a b) (h' : Bt b c) : Bt a c := by
  unfold Bt at *
  omega
theorem Bt_as {a b : Int} (h : Bt a b) (h' : Bt b a) : a = b := by
  unfold Bt at *
  omega
def bst (g0 : Int) (F : Int → Prop) (g : Int) : Prop := (g = g0 ∨ F g) ∧ Bt g g0 ∧ ∀ s, F s → Bt g s
theorem bst_rf {g : Int} {F : Int → Prop} (h : ∀ s, ¬ F s) : bst g F g := ⟨Or.inl rfl, Bt_rf _, fun s q => absurd q (h s)⟩
theorem bst_tr {g0 g1 g2 : Int} {F1 F2 F : Int → Prop} (h1 : bst g0 F1 g1) (h2 : bst g1 F2 g2) (hF : ∀ s, F s ↔ F1 s ∨ F2 s) : bst g0 F g2 := by
  obtain ⟨a, b, c⟩ := h1
  obtain ⟨a', b', c'⟩ := h2
  refine ⟨?_, Bt_tr b' b, fun s q => ?_⟩
  · rcases a' with rfl | q
    · exact a.imp id (fun q => (hF _).mpr (Or.inl q))
    · exact Or.inr ((hF _).mpr (Or.inr q))
  · rcases (hF s).mp q with q | q
    · exact Bt_tr b' (c s q)
    · exact c' s q
theorem bst_c {g0 g : Int} {F F' : Int → Prop} (h : bst g0 F g) (hF : ∀ s, F' s ↔ F s) : bst g0 F' g := by
  have : F' = F := funext fun s => propext (hF s)
  rw [this]; exact h
theorem bst_uq {g0 g g' : Int} {F : Int → Prop} (h : bst g0 F g) (h' : bst g0 F g') : g = g' := by
  obtain ⟨a, b, c⟩ := h
  obtain ⟨a', b', c'⟩ := h'
  refine Bt_as ?_ ?_
  · rcases a' with rfl | q
    · exact b
    · exact c _ q
  · rcases a with rfl | q
    · exact b'
    · exact c' _ q
section ThApp
variable {w : Int → Int} {K tr len pi : Int} {prs : Int → Int} {cns : Int → Int → Int}
theorem thU_app : ∀ {l : List Int} {U : Int → Prop} {e : List Int}, thU w K tr len pi prs cns (l ++ e) U = thU w K tr len pi prs cns e (thU w K tr len pi prs cns l U)
  | [], _, _ => rfl
  | c :: l, U, e => thU_app (l := l)
/-- behind a row that is told the next begin where it ends -/
theorem thR_app : ∀ {l : List Int} {U : Int → Prop} {e : List Int} {q r : Int}, thR w K tr len pi prs cns l U q → q ≠ -2 → (thR w K tr len pi prs cns (l ++ e) U r ↔ thR w K tr len pi prs cns e (thU w K tr len pi prs cns l U) r)
  | [], _, _, _, _, _, _ => Iff.rfl
  | c :: l, U, e, q, r, h, hq => by
    rcases h with ⟨_, b⟩ | ⟨a, b⟩
    · exact absurd b hq
    · refine Iff.trans ?_ (thR_app (l := l) (e := e) (r := r) b hq)
      constructor
      · rintro (⟨x, _⟩ | ⟨_, x⟩)
        · exact absurd x a
        · exact x
      · intro x
        exact Or.inr ⟨a, x⟩
theorem thR_none : ∀ {l : List Int} {U : Int → Prop}, (∀ v, ¬ U v) → thR w K tr len pi prs cns l U 0
  | [], _, h => Or.inr ⟨rfl, h⟩
  | c :: l, U, h => Or.inr ⟨fun ⟨s, _, s1, s2⟩ => by
      match s, s1, s2 with
      | [], s1, _ => exact absurd s1 (by decide)
      | x :: s, _, s2 =>
        obtain ⟨u, u1, _⟩ := s2 x (List.mem_cons_self ..)
        exact h u u1, thR_none (fun v ⟨u, u1, _⟩ => h u u1)⟩
theorem thR_lst {c r : Int} {U : Int → Prop} (hn : ¬ tooM 200 (nxC w K tr len pi prs cns c U)) (h : (r = 1 ∧ ∃ v, nxC w K tr len pi prs cns c U v) ∨ (r = 0 ∧ ∀ v, ¬ nxC w K tr len pi prs cns c U v)) : thR w K tr len pi prs cns [c] U r := Or.inr ⟨hn, h⟩
end ThApp
section Chn
variable (Th : List Int → Int → Prop) (M : Int)
def fsC (l : List Int) (c s : Int) : Prop := ∃ x e, 0 ≤ x ∧ x < c ∧ okL M (l ++ x :: e) ∧ Th (l ++ x :: e) 1 ∧ s = sO (l ++ x :: e)
def hsC (l : List Int) (c : Int) : Prop := ∃ x e, 0 ≤ x ∧ x < c ∧ okL M (l ++ x :: e) ∧ Th (l ++ x :: e) (-2)
/-- CHAIN -/
def chnR (r : Int) : Prop := ((∃ e, okL M e ∧ Th e (-2)) ∧ r = -2) ∨ ((¬ ∃ e, okL M e ∧ Th e (-2)) ∧ bst 0 (fun s => ∃ e, okL M e ∧ Th e 1 ∧ s = sO e) r)
end Chn
section ChnL
variable {Th : List Int → Int → Prop} {M : Int} {l : List Int} {c s : Int}
theorem chnR_uq {r r' : Int} (h : chnR Th M r) (h' : chnR Th M r') : r = r' := by
  rcases h with ⟨a, b⟩ | ⟨a, b⟩ <;> rcases h' with ⟨a', b'⟩ | ⟨a', b'⟩
  · omega
  · exact absurd a a'
  · exact absurd a' a
  · exact bst_uq b b'
theorem ap1 (l : List Int) (c : Int) (e : List Int) : l ++ c :: e = (l ++ [c]) ++ e := by simp
theorem fsC_in (hc : c ∈ l) (c0 : 0 ≤ c) : fsC Th M l (c + 1) s ↔ fsC Th M l c s := by
  constructor
  · rintro ⟨x, e, x0, x1, x2, x3⟩
    refine ⟨x, e, x0, ?_, x2, x3⟩
    rcases (show x < c ∨ x = c by omega) with q | q
    · exact q
    · subst q
      have := (List.pairwise_append.mp x2.2).2.2 x hc x (List.mem_cons_self ..)
      exact absurd rfl this
  · rintro ⟨x, e, x0, x1, x2⟩
    exact ⟨x, e, x0, by omega, x2⟩
theorem hsC_in (hc : c ∈ l) (c0 : 0 ≤ c) : hsC Th M l (c + 1) ↔ hsC Th M l c := by
  constructor
  · rintro ⟨x, e, x0, x1, x2, x3⟩
    refine ⟨x, e, x0, ?_, x2, x3⟩
    rcases (show x < c ∨ x = c by omega) with q | q
    · exact q
    · subst q
      have := (List.pairwise_append.mp x2.2).2.2 x hc x (List.mem_cons_self ..)
      exact absurd rfl this
  · rintro ⟨x, e, x0, x1, x2⟩
    exact ⟨x, e, x0, by omega, x2⟩
theorem okL_snoc (h : okL M l) (hc : c ∉ l) (c0 : 0 ≤ c) (c1 : c < M) : okL M (l ++ [c]) := ⟨inR_app.mpr ⟨h.1, fun x hx => by rw [List.mem_singleton] at hx; omega⟩, List.pairwise_append.mpr ⟨h.2, List.pairwise_singleton _ _, fun x hx y hy => by rw [List.mem_singleton] at hy; subst hy; exact fun q => hc (q ▸ hx)⟩⟩
/-- all first customers: from the row with c on -/
theorem fsC_sp (h : okL M (l ++ [c])) (c0 : 0 ≤ c) (hM : ∀ x e, okL M ((l ++ [c]) ++ x :: e) → x < M) : fsC Th M l (c + 1) s ↔ fsC Th M l c s ∨ ((Th (l ++ [c]) 1 ∧ s = sO (l ++ [c])) ∨ fsC Th M (l ++ [c]) M s) := by
  constructor
  · rintro ⟨x, e, x0, x1, x2, x3, x4⟩
    rcases (show x < c ∨ x = c by omega) with q | q
    · exact Or.inl ⟨x, e, x0, q, x2, x3, x4⟩
    · subst q
      match e with
      | [] => exact Or.inr (Or.inl ⟨x3, x4⟩)
      | y :: e =>
        rw [ap1] at x2 x3 x4
        exact Or.inr (Or.inr ⟨y, e, (x2.1 y (by simp)).1, (x2.1 y (by simp)).2, x2, x3, x4⟩)
  · rintro (⟨x, e, x0, x1, x2⟩ | ⟨x3, x4⟩ | ⟨y, e, y0, y1, x2, x3, x4⟩)
    · exact ⟨x, e, x0, by omega, x2⟩
    · exact ⟨c, [], c0, by omega, h, x3, x4⟩
    · rw [← ap1] at x2 x3 x4
      exact ⟨c, y :: e, c0, by omega, x2, x3, x4⟩
theorem hsC_sp (h : okL M (l ++ [c])) (c0 : 0 ≤ c) : hsC Th M l (c + 1) ↔ hsC Th M l c ∨ (Th (l ++ [c]) (-2) ∨ hsC Th M (l ++ [c]) M) := by
  constructor
  · rintro ⟨x, e, x0, x1, x2, x3⟩
    rcases (show x < c ∨ x = c by omega) with q | q
    · exact Or.inl ⟨x, e, x0, q, x2, x3⟩
    · subst q
      match e with
      | [] => exact Or.inr (Or.inl x3)
      | y :: e =>
        rw [ap1] at x2 x3
        exact Or.inr (Or.inr ⟨y, e, (x2.1 y (by simp)).1, (x2.1 y (by simp)).2, x2, x3⟩)
  · rintro (⟨x, e, x0, x1, x2⟩ | x3 | ⟨y, e, y0, y1, x2, x3⟩)
    · exact ⟨x, e, x0, by omega, x2⟩
    · exact ⟨c, [], c0, by omega, h, x3⟩
    · rw [← ap1] at x2 x3
      exact ⟨c, y :: e, c0, by omega, x2, x3⟩
theorem fsC_0 : ¬ fsC Th M l 0 s := fun ⟨_, _, x0, x1, _⟩ => by omega
theorem hsC_0 : ¬ hsC Th M l 0 := fun ⟨_, _, x0, x1, _⟩ => by omega
/-- behind none there are none -/
theorem fsC_e (hT : ∀ l a b, Th l a → Th l b → a = b) (h : ∀ e, Th (l ++ e) 0) : ¬ fsC Th M l c s := fun ⟨x, e, _, _, _, h1, _⟩ => absurd (hT _ _ _ h1 (h (x :: e))) (by decide)
theorem hsC_e (hT : ∀ l a b, Th l a → Th l b → a = b) (h : ∀ e, Th (l ++ e) 0) : ¬ hsC Th M l c := fun ⟨x, e, _, _, _, h1⟩ => absurd (hT _ _ _ h1 (h (x :: e))) (by decide)
/-- a full row has none behind it -/
theorem okL_len : ∀ {l : List Int}, okL M l → M ≤ 4 → l.length ≤ 4 := fun {l} h hM => by
  have := nd_le l [0, 1, 2, 3] h.2 (fun v hv => by
    have := h.1 v hv
    rcases (show v = 0 ∨ v = 1 ∨ v = 2 ∨ v = 3 by omega) with rfl | rfl | rfl | rfl <;> decide)
  exact this
theorem fsC_f (hl : l.length = 4) (hM : M ≤ 4) : ¬ fsC Th M l c s := fun ⟨x, e, _, _, h, _⟩ => by
  have := okL_len h hM
  rw [List.length_append, List.length_cons] at this
  omega
theorem hsC_f (hl : l.length = 4) (hM : M ≤ 4) : ¬ hsC Th M l c := fun ⟨x, e, _, _, h, _⟩ => by
  have := okL_len h hM
  rw [List.length_append, List.length_cons] at this
  omega
/-- from the class's search to CHAIN -/
theorem chn_cls {g : Int} (h0 : ¬ Th [] (-2)) (h1 : bst 0 (fsC Th M [] M) g) (h2 : ¬ hsC Th M [] M) : chnR Th M g := by
  refine Or.inr ⟨?_, ?_⟩
  · rintro ⟨e, e1, e2⟩
    match e with
    | [] => exact h0 e2
    | x :: e => exact h2 ⟨x, e, (e1.1 x (by simp)).1, (e1.1 x (by simp)).2, e1, e2⟩
  · obtain ⟨a, b, c⟩ := h1
    refine ⟨a.imp id (fun ⟨x, e, _, _, x2, x3, x4⟩ => ⟨x :: e, x2, x3, x4⟩), b, ?_⟩
    rintro s ⟨e, e1, e2, e3⟩
    match e with
    | [] => rw [e3]; exact b
    | x :: e => exact c s ⟨x, e, (e1.1 x (by simp)).1, (e1.1 x (by simp)).2, e1, e2, e3⟩
theorem chn_hid (h2 : hsC Th M [] M) : chnR Th M (-2) := by
  obtain ⟨x, e, _, _, a, b⟩ := h2
  exact Or.inl ⟨⟨x :: e, a, b⟩, rfl⟩
end ChnL
/-! the model: what is left of a set -/
def rb (left c : Int) : Int := (if c ≤ 0 then hb left 0 else 0) + (if c ≤ 1 then hb left 1 else 0) + (if c ≤ 2 then hb left 2 else 0) + (if c ≤ 3 then hb left 3 else 0)
theorem rb_s {left c : Int} (c0 : 0 ≤ c) (c1 : c < 4) : rb left c = hb left c + rb left (c + 1) := by
  rcases (show c = 0 ∨ c = 1 ∨ c = 2 ∨ c = 3 by omega) with rfl | rfl | rfl | rfl <;> simp [rb] <;> omega
theorem rb_0 {left : Int} (h0 : 0 ≤ left) (h1 : left < 16) (h : rb left 0 ≤ 0) : left = 0 := by
  obtain ⟨y, rfl⟩ := f16 h0 h1
  revert y
  decide +kernel
theorem rb_nn (left c : Int) : 0 ≤ rb left c := by
  have h0 := hb_b left 0
  have h1 := hb_b left 1
  have h2 := hb_b left 2
  have h3 := hb_b left 3
  unfold rb
  split <;> split <;> split <;> split <;> omega
theorem rb_p {left c : Int} (h0 : 0 ≤ left) (h1 : left < 16) (c0 : 0 ≤ c) (c1 : c < 4) (h : hb left c = 1) : rb (left - p2 c) 0 = rb left 0 - 1 ∧ (0 ≤ left - p2 c ∧ left - p2 c < 16) := by
  obtain ⟨x, rfl⟩ := f4 c0 c1
  obtain ⟨y, rfl⟩ := f16 h0 h1
  revert x y
  decide +kernel
theorem hb_p {left c x : Int} (h0 : 0 ≤ left) (h1 : left < 16) (c0 : 0 ≤ c) (c1 : c < 4) (x0 : 0 ≤ x) (x1 : x < 4) (h : hb left c = 1) : hb (left - p2 c) x = 1 ↔ hb left x = 1 ∧ x ≠ c := by
  obtain ⟨a, rfl⟩ := f4 c0 c1
  obtain ⟨b, rfl⟩ := f4 x0 x1
  obtain ⟨y, rfl⟩ := f16 h0 h1
  revert a b y
  decide +kernel
theorem and_not {left c : Int} (h0 : 0 ≤ left) (h1 : left < 16) (c0 : 0 ≤ c) (c1 : c < 4) (h : hb left c = 1) : iz left &&& (iz (p2 c) ^^^ iz (-1)) = iz (left - p2 c) := by
  obtain ⟨x, rfl⟩ := f4 c0 c1
  obtain ⟨y, rfl⟩ := f16 h0 h1
  revert x y
  decide +kernel
theorem p2_xor {c : Int} (c0 : 0 ≤ c) (c1 : c < 4) : iz (p2 c) ^^^ iz (-1) = iz (-1 - p2 c) := by
  obtain ⟨x, rfl⟩ := f4 c0 c1
  revert x
  decide +kernel
theorem and_not' {left c : Int} (h0 : 0 ≤ left) (h1 : left < 16) (c0 : 0 ≤ c) (c1 : c < 4) (h : hb left c = 1) : iz left &&& iz (-1 - p2 c) = iz (left - p2 c) := by
  rw [← p2_xor c0 c1]; exact and_not h0 h1 c0 c1 h
/-- the rows of a set -/
def eL (left : Int) (e : List Int) : Prop := okL 4 e ∧ sO e = left
theorem eL_0 {e : List Int} : eL 0 e ↔ e = [] := by
  constructor
  · rintro ⟨h, h0⟩
    match e with
    | [] => rfl
    | x :: e =>
      have hx := h.1 x (by simp)
      have := ((sO_b h.1).2 x hx.1 hx.2).mpr (by simp)
      rw [h0, hb0] at this
      exact absurd this (by decide)
  · rintro rfl
    exact ⟨⟨fun x hx => absurd hx (by simp), List.Pairwise.nil⟩, rfl⟩
theorem eL_c {left c : Int} {e : List Int} (h0 : 0 ≤ left) (h1 : left < 16) : eL left (c :: e) ↔ (0 ≤ c ∧ c < 4) ∧ hb left c = 1 ∧ eL (left - p2 c) e := by
  constructor
  · rintro ⟨h, hs⟩
    have hc := h.1 c (by simp)
    obtain ⟨i1, i2⟩ := sO_b h.1
    have hbc : hb left c = 1 := by rw [← hs]; exact (i2 c hc.1 hc.2).mpr (by simp)
    obtain ⟨hp1, hp2⟩ := List.pairwise_cons.mp h.2
    have he : okL 4 e := ⟨fun x hx => h.1 x (List.mem_cons_of_mem _ hx), hp2⟩
    obtain ⟨j1, j2⟩ := sO_b he.1
    have hr := rb_p h0 h1 hc.1 hc.2 hbc
    refine ⟨hc, hbc, he, hb_ext j1.1 j1.2 hr.2.1 hr.2.2 (fun x x0 x1 => ?_)⟩
    rw [j2 x x0 x1, hb_p h0 h1 hc.1 hc.2 x0 x1 hbc, ← hs, i2 x x0 x1, List.mem_cons]
    constructor
    · intro q
      exact ⟨Or.inr q, fun z => hp1 x q z.symm⟩
    · rintro ⟨q | q, z⟩
      · exact absurd q z
      · exact q
  · rintro ⟨hc, hbc, he, hs⟩
    obtain ⟨j1, j2⟩ := sO_b he.1
    have hr := rb_p h0 h1 hc.1 hc.2 hbc
    have hin : inR 4 (c :: e) := fun x hx => by
      rcases List.mem_cons.mp hx with rfl | q
      · exact hc
      · exact he.1 x q
    have hn : c ∉ e := fun q => by
      have := (j2 c hc.1 hc.2).mpr q
      rw [hs, hb_p h0 h1 hc.1 hc.2 hc.1 hc.2 hbc] at this
      exact this.2 rfl
    obtain ⟨i1, i2⟩ := sO_b hin
    refine ⟨⟨hin, List.pairwise_cons.mpr ⟨fun x hx q => hn (q ▸ hx), he.2⟩⟩, hb_ext i1.1 i1.2 h0 h1 (fun x x0 x1 => ?_)⟩
    rw [i2 x x0 x1, List.mem_cons]
    by_cases q : x = c
    · subst q; simp [hbc]
    · have := hb_p h0 h1 hc.1 hc.2 x0 x1 hbc
      rw [← hs, j2 x x0 x1] at this
      simp only [q, false_or, this, ne_eq, not_false_eq_true, and_true]
section Gc
variable (Th : List Int → Int → Prop) (p : List Int) (left : Int)
def gcH (c r : Int) : Prop := ∃ x e, 0 ≤ x ∧ x < c ∧ eL left (x :: e) ∧ Th (p ++ x :: e) r
def gcA (r : Int) : Prop := ∃ e, eL left e ∧ Th (p ++ e) r
/-- told, has behind; before -/
def gcX (A : Int → Prop) (to ha to' ha' : Int) : Prop := (to' = 0 ∨ to' = 1) ∧ (ha' = 0 ∨ ha' = 1) ∧ (to' = 1 → to = 1 ∧ ¬ A (-2) ∧ (ha' = 1 ↔ ha = 1 ∨ A 1)) ∧ (to' = 0 → to = 0 ∨ A (-2))
end Gc
section GcL
variable {Th : List Int → Int → Prop} {p : List Int} {left c : Int} {A B D : Int → Prop} {to ha to' ha' to2 ha2 : Int}
theorem gcH_n (hn : hb left c ≠ 1) (h0 : 0 ≤ left) (h1 : left < 16) (r : Int) : gcH Th p left (c + 1) r ↔ gcH Th p left c r := by
  constructor
  · rintro ⟨x, e, x0, x1, x2, x3⟩
    refine ⟨x, e, x0, ?_, x2, x3⟩
    rcases (show x < c ∨ x = c by omega) with q | q
    · exact q
    · subst q
      exact absurd ((eL_c h0 h1).mp x2).2.1 hn
  · rintro ⟨x, e, x0, x1, x2⟩
    exact ⟨x, e, x0, by omega, x2⟩
theorem gcH_s (h : hb left c = 1) (h0 : 0 ≤ left) (h1 : left < 16) (c0 : 0 ≤ c) (c1 : c < 4) (r : Int) : gcH Th p left (c + 1) r ↔ gcH Th p left c r ∨ gcA Th (p ++ [c]) (left - p2 c) r := by
  constructor
  · rintro ⟨x, e, x0, x1, x2, x3⟩
    rcases (show x < c ∨ x = c by omega) with q | q
    · exact Or.inl ⟨x, e, x0, q, x2, x3⟩
    · subst q
      exact Or.inr ⟨e, ((eL_c h0 h1).mp x2).2.2, by rw [← ap1]; exact x3⟩
  · rintro (⟨x, e, x0, x1, x2⟩ | ⟨e, e1, e2⟩)
    · exact ⟨x, e, x0, by omega, x2⟩
    · exact ⟨c, e, c0, by omega, (eL_c h0 h1).mpr ⟨⟨c0, c1⟩, h, e1⟩, by rw [ap1]; exact e2⟩
theorem gcH_e (hl : left ≠ 0) (h0 : 0 ≤ left) (h1 : left < 16) (hm : ∀ x : Int, 0 ≤ x → x < 4 → hb left x = 1 → x < c) (r : Int) : gcA Th p left r ↔ gcH Th p left c r := by
  constructor
  · rintro ⟨e, e1, e2⟩
    match e with
    | [] => exact absurd e1.2.symm hl
    | x :: e =>
      obtain ⟨a, b, d⟩ := (eL_c h0 h1).mp e1
      exact ⟨x, e, a.1, hm x a.1 a.2 b, e1, e2⟩
  · rintro ⟨x, e, x0, x1, x2, x3⟩
    exact ⟨x :: e, x2, x3⟩
theorem gcX_c (h : gcX A to ha to' ha') (e : ∀ r, A r ↔ B r) : gcX B to ha to' ha' := by
  have : A = B := funext fun r => propext (e r)
  rw [← this]; exact h
theorem gcX_tr (h : gcX A to ha to' ha') (h' : gcX B to' ha' to2 ha2) (e : ∀ r, D r ↔ A r ∨ B r) : gcX D to ha to2 ha2 := by
  obtain ⟨a1, a2, a3, a4⟩ := h
  obtain ⟨b1, b2, b3, b4⟩ := h'
  refine ⟨b1, b2, fun q => ?_, fun q => ?_⟩
  · obtain ⟨c1, c2, c3⟩ := b3 q
    obtain ⟨d1, d2, d3⟩ := a3 c1
    refine ⟨d1, fun z => ((e _).mp z).elim d2 c2, ?_⟩
    rw [c3, d3, e 1, or_assoc]
  · rcases b4 q with z | z
    · exact (a4 z).imp id (fun y => (e _).mpr (Or.inl y))
    · exact Or.inr ((e _).mpr (Or.inr z))
theorem gcX_i (ht : to = 0 ∨ to = 1) (hh : ha = 0 ∨ ha = 1) (h : ∀ r, ¬ A r) : gcX A to ha to ha := ⟨ht, hh, fun q => ⟨q, h _, ⟨Or.inl, fun z => z.elim id (fun y => absurd y (h 1))⟩⟩, fun q => Or.inl q⟩
/-- what isn't told stays so -/
theorem gcX_u (h : gcX A to ha to' ha') (h0 : to' = 0) (hAB : ∀ r, A r → B r) : gcX B to ha to' ha' := ⟨h.1, h.2.1, fun q => by omega, fun q => (h.2.2.2 q).imp id (hAB _)⟩
end GcL

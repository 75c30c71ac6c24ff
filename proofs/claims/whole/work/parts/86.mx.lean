/-! sorted tills with the most of what was counted for each -/
def mxI (n : Int) (tt ct : Int → Int) (A : Int → Int → Prop) : Prop := (0 ≤ n ∧ n ≤ 200) ∧ (∀ i j : Int, 0 ≤ i → i < j → j < n → tt i < tt j) ∧ (∀ i : Int, 0 ≤ i → i < n → (0 ≤ tt i ∧ tt i < 2147483648) ∧ (0 ≤ ct i ∧ ct i ≤ 100) ∧ A (tt i) (ct i) ∧ ∀ c, A (tt i) c → c ≤ ct i) ∧ (∀ v c, A v c → ∃ i : Int, 0 ≤ i ∧ i < n ∧ tt i = v)
theorem mxI_c {n : Int} {tt ct : Int → Int} {A B : Int → Int → Prop} (h : mxI n tt ct A) (e : ∀ v c, A v c ↔ B v c) : mxI n tt ct B := by
  have : A = B := funext fun v => funext fun c => propext (e v c)
  rw [← this]; exact h
theorem mxI_0 {tt ct : Int → Int} {A : Int → Int → Prop} (h : ∀ v c, ¬ A v c) : mxI 0 tt ct A := ⟨⟨by omega, by omega⟩, fun i j a b c => by omega, fun i a b => by omega, fun v c q => absurd q (h v c)⟩
theorem mxI_upd {n k v c : Int} {tt ct : Int → Int} {A : Int → Int → Prop} (h : mxI n tt ct A) (k0 : 0 ≤ k) (k1 : k < n) (hv : tt k = v) (hc : 0 ≤ c ∧ c ≤ 100) : mxI n tt (iu ct k (max (ct k) c)) (fun x y => A x y ∨ (x = v ∧ y = c)) := by
  obtain ⟨a1, a2, a3, a4⟩ := h
  refine ⟨a1, a2, fun i i0 i1 => ?_, fun x y q => ?_⟩
  · obtain ⟨b1, b2, b3, b4⟩ := a3 i i0 i1
    by_cases e : i = k
    · subst e
      rw [iu_at]
      refine ⟨b1, by omega, ?_, fun y q => ?_⟩
      · by_cases q : c ≤ ct i
        · rw [show max (ct i) c = ct i by omega]; exact Or.inl b3
        · rw [show max (ct i) c = c by omega]; exact Or.inr ⟨hv, rfl⟩
      · rcases q with q | q
        · have := b4 y q; omega
        · omega
    · rw [iu_ne _ _ e]
      refine ⟨b1, b2, Or.inl b3, fun y q => ?_⟩
      rcases q with q | q
      · exact b4 y q
      · exfalso
        rcases Int.lt_or_lt_of_ne e with z | z
        · have := a2 i k i0 z k1; omega
        · have := a2 k i k0 z i1; omega
  · rcases q with q | q
    · exact a4 x y q
    · exact ⟨k, k0, k1, by rw [hv, q.1]⟩
theorem mxI_ins {n k v c : Int} {tt ct g h : Int → Int} {A : Int → Int → Prop} (H : mxI n tt ct A) (k0 : 0 ≤ k) (k1 : k ≤ n) (hn : n < 200) (hv : 0 ≤ v ∧ v < 2147483648) (hc : 0 ≤ c ∧ c ≤ 100) (hlo : ∀ i : Int, 0 ≤ i → i < k → tt i < v) (hhi : ∀ i : Int, k ≤ i → i < n → v < tt i) (g1 : ∀ j : Int, 0 ≤ j → j ≤ k → g j = tt j ∧ h j = ct j) (g2 : ∀ j : Int, k < j → j ≤ n → g j = tt (j - 1) ∧ h j = ct (j - 1)) : mxI (n + 1) (iu g k v) (iu h k c) (fun x y => A x y ∨ (x = v ∧ y = c)) := by
  obtain ⟨a1, a2, a3, a4⟩ := H
  have hno : ∀ y, ¬ A v y := fun y q => by
    obtain ⟨i, i0, i1, i2⟩ := a4 v y q
    by_cases e : i < k
    · have := hlo i i0 e; omega
    · have := hhi i (by omega) i1; omega
  have key : ∀ i : Int, 0 ≤ i → i < n + 1 → (i = k ∧ iu g k v i = v ∧ iu h k c i = c) ∨ (∃ j, 0 ≤ j ∧ j < n ∧ ((i < k ∧ j = i) ∨ (k < i ∧ j = i - 1)) ∧ iu g k v i = tt j ∧ iu h k c i = ct j) := fun i i0 i1 => by
    by_cases e : i = k
    · exact Or.inl ⟨e, by rw [e, iu_at], by rw [e, iu_at]⟩
    · rw [iu_ne _ _ e, iu_ne _ _ e]
      rcases Int.lt_or_lt_of_ne e with z | z
      · obtain ⟨x, y⟩ := g1 i i0 (by omega)
        exact Or.inr ⟨i, i0, by omega, Or.inl ⟨z, rfl⟩, x, y⟩
      · obtain ⟨x, y⟩ := g2 i z (by omega)
        exact Or.inr ⟨i - 1, by omega, by omega, Or.inr ⟨z, rfl⟩, x, y⟩
  refine ⟨by omega, fun i j i0 ij j1 => ?_, fun i i0 i1 => ?_, fun x y q => ?_⟩
  · rcases key i i0 (by omega) with ⟨e1, e2, -⟩ | ⟨p, p0, p1, p2, p3, -⟩ <;> rcases key j (by omega) j1 with ⟨f1, f2, -⟩ | ⟨q, q0, q1, q2, q3, -⟩
    · omega
    · rw [e2, q3]; exact hhi q (by omega) q1
    · rw [f2, p3]; exact hlo p p0 (by omega)
    · rw [p3, q3]; exact a2 p q p0 (by omega) q1
  · rcases key i i0 i1 with ⟨e1, e2, e3⟩ | ⟨p, p0, p1, p2, p3, p4⟩
    · rw [e2, e3]
      refine ⟨hv, hc, Or.inr ⟨rfl, rfl⟩, fun y q => ?_⟩
      rcases q with q | q
      · exact absurd q (hno y)
      · omega
    · rw [p3, p4]
      obtain ⟨b1, b2, b3, b4⟩ := a3 p p0 p1
      refine ⟨b1, b2, Or.inl b3, fun y q => ?_⟩
      rcases q with q | q
      · exact b4 y q
      · exfalso
        by_cases e : p < k
        · have := hlo p p0 e; omega
        · have := hhi p (by omega) p1; omega
  · rcases q with q | ⟨q, -⟩
    · obtain ⟨i, i0, i1, i2⟩ := a4 x y q
      by_cases e : i < k
      · exact ⟨i, i0, by omega, by rw [iu_ne _ _ (by omega), (g1 i i0 (by omega)).1]; exact i2⟩
      · exact ⟨i + 1, by omega, by omega, by rw [iu_ne _ _ (by omega), (g2 (i + 1) (by omega) (by omega)).1, show i + 1 - 1 = i by omega]; exact i2⟩
    · exact ⟨k, k0, by omega, by rw [iu_at, q]⟩
theorem mxI_full {n v c : Int} {tt ct : Int → Int} {A : Int → Int → Prop} (h : mxI n tt ct A) (hn : n = 200) (hv : ∀ i : Int, 0 ≤ i → i < n → tt i ≠ v) : tooM 200 (fun x => ∃ y, A x y ∨ (x = v ∧ y = c)) := by
  obtain ⟨a1, a2, a3, a4⟩ := h
  subst hn
  refine ⟨v :: lsI 200 tt, List.pairwise_cons.mpr ⟨fun x hx q => ?_, lsI_nd (fun i j i0 ij j1 q => by have := a2 i j i0 ij j1; omega)⟩, by rw [List.length_cons, lsI_len], fun x hx => ?_⟩
  · obtain ⟨i, i0, i1, i2⟩ := mem_lsI.mp hx
    exact hv i i0 (by omega) (by rw [i2, q])
  · rcases List.mem_cons.mp hx with q | q
    · exact ⟨c, Or.inr ⟨q, rfl⟩⟩
    · obtain ⟨i, i0, i1, rfl⟩ := mem_lsI.mp q
      exact ⟨ct i, Or.inl (a3 i i0 (by omega)).2.2.1⟩
theorem tooM_im {n : Nat} {U V : Int → Prop} (h : tooM n U) (hv : ∀ v, U v → V v) : tooM n V := by
  obtain ⟨l, a, b, c⟩ := h
  exact ⟨l, a, b, fun v q => hv v (c v q)⟩
theorem krI_tooM {rm : Int} {rs : Int → Int} {U : Int → Prop} (h : krI rm rs) (hm : rm = 1001) (hU : ∀ v, v ∈ lsI rm.toNat rs → U v) : tooM 200 U := by
  obtain ⟨a1, a2, a3, a4⟩ := h
  subst hm
  refine ⟨lsI 201 rs, lsI_nd (fun i j i0 ij j1 q => by have := a3 i j i0 ij (by omega); omega), lsI_len _ _, fun v hv => hU v ?_⟩
  obtain ⟨i, i0, i1, i2⟩ := mem_lsI.mp hv
  exact mem_lsI.mpr ⟨i, i0, by omega, i2⟩

/-! looking through orders -/
def fuR (Th : List Int → Int → Prop) (m : Nat) (r : Int) : Prop := (r = -1 ∧ ∀ t : Nat, t < (pmL m).length → Th (pm m t) 1) ∨ (∃ t : Nat, t < (pmL m).length ∧ (∀ s : Nat, s < t → Th (pm m s) 1) ∧ ((Th (pm m t) 0 ∧ r = numL (pm m t)) ∨ (Th (pm m t) (-2) ∧ r = -2)))
theorem fuR_uq {Th : List Int → Int → Prop} {m : Nat} {r r' : Int} (hT : ∀ l a b, Th l a → Th l b → a = b) (h : fuR Th m r) (h' : fuR Th m r') : r = r' := by
  have key : ∀ t : Nat, t < (pmL m).length → ∀ r, ((Th (pm m t) 0 ∧ r = numL (pm m t)) ∨ (Th (pm m t) (-2) ∧ r = -2)) → ¬ Th (pm m t) 1 := fun t _ r h q => by
    rcases h with ⟨a, -⟩ | ⟨a, -⟩
    · exact absurd (hT _ _ _ a q) (by decide)
    · exact absurd (hT _ _ _ a q) (by decide)
  rcases h with ⟨a, b⟩ | ⟨t, t1, t2, t3⟩ <;> rcases h' with ⟨a', b'⟩ | ⟨s, s1, s2, s3⟩
  · omega
  · exact absurd (b s s1) (key s s1 _ s3)
  · exact absurd (b' t t1) (key t t1 _ t3)
  · have e : t = s := by
      rcases Nat.lt_trichotomy t s with q | q | q
      · exact absurd (s2 t q) (key t t1 _ t3)
      · exact q
      · exact absurd (t2 s q) (key s s1 _ s3)
    subst e
    rcases t3 with ⟨a, b⟩ | ⟨a, b⟩ <;> rcases s3 with ⟨c, d⟩ | ⟨c, d⟩
    · omega
    · exact absurd (hT _ _ _ a c) (by decide)
    · exact absurd (hT _ _ _ a c) (by decide)
    · omega
theorem pm_mem {m t : Nat} (h : t < (pmL m).length) : pm m t ∈ pmL m := by
  unfold pm
  rw [List.getD_eq_getElem?_getD, List.getElem?_eq_getElem h]
  exact List.getElem_mem h
theorem pm_idx {m : Nat} {l : List Int} (h : l ∈ pmL m) : ∃ t, t < (pmL m).length ∧ pm m t = l := by
  obtain ⟨t, ht, e⟩ := List.mem_iff_getElem.mp h
  refine ⟨t, ht, ?_⟩
  unfold pm
  rw [List.getD_eq_getElem?_getD, List.getElem?_eq_getElem ht]
  exact e
theorem pm_b : ∀ m, m ≤ 4 → ∀ l ∈ pmL m, (∀ x ∈ l, 0 ≤ x ∧ x < m) ∧ l.length = m ∧ 0 ≤ numL l ∧ numL l < 10000 := by decide +kernel
theorem pmL_len : ∀ m, m ≤ 4 → (pmL m).length ≤ 24 ∧ (1 ≤ m → 1 ≤ (pmL m).length) := by decide
/-- orders rise as numbers -/
theorem pm_lt {m s t : Nat} (hm : m ≤ 4) (h : t < (pmL m).length) (hs : s < t) : numL (pm m s) < numL (pm m t) := by
  have h1 := rowL_srt m hm
  unfold rowL at h1
  rw [List.pairwise_map, List.pairwise_iff_getElem] at h1
  have := h1 s t (by omega) h hs
  unfold pm
  rw [List.getD_eq_getElem?_getD, List.getElem?_eq_getElem (show s < (pmL m).length by omega), List.getD_eq_getElem?_getD, List.getElem?_eq_getElem h]
  exact this
theorem pm_who {m t : Nat} {who : Int → Int} (hm : m ≤ 4) (h : t < (pmL m).length) (hl : lsI m who = pm m t) : ∀ i : Int, 0 ≤ i → i < m → 0 ≤ who i ∧ who i < m := fun i a b => (pm_b m hm _ (pm_mem h)).1 _ (by rw [← hl]; exact mem_lsI.mpr ⟨i, a, b, rfl⟩)

/-! helps, spoils, wise, rich: meanings. R c v v': v' is a RESULT of customer c from v -/
section Adv
variable (R : Int → Int → Int → Prop) (M c till : Int)
def hidE (o : Int) : Prop := tooM 1000 (R o till) ∨ ∃ v, R o till v ∧ tooM 1000 (R c v)
def efH (o : Int) : Prop := ∃ v, R o till v ∧ ∃ u, R c v u
def efS (o : Int) : Prop := (∃ v, R o till v) ∧ ∀ v, R o till v → ∀ u, ¬ R c v u
def efR (o r : Int) : Prop := (r = -2 ∧ hidE R c till o) ∨ (r = 0 ∧ ¬ hidE R c till o ∧ ∀ v, ¬ R o till v) ∨ (r = 1 ∧ ¬ hidE R c till o ∧ efS R c till o) ∨ (r = 2 ∧ ¬ hidE R c till o ∧ efH R c till o)
def adH (n : Int) : Prop := ∃ o, 0 ≤ o ∧ o < n ∧ o ≠ c ∧ hidE R c till o
/-- bits of those below n -/
def adB (E : Int → Prop) (n b : Int) : Prop := (0 ≤ b ∧ b < 16) ∧ ∀ x : Int, 0 ≤ x → x < 4 → (hb b x = 1 ↔ x < n ∧ x ≠ c ∧ E x)
def adR (E : Int → Prop) (r : Int) : Prop := (adH R c till M ∧ r = -2) ∨ (¬ adH R c till M ∧ adB c E M r)
def hpR (r : Int) : Prop := (tooM 1000 (R c till) ∧ r = -2) ∨ (¬ tooM 1000 (R c till) ∧ (∃ v, R c till v) ∧ r = -1) ∨ (¬ tooM 1000 (R c till) ∧ (∀ v, ¬ R c till v) ∧ adR R M c till (efH R c till) r)
def spR (r : Int) : Prop := (tooM 1000 (R c till) ∧ r = -2) ∨ (¬ tooM 1000 (R c till) ∧ (∀ v, ¬ R c till v) ∧ r = -1) ∨ (¬ tooM 1000 (R c till) ∧ (∃ v, R c till v) ∧ adR R M c till (efS R c till) r)
/-- how many others below n can be served at v -/
noncomputable def abl (o : Int) (v : Int) : Int := @ite Int (o ≠ c ∧ ∃ u, R o v u) (Classical.propDecidable _) 1 0
noncomputable def cnO (v : Int) : Nat → Int
  | 0 => 0
  | n + 1 => cnO v n + abl R c (n : Int) v
end Adv
/-- the first of the greatest -/
def fsM (f : Int → Int) (n : Int) (g : Int → Int) (k : Int) : Prop := 0 ≤ k ∧ k < n ∧ (∀ j : Int, 0 ≤ j → j < k → f (g j) < f (g k)) ∧ ∀ j : Int, 0 ≤ j → j < n → f (g j) ≤ f (g k)
theorem fsM_uq {f : Int → Int} {n k k' : Int} {g g' : Int → Int} (hg : ∀ i : Int, 0 ≤ i → i < n → g i = g' i) (h : fsM f n g k) (h' : fsM f n g' k') : k = k' := by
  obtain ⟨a, b, c, d⟩ := h
  obtain ⟨a', b', c', d'⟩ := h'
  rcases Int.lt_trichotomy k k' with q | q | q
  · have h1 := c' k a q
    have h2 := d k' a' b'
    rw [← hg k a b, ← hg k' a' b'] at h1
    omega
  · exact q
  · have h1 := c k' a' q
    have h2 := d' k a b
    rw [← hg k a b, ← hg k' a' b'] at h2
    omega
/-- a search for it: k is the first so far, m its worth -/
def fsI (f : Int → Int) (i : Int) (g : Int → Int) (k m : Int) : Prop := (i = 0 ∧ k = -1) ∨ (1 ≤ i ∧ fsM f i g k ∧ m = f (g k))
theorem fsI_0 {f g : Int → Int} {m : Int} : fsI f 0 g (-1) m := Or.inl ⟨rfl, rfl⟩
theorem fsI_k {f g : Int → Int} {i k m : Int} (i0 : 0 ≤ i) (h : fsI f i g k m) (hk : k ≠ -1) (hm : f (g i) ≤ m) : fsI f (i + 1) g k m := by
  rcases h with ⟨_, b⟩ | ⟨a, ⟨b1, b2, b3, b4⟩, c⟩
  · exact absurd b hk
  · refine Or.inr ⟨by omega, ⟨b1, by omega, b3, fun j j0 j1 => ?_⟩, c⟩
    rcases (show j < i ∨ j = i by omega) with q | q
    · exact b4 j j0 q
    · subst q; omega
theorem fsI_n {f g : Int → Int} {i k m : Int} (i0 : 0 ≤ i) (h : fsI f i g k m) (hm : k = -1 ∨ m < f (g i)) : fsI f (i + 1) g i (f (g i)) := by
  refine Or.inr ⟨by omega, ⟨i0, by omega, fun j j0 j1 => ?_, fun j j0 j1 => ?_⟩, rfl⟩
  · rcases h with ⟨a, b⟩ | ⟨a, ⟨b1, b2, b3, b4⟩, c⟩
    · omega
    · have := b4 j j0 j1; omega
  · rcases (show j < i ∨ j = i by omega) with q | q
    · rcases h with ⟨a, b⟩ | ⟨a, ⟨b1, b2, b3, b4⟩, c⟩
      · omega
      · have := b4 j j0 q; omega
    · subst q; omega
theorem fsI_b {f g : Int → Int} {i k m : Int} (h : fsI f i g k m) : (i = 0 ∧ k = -1) ∨ (1 ≤ i ∧ 0 ≤ k ∧ k < i) := by
  rcases h with h | ⟨a, b, c⟩
  · exact Or.inl h
  · exact Or.inr ⟨a, b.1, b.2.1⟩
section AdvL
variable {R : Int → Int → Int → Prop} {M c till o b n r r' : Int} {E : Int → Prop}
theorem efR_b (h : efR R c till o r) : -2 ≤ r ∧ r ≤ 2 := by
  rcases h with h | h | h | h <;> omega
theorem adB_0 : adB c E 0 0 := ⟨⟨by decide, by decide⟩, fun x x0 x1 => by rw [hb0]; constructor; (intro q; exact absurd q (by decide)); (intro q; omega)⟩
theorem adB_k (h : adB c E n b) (hn : n = c ∨ ¬ E n) : adB c E (n + 1) b := ⟨h.1, fun x x0 x1 => by
  rw [h.2 x x0 x1]
  constructor
  · rintro ⟨a, q⟩; exact ⟨by omega, q⟩
  · rintro ⟨a, q1, q2⟩
    refine ⟨?_, q1, q2⟩
    rcases (show x < n ∨ x = n by omega) with z | z
    · exact z
    · subst z; rcases hn with hn | hn
      · exact absurd hn q1
      · exact absurd q2 hn⟩
theorem adB_n (h : adB c E n b) (n0 : 0 ≤ n) (n1 : n < 4) (hc : n ≠ c) (hE : E n) : adB c E (n + 1) (orB b n) := ⟨orB_b h.1.1 h.1.2 n0 n1, fun x x0 x1 => by
  rw [hb_or h.1.1 h.1.2 n0 n1 x0 x1, h.2 x x0 x1]
  constructor
  · rintro (⟨a, q⟩ | q)
    · exact ⟨by omega, q⟩
    · subst q; exact ⟨by omega, hc, hE⟩
  · rintro ⟨a, q1, q2⟩
    rcases (show x < n ∨ x = n by omega) with z | z
    · exact Or.inl ⟨z, q1, q2⟩
    · exact Or.inr z⟩
theorem adB_uq {b' : Int} (h : adB c E n b) (h' : adB c E n b') : b = b' := hb_ext h.1.1 h.1.2 h'.1.1 h'.1.2 (fun x x0 x1 => (h.2 x x0 x1).trans (h'.2 x x0 x1).symm)
theorem adR_uq (h : adR R M c till E r) (h' : adR R M c till E r') : r = r' := by
  rcases h with ⟨a, b⟩ | ⟨a, b⟩ <;> rcases h' with ⟨a', b'⟩ | ⟨a', b'⟩
  · omega
  · exact absurd a a'
  · exact absurd a' a
  · exact adB_uq b b'
theorem hpR_uq (h : hpR R M c till r) (h' : hpR R M c till r') : r = r' := by
  rcases h with ⟨a, b⟩ | ⟨a, ⟨v, q⟩, b⟩ | ⟨a, q, b⟩ <;> rcases h' with ⟨a', b'⟩ | ⟨a', ⟨v', q'⟩, b'⟩ | ⟨a', q', b'⟩
  · omega
  · exact absurd a a'
  · exact absurd a a'
  · exact absurd a' a
  · omega
  · exact absurd q (q' _)
  · exact absurd a' a
  · exact absurd q' (q _)
  · exact adR_uq b b'
theorem spR_uq (h : spR R M c till r) (h' : spR R M c till r') : r = r' := by
  rcases h with ⟨a, b⟩ | ⟨a, q, b⟩ | ⟨a, ⟨v, q⟩, b⟩ <;> rcases h' with ⟨a', b'⟩ | ⟨a', q', b'⟩ | ⟨a', ⟨v', q'⟩, b'⟩
  · omega
  · exact absurd a a'
  · exact absurd a a'
  · exact absurd a' a
  · omega
  · exact absurd q' (q _)
  · exact absurd a' a
  · exact absurd q (q' _)
  · exact adR_uq b b'
theorem abl_1 {v : Int} (h1 : o ≠ c) (h : ∃ u, R o v u) : abl R c o v = 1 := by unfold abl; rw [if_pos ⟨h1, h⟩]
theorem abl_0 {v : Int} (h : o = c ∨ ∀ u, ¬ R o v u) : abl R c o v = 0 := by
  unfold abl
  rw [if_neg]
  rintro ⟨a, u, q⟩
  rcases h with h | h
  · exact a h
  · exact h u q
theorem abl_b (v : Int) : 0 ≤ abl R c o v ∧ abl R c o v ≤ 1 := by
  unfold abl
  split <;> omega
theorem cnO_s {v : Int} (n0 : 0 ≤ n) : cnO R c v (n + 1).toNat = cnO R c v n.toNat + abl R c n v := by
  rw [show (n + 1).toNat = n.toNat + 1 by omega]
  show cnO R c v n.toNat + abl R c ((n.toNat : Nat) : Int) v = _
  rw [Int.toNat_of_nonneg n0]
theorem cnO_b (v : Int) : ∀ n : Nat, 0 ≤ cnO R c v n ∧ cnO R c v n ≤ n
  | 0 => ⟨Int.le_refl _, Int.le_refl _⟩
  | n + 1 => by
    have h1 := cnO_b v n
    have h2 := abl_b (R := R) (c := c) (o := (n : Int)) v
    show 0 ≤ cnO R c v n + abl R c (n : Int) v ∧ cnO R c v n + abl R c (n : Int) v ≤ ((n + 1 : Nat) : Int)
    omega
end AdvL
/-- a search among RESULTS: hidden where one isn't told -/
def wsR (R : Int → Int → Int → Prop) (M c till what r : Int) : Prop := (tooM 1000 (R c till) ∧ r = -2) ∨ (∃ n g, srN (R c till) n g ∧ (((∃ v, R c till v ∧ ∃ o, 0 ≤ o ∧ o < M ∧ o ≠ c ∧ tooM 1000 (R o v)) ∧ r = -2) ∨ ((¬ ∃ v, R c till v ∧ ∃ o, 0 ≤ o ∧ o < M ∧ o ≠ c ∧ tooM 1000 (R o v)) ∧ ((n = 0 ∧ r = -1) ∨ ∃ k, fsM (fun v => cnO R c v M.toNat) n g k ∧ r = if what = 0 then k else cnO R c (g k) M.toNat))))
theorem wsR_uq {R : Int → Int → Int → Prop} {M c till what r r' : Int} (h : wsR R M c till what r) (h' : wsR R M c till what r') : r = r' := by
  rcases h with ⟨a, b⟩ | ⟨n, g, a, b⟩ <;> rcases h' with ⟨a', b'⟩ | ⟨n', g', a', b'⟩
  · omega
  · exact absurd a (srN_no a')
  · exact absurd a' (srN_no a)
  · obtain ⟨e1, e2⟩ := srN_uq a a'
    subst e1
    rcases b with ⟨b1, b2⟩ | ⟨b1, b2⟩ <;> rcases b' with ⟨b1', b2'⟩ | ⟨b1', b2'⟩
    · omega
    · exact absurd b1 b1'
    · exact absurd b1' b1
    · rcases b2 with b2 | ⟨k, k1, k2⟩ <;> rcases b2' with b2' | ⟨k', k1', k2'⟩
      · omega
      · have := k1'.1; have := k1'.2.1; omega
      · have := k1.1; have := k1.2.1; omega
      · have e := fsM_uq e2 k1 k1'
        subst e
        rw [k2, k2', e2 k k1.1 k1.2.1]
def coF (v : Int) : Int := ht (v / 16 / 3125) + ht (v / 16 % 3125) + bc (v % 16)
def rhR (R : Int → Int → Int → Prop) (c till what r : Int) : Prop := (tooM 1000 (R c till) ∧ r = -2) ∨ (∃ n g, srN (R c till) n g ∧ ((n = 0 ∧ r = -1) ∨ fsM (fun v => if what = 0 then coF v else - coF v) n g r))
theorem rhR_uq {R : Int → Int → Int → Prop} {c till what r r' : Int} (h : rhR R c till what r) (h' : rhR R c till what r') : r = r' := by
  rcases h with ⟨a, b⟩ | ⟨n, g, a, b⟩ <;> rcases h' with ⟨a', b'⟩ | ⟨n', g', a', b'⟩
  · omega
  · exact absurd a (srN_no a')
  · exact absurd a' (srN_no a)
  · obtain ⟨e1, e2⟩ := srN_uq a a'
    subst e1
    rcases b with b | b <;> rcases b' with b' | b'
    · omega
    · have := b'.1; have := b'.2.1; omega
    · have := b.1; have := b.2.1; omega
    · exact fsM_uq e2 b b'

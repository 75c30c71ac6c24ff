/-! LIFTS: one meaning -/
theorem pyI_ex {w : Int → Int} {p : Int} (h0 : 0 ≤ p) (h1 : p < 3125) : ∃ R K, pyI w R K ∧ R 0 = p := by
  refine ⟨fun i => if i = 0 then p else if i = 1 then p / 5 else if i = 2 then p / 5 / 5 else if i = 3 then p / 5 / 5 / 5 else if i = 4 then p / 5 / 5 / 5 / 5 else p / 5 / 5 / 5 / 5 / 5, fun i => if i = 0 then 0 else if i = 1 then w (p % 5) else if i = 2 then w (p % 5) + w (p / 5 % 5) else if i = 3 then w (p % 5) + w (p / 5 % 5) + w (p / 5 / 5 % 5) else if i = 4 then w (p % 5) + w (p / 5 % 5) + w (p / 5 / 5 % 5) + w (p / 5 / 5 / 5 % 5) else w (p % 5) + w (p / 5 % 5) + w (p / 5 / 5 % 5) + w (p / 5 / 5 / 5 % 5) + w (p / 5 / 5 / 5 / 5 % 5), ⟨by simp; omega, by simp; omega, by simp, fun i a b => ?_⟩, by simp⟩
  rcases (show i = 0 ∨ i = 1 ∨ i = 2 ∨ i = 3 ∨ i = 4 by omega) with rfl | rfl | rfl | rfl | rfl <;> simp
theorem dR_21 {w : Int → Int} {tr p0 p1 t l : Int} (hw : wOK w) (h0 : 0 ≤ p0 ∧ p0 < 3125) (h1 : 0 ≤ p1 ∧ p1 < 3125) (t0 : 0 ≤ t) (t4 : t ≤ 4) {n : Nat} (h : dR w tr (p0, p1, t, l) n) : n ≤ 21 := by
  obtain ⟨R0, K0, a, b⟩ := pyI_ex (w := w) h0.1 h0.2
  obtain ⟨R1, K1, c, d⟩ := pyI_ex (w := w) h1.1 h1.2
  obtain ⟨e, h2, h3⟩ := h
  have e0 := cst_0 hw a c t0 (by omega) l
  rw [b, d] at e0
  rw [← e0] at h2
  obtain ⟨x, hx, -⟩ := rch_rcc hw a c t0 (by omega) n _ h2
  exact (rcc_21 hw a c t0 (by omega) hx).2.2
/-- the fewest moves, or -1 -/
def chR (w : Int → Int) (tr : Int) (s : SS) (r : Int) : Prop := (r = -1 ∧ ∀ n, ¬ dR w tr s n) ∨ (0 ≤ r ∧ r ≤ 21 ∧ dR w tr s r.toNat ∧ ∀ n : Nat, dR w tr s n → r ≤ n)
theorem chR_uq {w : Int → Int} {tr r r' : Int} {s : SS} (h : chR w tr s r) (h' : chR w tr s r') : r = r' := by
  rcases h with ⟨a, b⟩ | ⟨a, b, c, d⟩ <;> rcases h' with ⟨a', b'⟩ | ⟨a', b', c', d'⟩
  · omega
  · exact absurd c' (b _)
  · exact absurd c (b' _)
  · have := d _ c'
    have := d' _ c
    omega
theorem lfR_chR {w : Int → Int} {tr p0 p1 t l r : Int} (hw : wOK w) (h0 : 0 ≤ p0 ∧ p0 < 3125) (h1 : 0 ≤ p1 ∧ p1 < 3125) (t0 : 0 ≤ t) (t4 : t ≤ 4) (h : lfR w tr (p0, p1, t, l) r) : (99 ≤ r ∧ chR w tr (p0, p1, t, l) (-1)) ∨ (r < 99 ∧ chR w tr (p0, p1, t, l) r) := by
  obtain ⟨a, b, c, d⟩ := h
  by_cases q : r = 99
  · subst q
    refine Or.inl ⟨by omega, Or.inl ⟨rfl, fun n hn => ?_⟩⟩
    have := d n hn
    have := dR_21 hw h0 h1 t0 t4 hn
    omega
  · rcases c with c | c
    · exact absurd c q
    · have := dR_21 hw h0 h1 t0 t4 c
      exact Or.inr ⟨by omega, Or.inr ⟨a, by omega, c, d⟩⟩
/-- what the class's search says -/
theorem sea_chR {w R0 R1 K0 K1 : Int → Int} {tr p0 p1 t much r ed : Int} {en : Int → Int} (hw : wOK w) (h0 : pyI w R0 K0) (h1 : pyI w R1 K1) (e0 : R0 0 = p0) (e1 : R1 0 = p1) (t0 : 0 ≤ t) (t4 : t ≤ 4) (hE : ∀ c : Int, (∃ e : Int, 0 ≤ e ∧ e < ed ∧ en e = c) ↔ (∃ n, rcc (stc w R0 R1 K0 K1 (much - w t) tr) n t c) ∧ lfC w K0 K1 (much - w t) c = 0) (hr : (r = -1 ∧ ed = 0) ∨ (0 ≤ r ∧ r ≤ 21 ∧ 0 < ed ∧ (∃ c, rcc (stc w R0 R1 K0 K1 (much - w t) tr) r.toNat t c ∧ lfC w K0 K1 (much - w t) c = 0) ∧ ∀ (n : Nat) (c : Int), rcc (stc w R0 R1 K0 K1 (much - w t) tr) n t c → lfC w K0 K1 (much - w t) c = 0 → r ≤ n)) : chR w tr (p0, p1, t, much) r := by
  have hs := cst_0 hw h0 h1 t0 (by omega) much
  rw [e0, e1] at hs
  have key : ∀ n, dR w tr (p0, p1, t, much) n → ∃ c, rcc (stc w R0 R1 K0 K1 (much - w t) tr) n t c ∧ lfC w K0 K1 (much - w t) c = 0 := fun n hn => by
    obtain ⟨e, a, b⟩ := hn
    rw [← hs] at a
    obtain ⟨c, hc, rfl⟩ := rch_rcc hw h0 h1 t0 (by omega) n _ a
    exact ⟨c, hc, b⟩
  rcases hr with ⟨a, b⟩ | ⟨a, b, c, ⟨x, x1, x2⟩, d⟩
  · refine Or.inl ⟨a, fun n hn => ?_⟩
    obtain ⟨c, c1, c2⟩ := key n hn
    obtain ⟨e, q0, q1, -⟩ := (hE c).mpr ⟨⟨n, c1⟩, c2⟩
    omega
  · refine Or.inr ⟨a, b, ?_, fun n hn => ?_⟩
    · have := rcc_rch hw h0 h1 t0 (by omega) _ _ x1
      rw [hs] at this
      exact ⟨_, this, x2⟩
    · obtain ⟨c, c1, c2⟩ := key n hn
      exact d n c c1 c2

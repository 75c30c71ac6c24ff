/-! fewest moves -/
def dR (w : Int → Int) (tr : Int) (s : SS) (n : Nat) : Prop := ∃ e : SS, rch w tr n s e ∧ e.2.2.2 = 0
theorem dR_0 {w : Int → Int} {tr : Int} {s : SS} (h : s.2.2.2 = 0) : dR w tr s 0 := ⟨s, rfl, h⟩
theorem dR_s {w : Int → Int} {tr : Int} {s m : SS} {n : Nat} (h : stp w tr s m) (hd : dR w tr m n) : dR w tr s (n + 1) := by
  obtain ⟨e, h1, h2⟩ := hd
  exact ⟨e, rch_f h h1, h2⟩
theorem dR_b {w : Int → Int} {tr : Int} {s : SS} {n : Nat} (h0 : s.2.2.2 ≠ 0) (hd : dR w tr s n) : ∃ m k, n = k + 1 ∧ stp w tr s m ∧ dR w tr m k := by
  obtain ⟨e, h1, h2⟩ := hd
  cases n with
  | zero =>
    have h1 : e = s := h1
    rw [h1] at h2
    exact absurd h2 h0
  | succ k =>
    obtain ⟨m, h3, h4⟩ := rch_b h1
    exact ⟨m, k, rfl, h3, e, h4, h2⟩
def lfR (w : Int → Int) (tr : Int) (s : SS) (r : Int) : Prop := 0 ≤ r ∧ r ≤ 99 ∧ (r = 99 ∨ dR w tr s r.toNat) ∧ ∀ n : Nat, dR w tr s n → r ≤ n
/-- few so far, over some of the moves -/
def fwS (w : Int → Int) (tr : Int) (s : SS) (few : Int) : Prop := 0 ≤ few ∧ few ≤ 99 ∧ (few = 99 ∨ dR w tr s few.toNat)
theorem fwS_min {w : Int → Int} {tr : Int} {s m : SS} {few r : Int} (h : fwS w tr s few) (hs : stp w tr s m) (hr : lfR w tr m r) : fwS w tr s (min few (1 + r)) ∧ ∀ n : Nat, dR w tr m n → min few (1 + r) ≤ n + 1 := by
  obtain ⟨a, b, c⟩ := h
  obtain ⟨d, e, f, g⟩ := hr
  refine ⟨⟨by omega, by omega, ?_⟩, fun n hn => by have := g n hn; omega⟩
  by_cases q : few ≤ 1 + r
  · rw [show min few (1 + r) = few by omega]; exact c
  · rw [show min few (1 + r) = 1 + r by omega]
    rcases f with f | f
    · omega
    · right
      rw [show (1 + r).toNat = r.toNat + 1 by omega]
      exact dR_s hs f
def fwI (w : Int → Int) (tr : Int) (a0 a1 : Int → Int) (mv : Int) (mk fw : Int → Int) : Prop := ∀ j : Int, 0 ≤ j → j < 72000 → (0 ≤ mk j ∧ mk j ≤ mv) ∧ (mk j = mv → lfR w tr (mkD a0 a1 j) (fw j))
theorem fwI_put {w : Int → Int} {tr : Int} {a0 a1 mk fw : Int → Int} {mv j r : Int} (h : fwI w tr a0 a1 mv mk fw) (hm : 0 ≤ mv) (hr : lfR w tr (mkD a0 a1 j) r) : fwI w tr a0 a1 mv (iu mk j mv) (iu fw j r) := fun i i0 i1 => by
  by_cases e : i = j
  · rw [e, iu_at, iu_at]
    exact ⟨by omega, fun _ => hr⟩
  · rw [iu_ne _ _ e, iu_ne _ _ e]
    exact h i i0 i1

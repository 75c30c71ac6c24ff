/-! the code tables are the methods' code -/
noncomputable def am_rowB (m : AmM) : Nat → List (Option AmI) → Bool
  | _, [] => true
  | pc, none :: r => am_rowB m (pc + 1) r
  | pc, some x :: r => (decide (decode m.2.1 pc = .ok (x.1, x.2.1)) && am_stat m.2.2.1 m.2.2.2.1 x.1 x.2.1 x.2.2) && am_rowB m (pc + 1) r
noncomputable def am_colB (m : AmM) : Nat → List (List (Option AmI)) → Bool
  | _, [] => true
  | pc, r :: rs => am_rowB m pc r && am_colB m (pc + 8) rs
theorem am_rowB_at {m : AmM} {x : AmI} : ∀ (r : List (Option AmI)) (pc b : Nat), am_rowB m pc r = true → am_nth r b = some (some x) → decode m.2.1 (pc + b) = .ok (x.1, x.2.1) ∧ am_stat m.2.2.1 m.2.2.2.1 x.1 x.2.1 x.2.2 = true
  | [], pc, b, _, h => nomatch h
  | none :: r, pc, 0, _, h => nomatch h
  | some y :: r, pc, 0, hb, h => by
    have e : y = x := Option.some.inj (Option.some.inj h)
    subst e
    obtain ⟨h1, h2⟩ := am_and (am_and hb).1
    exact ⟨of_decide_eq_true h1, h2⟩
  | none :: r, pc, b + 1, hb, h => by
    have := am_rowB_at r (pc + 1) b hb h
    rw [show pc + 1 + b = pc + (b + 1) by omega] at this
    exact this
  | some y :: r, pc, b + 1, hb, h => by
    have := am_rowB_at r (pc + 1) b (am_and hb).2 h
    rw [show pc + 1 + b = pc + (b + 1) by omega] at this
    exact this
theorem am_colB_at {m : AmM} {r : List (Option AmI)} : ∀ (rs : List (List (Option AmI))) (pc a : Nat), am_colB m pc rs = true → am_nth rs a = some r → am_rowB m (pc + 8 * a) r = true
  | [], pc, a, _, h => nomatch h
  | q :: rs, pc, 0, hb, h => by
    have e : q = r := Option.some.inj h
    subst e
    exact (am_and hb).1
  | q :: rs, pc, a + 1, hb, h => by
    have := am_colB_at rs (pc + 8) a (am_and hb).2 h
    rw [show pc + 8 + 8 * a = pc + 8 * (a + 1) by omega] at this
    exact this
theorem am_cok_of {m : AmM} (h : am_colB m 0 m.2.2.2.2.2 = true) : am_cok m := by
  intro pc i len v hat
  unfold am_at at hat
  split at hat
  · rename_i r hr
    split at hat
    · rename_i x hx
      subst hat
      have h1 := am_colB_at _ 0 _ h hr
      have h2 := am_rowB_at r _ _ h1 hx
      rw [Nat.zero_add, Nat.div_add_mod pc 8] at h2
      exact h2
    · cases hat
  · cases hat

/-! rows for runs of the small machine -/
theorem am_stp_mono {ih ih' : AmF} (hle : ∀ d m pc L st h r, ih d m pc L st h = some r → ih' d m pc L st h = some r) : ∀ d m pc L st h r, am_stp ih d m pc L st h = some r → am_stp ih' d m pc L st h = some r := by
  intro d m pc L st h r hr
  unfold am_stp at hr ⊢
  cases h1 : am_one m pc L st h with
  | some q =>
    obtain ⟨pc', L', st', h'⟩ := q
    rw [h1] at hr
    exact hle _ _ _ _ _ _ _ hr
  | none =>
    rw [h1] at hr
    have hr : am_more ih d m pc L st h = some r := hr
    show am_more ih' d m pc L st h = some r
    unfold am_more at hr ⊢
    cases h2 : am_at m.2.2.2.2.2 pc with
    | none => rw [h2] at hr; cases hr
    | some x =>
      obtain ⟨i, len, v⟩ := x
      rw [h2] at hr
      simp only [] at hr ⊢
      cases h3 : am_ret m.2.2.2.2.1 i st with
      | some q => rw [h3] at hr; exact hr
      | none =>
        rw [h3] at hr
        simp only [] at hr ⊢
        cases h4 : am_new m.2.2.1 h.length i st with
        | some q =>
          obtain ⟨n, cs, st', j⟩ := q
          rw [h4] at hr
          simp only [] at hr ⊢
          obtain ⟨v2, h2', k2, j2⟩ := r
          obtain ⟨a', b', e1, rfl, rfl⟩ := am_add_eq hr
          rw [hle _ _ _ _ _ _ _ e1]
          rfl
        | none =>
          rw [h4] at hr
          simp only [] at hr ⊢
          cases h5 : am_call m.2.2.1 i st h with
          | none => rw [h5] at hr; cases hr
          | some q =>
            obtain ⟨m', as, rs⟩ := q
            rw [h5] at hr
            simp only [] at hr ⊢
            cases d with
            | zero => exact nomatch hr
            | succ d' =>
              simp only [] at hr ⊢
              cases h6 : ih d' m' 0 (am_ent as m'.2.2.2.1) [] h with
              | none => rw [h6] at hr; cases hr
              | some q =>
                obtain ⟨v1, h1', k1, j1⟩ := q
                rw [h6] at hr
                rw [hle _ _ _ _ _ _ _ h6]
                simp only [] at hr ⊢
                obtain ⟨v2, h2', k2, j2⟩ := r
                obtain ⟨a', b', e1, rfl, rfl⟩ := am_add_eq hr
                rw [hle _ _ _ _ _ _ _ e1]
                rfl
theorem am_run_succ : ∀ n d m pc L st h r, am_run n d m pc L st h = some r → am_run (n + 1) d m pc L st h = some r
  | 0 => fun _ _ _ _ _ _ _ h => nomatch h
  | n + 1 => am_stp_mono (am_run_succ n)
theorem am_run_le {n n' : Nat} (hn : n ≤ n') {d : Nat} {m : AmM} {pc : Nat} {L : AmL} {st : List Value} {h : AmH} {r : AmR} (hr : am_run n d m pc L st h = some r) : am_run n' d m pc L st h = some r := by
  induction hn with
  | refl => exact hr
  | step _ ih => exact am_run_succ _ _ _ _ _ _ _ _ ih
/-- a call, and nothing else, stands here -/
noncomputable def am_isC (m : AmM) (pc : Nat) (L : AmL) (st : List Value) (h : AmH) : Option (AmM × List Value × List Value) := match am_one m pc L st h with
  | some _ => none
  | none => match am_at m.2.2.2.2.2 pc with
    | none => none
    | some (i, _, _) => match am_ret m.2.2.2.2.1 i st with
      | some _ => none
      | none => match am_new m.2.2.1 h.length i st with
        | some _ => none
        | none => am_call m.2.2.1 i st h
/-- a making, and nothing else, stands here -/
noncomputable def am_isN (m : AmM) (pc : Nat) (L : AmL) (st : List Value) (h : AmH) : Option (Nat × List AmE × List Value × Nat) := match am_one m pc L st h with
  | some _ => none
  | none => match am_at m.2.2.2.2.2 pc with
    | none => none
    | some (i, _, _) => match am_ret m.2.2.2.2.1 i st with
      | some _ => none
      | none => am_new m.2.2.1 h.length i st
/-- a return, and nothing else, stands here -/
noncomputable def am_isT (m : AmM) (pc : Nat) (L : AmL) (st : List Value) (h : AmH) : Option (Option Value) := match am_one m pc L st h with
  | some _ => none
  | none => match am_at m.2.2.2.2.2 pc with
    | none => none
    | some (i, _, _) => am_ret m.2.2.2.2.1 i st
section RnRows
variable {d : Nat} {m m' : AmM} {pc pc' : Nat} {L L' : AmL} {st st' : List Value} {h h' h1 h2 : AmH} {r : AmR} {rv v1 v2 : Option Value} {k1 k2 j1 j2 : Nat} {as rest : List Value}
theorem Rn.one (e : am_one m pc L st h = some (pc', L', st', h')) (k : Rn d m pc' L' st' h' r) : Rn d m pc L st h r := by
  obtain ⟨n, hn⟩ := k
  refine ⟨n + 1, ?_⟩
  show am_stp (am_run n) d m pc L st h = some r
  unfold am_stp
  rw [e]
  exact hn
theorem Rn.walk : ∀ (n : Nat) {pc pc' : Nat} {L L' : AmL} {st st' : List Value} {h h' : AmH}, am_walk m n pc L st h = some (pc', L', st', h') → Rn d m pc' L' st' h' r → Rn d m pc L st h r
  | 0, _, _, _, _, _, _, _, _, e, k => by
    cases e
    exact k
  | n + 1, pc, pc', L, L', st, st', h, h', e, k => by
    have e : (match am_one m pc L st h with
      | some (pc', L', st', h') => am_walk m n pc' L' st' h'
      | none => none) = some (pc', L', st', h') := e
    split at e
    · rename_i p1 L1 s1 g1 e1
      exact Rn.one e1 (Rn.walk n e k)
    · cases e
theorem Rn.ret (e : am_isT m pc L st h = some rv) : Rn d m pc L st h (rv, h, 0, 0) := by
  refine ⟨1, ?_⟩
  show am_stp (am_run 0) d m pc L st h = some (rv, h, 0, 0)
  unfold am_stp
  unfold am_isT at e
  split at e
  · cases e
  · rename_i e1
    rw [e1]
    show am_more (am_run 0) d m pc L st h = some (rv, h, 0, 0)
    unfold am_more
    split at e
    · cases e
    · rename_i i len v e2
      rw [e2]
      simp only []
      rw [e]
theorem Rn.call (e : am_isC m pc L st h = some (m', as, rest)) (kc : Rn d m' 0 (am_ent as m'.2.2.2.1) [] h (v1, h1, k1, j1)) (k : Rn (d + 1) m (pc + 3) L (v1.toList ++ rest) h1 (v2, h2, k2, j2)) : Rn (d + 1) m pc L st h (v2, h2, k2 + k1, j2 + j1) := by
  obtain ⟨a, ha⟩ := kc
  obtain ⟨b, hb⟩ := k
  refine ⟨max a b + 1, ?_⟩
  show am_stp (am_run (max a b)) (d + 1) m pc L st h = some (v2, h2, k2 + k1, j2 + j1)
  unfold am_stp
  unfold am_isC at e
  split at e
  · cases e
  · rename_i e1
    rw [e1]
    show am_more (am_run (max a b)) (d + 1) m pc L st h = _
    unfold am_more
    split at e
    · cases e
    · rename_i i len v e2
      rw [e2]
      simp only []
      split at e
      · cases e
      · rename_i e3
        rw [e3]
        simp only []
        split at e
        · cases e
        · rename_i e4
          rw [e4]
          simp only []
          rw [e]
          simp only []
          rw [am_run_le (Nat.le_max_left a b) ha]
          simp only []
          rw [am_run_le (Nat.le_max_right a b) hb]
          rfl
theorem Rn.make {n j : Nat} {cs : List AmE} (e : am_isN m pc L st h = some (n, cs, st', j)) (k : Rn d m (pc + n) L (.ref h.length :: st') (h ++ cs) (v2, h2, k2, j2)) : Rn d m pc L st h (v2, h2, k2 + cs.length, j2 + j) := by
  obtain ⟨b, hb⟩ := k
  refine ⟨b + 1, ?_⟩
  show am_stp (am_run b) d m pc L st h = _
  unfold am_stp
  unfold am_isN at e
  split at e
  · cases e
  · rename_i e1
    rw [e1]
    show am_more (am_run b) d m pc L st h = _
    unfold am_more
    split at e
    · cases e
    · rename_i i len v e2
      rw [e2]
      simp only []
      split at e
      · cases e
      · rename_i e3
        rw [e3]
        simp only []
        rw [e]
        simp only []
        rw [hb]
        rfl
end RnRows

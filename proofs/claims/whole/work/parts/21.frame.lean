/-! THE FRAME: a run that makes nothing, in a part of a heap under other places -/
def am_rn (ρ : Nat → Nat) (v : Value) : Value := match v with
  | .ref k => .ref (ρ k)
  | .retAddr j => .retAddr j
  | .int x => .int x
  | .long x => .long x
  | .float x => .float x
  | .double x => .double x
  | .null => .null
def am_re (ρ : Nat → Nat) (e : AmE) : AmE := match e with
  | .inl (ty, a) => .inl (ty, am_ra ρ a)
  | .inr (c, fs) => .inr (c, fs.map (am_rn ρ))
def am_rl (ρ : Nat → Nat) (L : AmL) : AmL := L.map (Option.map (am_rn ρ))
theorem am_rn_cat (ρ : Nat → Nat) (v : Value) : (am_rn ρ v).category = v.category := by cases v <;> rfl
theorem am_rn_c1 (ρ : Nat → Nat) (v : Value) : am_c1 (am_rn ρ v) = am_c1 v := by cases v <;> rfl
theorem am_put_map {α β : Type} (f : α → β) (v : α) : ∀ (l : List α) (k : Nat), am_put (l.map f) (f v) k = (am_put l v k).map f
  | [], _ => rfl
  | _ :: _, 0 => rfl
  | a :: l, k + 1 => congrArg (f a :: ·) (am_put_map f v l k)
theorem am_nth_map {α β : Type} (f : α → β) : ∀ (l : List α) (k : Nat), am_nth (l.map f) k = (am_nth l k).map f
  | [], _ => rfl
  | _ :: _, 0 => rfl
  | _ :: l, k + 1 => am_nth_map f l k
theorem am_get_rl (ρ : Nat → Nat) (L : AmL) (k : Nat) : am_get (am_rl ρ L) k = (am_get L k).map (am_rn ρ) := by
  unfold am_get am_rl
  rw [am_nth_map]
  cases am_nth L k with
  | none => rfl
  | some x => cases x <;> rfl
theorem am_clr_rl (ρ : Nat → Nat) (L : AmL) (k : Nat) : am_clr (am_rl ρ L) k = am_rl ρ (am_clr L k) := by
  cases k with
  | zero => rfl
  | succ j =>
    show (match am_get (am_rl ρ L) j with
      | some (.long _) => am_put (am_rl ρ L) none j
      | some (.double _) => am_put (am_rl ρ L) none j
      | _ => am_rl ρ L) = am_rl ρ (match am_get L j with
      | some (.long _) => am_put L none j
      | some (.double _) => am_put L none j
      | _ => L)
    rw [am_get_rl]
    cases am_get L j with
    | none => rfl
    | some v => cases v <;> first | rfl | exact am_put_map (Option.map (am_rn ρ)) none L j
theorem am_set1_rl (ρ : Nat → Nat) (L : AmL) (k : Nat) (v : Value) : am_set1 (am_rl ρ L) k (am_rn ρ v) = am_rl ρ (am_set1 L k v) := by
  unfold am_set1
  rw [am_clr_rl]
  exact am_put_map (Option.map (am_rn ρ)) (some v) _ k
theorem am_set2_rl (ρ : Nat → Nat) (L : AmL) (k : Nat) (v : Value) : am_set2 (am_rl ρ L) k (am_rn ρ v) = am_rl ρ (am_set2 L k v) := by
  unfold am_set2
  rw [am_clr_rl]
  have e1 := am_put_map (Option.map (am_rn ρ)) (some v) (am_clr L k) k
  have e2 := am_put_map (Option.map (am_rn ρ)) none (am_put (am_clr L k) (some v) k) (k + 1)
  show am_put (am_put ((am_clr L k).map (Option.map (am_rn ρ))) (some (am_rn ρ v)) k) none (k + 1) = _
  have e1' : am_put ((am_clr L k).map (Option.map (am_rn ρ))) (some (am_rn ρ v)) k = (am_put (am_clr L k) (some v) k).map (Option.map (am_rn ρ)) := e1
  rw [e1']
  exact e2
theorem am_br_rn {c : Prop} [Decidable c] {pc pc' : Nat} {off : Int} {L L' : AmL} {r st' : List Value} (ρ : Nat → Nat) (h : am_br c pc off L r = some (pc', L', st')) : am_br c pc off (am_rl ρ L) (r.map (am_rn ρ)) = some (pc', am_rl ρ L', st'.map (am_rn ρ)) := by
  unfold am_br at h ⊢
  cases q : am_tg pc off with
  | none => rw [q] at h; cases h
  | some t =>
    rw [q] at h
    simp only [] at h ⊢
    by_cases hc : c
    · rw [if_pos hc] at h ⊢
      cases h
      rfl
    · rw [if_neg hc] at h ⊢
      cases h
      rfl
theorem am_brn_rn {c : Prop} [Decidable c] {pc pc' : Nat} {off : Int} {L L' : AmL} {r st' : List Value} (ρ : Nat → Nat) (h : am_brn c pc off L r = some (pc', L', st')) : am_brn c pc off (am_rl ρ L) (r.map (am_rn ρ)) = some (pc', am_rl ρ L', st'.map (am_rn ρ)) := by
  unfold am_brn at h ⊢
  cases q : am_tg pc off with
  | none => rw [q] at h; cases h
  | some t =>
    rw [q] at h
    simp only [] at h ⊢
    by_cases hc : c
    · rw [if_pos hc] at h ⊢
      cases h
      rfl
    · rw [if_neg hc] at h ⊢
      cases h
      rfl
theorem am_if_rn (cnd : Jvm.ClassFile.Cond) {x y : Int32} {pc pc' : Nat} {off : Int} {L L' : AmL} {r st' : List Value} (ρ : Nat → Nat) (h : am_if cnd x y pc off L r = some (pc', L', st')) : am_if cnd x y pc off (am_rl ρ L) (r.map (am_rn ρ)) = some (pc', am_rl ρ L', st'.map (am_rn ρ)) := by
  cases cnd <;> first | exact am_br_rn ρ h | exact am_brn_rn ρ h
theorem am_jmp_rn {pc pc' : Nat} {off : Int} {L L' : AmL} {r st' : List Value} (ρ : Nat → Nat) (h : am_jmp pc off L r = some (pc', L', st')) : am_jmp pc off (am_rl ρ L) (r.map (am_rn ρ)) = some (pc', am_rl ρ L', st'.map (am_rn ρ)) := by
  unfold am_jmp at h ⊢
  cases q : am_tg pc off with
  | none => rw [q] at h; cases h
  | some t =>
    rw [q] at h
    cases h
    rfl
set_option maxHeartbeats 4000000 in
theorem am_pure_rn {own nL len pc pc' : Nat} {i : Jvm.ClassFile.Instr} {v : Value} {L L' : AmL} {st st' : List Value} (ρ : Nat → Nat) (hs : am_stat own nL i len v = true) (hp : am_pure i v pc L st = some (pc', L', st')) : am_pure i v pc (am_rl ρ L) (st.map (am_rn ρ)) = some (pc', am_rl ρ L', st'.map (am_rn ρ)) := by
  cases i with
  | iconst k =>
    cases hp
    have hv := of_decide_eq_true (am_and hs).2
    subst hv
    rfl
  | bipush k =>
    cases hp
    have hv := of_decide_eq_true (am_and hs).2
    subst hv
    rfl
  | sipush k =>
    cases hp
    have hv := of_decide_eq_true (am_and hs).2
    subst hv
    rfl
  | lconst k =>
    cases hp
    have hv := of_decide_eq_true (am_and hs).2
    subst hv
    rfl
  | ldc k =>
    cases hp
    have hv := (am_and (am_and hs).2).1
    cases v <;> first | rfl | cases hv
  | ldc_w k =>
    cases hp
    have hv := (am_and (am_and hs).2).1
    cases v <;> first | rfl | cases hv
  | ldc2_w k =>
    cases hp
    have hv := (am_and (am_and hs).2).1
    cases v <;> first | rfl | cases hv
  | iload_n j =>
    obtain ⟨x, g, rfl, rfl, rfl⟩ := am_ldI_eq hp
    simp only [am_pure, am_ldI, am_get_rl, g, Option.map_some, am_rn]; rfl
  | iload j =>
    obtain ⟨x, g, rfl, rfl, rfl⟩ := am_ldI_eq hp
    simp only [am_pure, am_ldI, am_get_rl, g, Option.map_some, am_rn]; rfl
  | lload_n j =>
    obtain ⟨x, g, rfl, rfl, rfl⟩ := am_ldJ_eq hp
    simp only [am_pure, am_ldJ, am_get_rl, g, Option.map_some, am_rn]; rfl
  | lload j =>
    obtain ⟨x, g, rfl, rfl, rfl⟩ := am_ldJ_eq hp
    simp only [am_pure, am_ldJ, am_get_rl, g, Option.map_some, am_rn]; rfl
  | aload_n j =>
    obtain ⟨x, g, h, rfl, rfl, rfl⟩ := am_ldA_eq hp
    rcases h with rfl | ⟨a, rfl⟩ | ⟨a, rfl⟩ <;> (simp only [am_pure, am_ldA, am_get_rl, g, Option.map_some, am_rn]; rfl)
  | aload j =>
    obtain ⟨x, g, h, rfl, rfl, rfl⟩ := am_ldA_eq hp
    rcases h with rfl | ⟨a, rfl⟩ | ⟨a, rfl⟩ <;> (simp only [am_pure, am_ldA, am_get_rl, g, Option.map_some, am_rn]; rfl)
  | istore_n j =>
    obtain ⟨x, rfl, rfl, rfl⟩ := am_stI_eq hp
    exact congrArg (fun q => some (pc + 1, q, st'.map (am_rn ρ))) (am_set1_rl ρ L j.val (.int x))
  | istore j =>
    obtain ⟨x, rfl, rfl, rfl⟩ := am_stI_eq hp
    exact congrArg (fun q => some (pc + 2, q, st'.map (am_rn ρ))) (am_set1_rl ρ L j (.int x))
  | lstore_n j =>
    obtain ⟨x, rfl, rfl, rfl⟩ := am_stJ_eq hp
    exact congrArg (fun q => some (pc + 1, q, st'.map (am_rn ρ))) (am_set2_rl ρ L j.val (.long x))
  | lstore j =>
    obtain ⟨x, rfl, rfl, rfl⟩ := am_stJ_eq hp
    exact congrArg (fun q => some (pc + 2, q, st'.map (am_rn ρ))) (am_set2_rl ρ L j (.long x))
  | astore_n j =>
    obtain ⟨x, rfl, rfl, rfl⟩ := am_stA_eq hp
    exact congrArg (fun q => some (pc + 1, q, st'.map (am_rn ρ))) (am_set1_rl ρ L j.val (.ref x))
  | astore j =>
    obtain ⟨x, rfl, rfl, rfl⟩ := am_stA_eq hp
    exact congrArg (fun q => some (pc + 2, q, st'.map (am_rn ρ))) (am_set1_rl ρ L j (.ref x))
  | iinc j n =>
    simp only [am_pure] at hp
    split at hp
    · rename_i x n' g
      cases hp
      simp only [am_pure, am_get_rl, g, Option.map_some, am_rn]
      exact congrArg (fun q => some (pc + 3, q, st.map (am_rn ρ))) (am_set1_rl ρ L j (.int (x + n')))
    · cases hp
  | iadd => obtain ⟨x, y, r, rfl, rfl, rfl, rfl⟩ := am_i2_eq hp; rfl
  | isub => obtain ⟨x, y, r, rfl, rfl, rfl, rfl⟩ := am_i2_eq hp; rfl
  | imul => obtain ⟨x, y, r, rfl, rfl, rfl, rfl⟩ := am_i2_eq hp; rfl
  | iand => obtain ⟨x, y, r, rfl, rfl, rfl, rfl⟩ := am_i2_eq hp; rfl
  | ior => obtain ⟨x, y, r, rfl, rfl, rfl, rfl⟩ := am_i2_eq hp; rfl
  | ixor => obtain ⟨x, y, r, rfl, rfl, rfl, rfl⟩ := am_i2_eq hp; rfl
  | ishl => obtain ⟨x, y, r, rfl, rfl, rfl, rfl⟩ := am_i2_eq hp; rfl
  | ishr => obtain ⟨x, y, r, rfl, rfl, rfl, rfl⟩ := am_i2_eq hp; rfl
  | iushr => obtain ⟨x, y, r, rfl, rfl, rfl, rfl⟩ := am_i2_eq hp; rfl
  | idiv => obtain ⟨x, y, r, rfl, n, rfl, rfl, rfl⟩ := am_i2d_eq hp; exact if_neg n
  | irem => obtain ⟨x, y, r, rfl, n, rfl, rfl, rfl⟩ := am_i2d_eq hp; exact if_neg n
  | ladd => obtain ⟨x, y, r, rfl, rfl, rfl, rfl⟩ := am_l2_eq hp; rfl
  | lsub => obtain ⟨x, y, r, rfl, rfl, rfl, rfl⟩ := am_l2_eq hp; rfl
  | lmul => obtain ⟨x, y, r, rfl, rfl, rfl, rfl⟩ := am_l2_eq hp; rfl
  | land => obtain ⟨x, y, r, rfl, rfl, rfl, rfl⟩ := am_l2_eq hp; rfl
  | lor => obtain ⟨x, y, r, rfl, rfl, rfl, rfl⟩ := am_l2_eq hp; rfl
  | ldiv => obtain ⟨x, y, r, rfl, n, rfl, rfl, rfl⟩ := am_l2d_eq hp; exact if_neg n
  | lrem => obtain ⟨x, y, r, rfl, n, rfl, rfl, rfl⟩ := am_l2d_eq hp; exact if_neg n
  | lshl => obtain ⟨x, y, r, rfl, rfl, rfl, rfl⟩ := am_lsh_eq hp; rfl
  | lushr => obtain ⟨x, y, r, rfl, rfl, rfl, rfl⟩ := am_lsh_eq hp; rfl
  | i2l =>
    simp only [am_pure] at hp
    split at hp
    · cases hp; rfl
    · cases hp
  | l2i =>
    simp only [am_pure] at hp
    split at hp
    · cases hp; rfl
    · cases hp
  | i2b =>
    simp only [am_pure] at hp
    split at hp
    · cases hp; rfl
    · cases hp
  | lcmp =>
    simp only [am_pure] at hp
    split at hp
    · cases hp; rfl
    · cases hp
  | dup =>
    simp only [am_pure] at hp
    split at hp
    · rename_i a r
      simp only [am_pure, List.map_cons, am_rn_c1]
      cases ha : am_c1 a with
      | false => rw [ha] at hp; cases hp
      | true => rw [ha] at hp; cases hp; rfl
    · cases hp
  | pop =>
    simp only [am_pure] at hp
    split at hp
    · rename_i a r
      simp only [am_pure, List.map_cons, am_rn_c1]
      cases ha : am_c1 a with
      | false => rw [ha] at hp; cases hp
      | true => rw [ha] at hp; cases hp; rfl
    · cases hp
  | dup_x1 =>
    simp only [am_pure] at hp
    split at hp
    · rename_i a b r
      simp only [am_pure, List.map_cons, am_rn_c1]
      cases ha : am_c1 a && am_c1 b with
      | false => rw [ha] at hp; cases hp
      | true => rw [ha] at hp; cases hp; rfl
    · cases hp
  | dup2 =>
    simp only [am_pure] at hp
    split at hp
    · rename_i a b r
      simp only [am_pure, List.map_cons, am_rn_c1]
      cases ha : am_c1 a && am_c1 b with
      | false => rw [ha] at hp; cases hp
      | true => rw [ha] at hp; cases hp; rfl
    · cases hp
  | goto off => exact am_jmp_rn ρ hp
  | ifCond cnd off =>
    simp only [am_pure] at hp
    split at hp
    · exact am_if_rn cnd ρ hp
    · cases hp
  | if_icmp cnd off =>
    simp only [am_pure] at hp
    split at hp
    · exact am_if_rn cnd ρ hp
    · cases hp
  | tableswitch dflt lo hi offs =>
    simp only [am_pure] at hp
    split at hp
    · rename_i x r
      simp only [am_pure, List.map_cons, am_rn]
      split at hp
      · rename_i hc
        rw [if_pos hc]
        exact am_jmp_rn ρ hp
      · rename_i hc
        rw [if_neg hc]
        split at hp
        · exact am_jmp_rn ρ hp
        · cases hp
    · cases hp
  | _ => exact nomatch (show (none : AmP) = some (pc', L', st') from hp)

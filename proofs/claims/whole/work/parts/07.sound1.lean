/-! THE SMALL MACHINE IS SOUND, part 1: how its states stand for the machine's; instructions without the heap -/
def am_rv (ad sa : Nat → Nat) (v : Value) : Value := match v with
  | .ref k => .ref (ad k)
  | .retAddr j => .ref (sa j)
  | .int x => .int x
  | .long x => .long x
  | .float x => .float x
  | .double x => .double x
  | .null => .null
theorem am_rv_cat (ad sa : Nat → Nat) (v : Value) : (am_rv ad sa v).category = v.category := by cases v <;> rfl
theorem am_c1_cat {v : Value} (h : am_c1 v = true) : v.category = 1 := by cases v <;> first | rfl | cases h
/-- the locals stand for L -/
def am_lr (ad sa : Nat → Nat) (ls : Array Slot) (nL : Nat) (L : AmL) : Prop := lv_has ls nL [] ∧ ∀ k v, am_get L k = some v → ls[k]? = some (.val (am_rv ad sa v))
noncomputable def am_lv (ad sa : Nat → Nat) (L : AmL) : List (Nat × Value) := (List.range L.length).filterMap (fun k => (am_get L k).map (fun v => (k, am_rv ad sa v)))
theorem am_get_eq (L : AmL) (k : Nat) (v : Value) : am_get L k = some v ↔ L[k]? = some (some v) := by
  unfold am_get
  rw [am_nth_eq]
  constructor
  · intro h
    split at h
    · rename_i w e
      cases h
      exact e
    · cases h
  · intro h
    rw [h]
theorem am_lv_mem {ad sa : Nat → Nat} {L : AmL} {k : Nat} {v : Value} (h : am_get L k = some v) : (k, am_rv ad sa v) ∈ am_lv ad sa L := by
  have hk : k < L.length := (List.getElem?_eq_some_iff.mp ((am_get_eq L k v).mp h)).1
  exact List.mem_filterMap.mpr ⟨k, List.mem_range.mpr hk, by rw [h]; rfl⟩
theorem am_lr_has {ad sa : Nat → Nat} {ls : Array Slot} {nL : Nat} {L : AmL} (h : am_lr ad sa ls nL L) : lv_has ls nL (am_lv ad sa L) := by
  refine ⟨h.1.1, h.1.2.1, fun q hq => ?_⟩
  obtain ⟨k, -, hk⟩ := List.mem_filterMap.mp hq
  cases e : am_get L k with
  | none => rw [e] at hk; cases hk
  | some v =>
    rw [e] at hk
    cases hk
    exact h.2 k v e
theorem am_get_clr {L : AmL} {i k : Nat} {v : Value} (h : am_get (am_clr L i) k = some v) : am_get L k = some v ∧ ¬ (k + 1 = i ∧ v.category = 2) := by
  cases i with
  | zero => exact ⟨h, fun q => by omega⟩
  | succ j =>
    have key : ∀ w : Value, w.category = 2 → am_get L j = some w → am_get (am_put L none j) k = some v → am_get L k = some v ∧ ¬ (k + 1 = j + 1 ∧ v.category = 2) := by
      intro w _ _ h2
      rw [am_get_eq, am_put_eq, List.getElem?_set] at h2
      by_cases e : j = k
      · rw [if_pos e] at h2
        split at h2 <;> cases h2
      · rw [if_neg e] at h2
        exact ⟨(am_get_eq _ _ _).mpr h2, fun q => e (by omega)⟩
    unfold am_clr at h
    split at h
    · rename_i heq; cases heq
    · rename_i j' heq
      cases heq
      split at h
      · rename_i x e
        exact key _ rfl e h
      · rename_i x e
        exact key _ rfl e h
      · rename_i n1 n2
        refine ⟨h, fun q => ?_⟩
        have e : k = j := by omega
        subst e
        cases v with
        | long x => exact n1 x h
        | double x => exact n2 x h
        | int _ => cases q.2
        | float _ => cases q.2
        | null => cases q.2
        | ref _ => cases q.2
        | retAddr _ => cases q.2
theorem am_get_set1 {L : AmL} {i k : Nat} {v w : Value} (h : am_get (am_set1 L i v) k = some w) : (k = i ∧ w = v) ∨ (k ≠ i ∧ am_get L k = some w ∧ ¬ (k + 1 = i ∧ w.category = 2)) := by
  unfold am_set1 at h
  rw [am_get_eq, am_put_eq, List.getElem?_set] at h
  by_cases e : i = k
  · rw [if_pos e] at h
    split at h
    · cases h
      exact Or.inl ⟨e.symm, rfl⟩
    · cases h
  · rw [if_neg e] at h
    exact Or.inr ⟨fun q => e q.symm, am_get_clr ((am_get_eq _ _ _).mpr h)⟩
theorem am_get_set2 {L : AmL} {i k : Nat} {v w : Value} (h : am_get (am_set2 L i v) k = some w) : (k = i ∧ w = v) ∨ (k ≠ i ∧ k ≠ i + 1 ∧ am_get L k = some w ∧ ¬ (k + 1 = i ∧ w.category = 2)) := by
  unfold am_set2 at h
  rw [am_get_eq, am_put_eq, List.getElem?_set] at h
  by_cases e : i + 1 = k
  · rw [if_pos e] at h
    split at h <;> cases h
  · rw [if_neg e, am_put_eq, List.getElem?_set] at h
    by_cases e2 : i = k
    · rw [if_pos e2] at h
      split at h
      · cases h
        exact Or.inl ⟨e2.symm, rfl⟩
      · cases h
    · rw [if_neg e2] at h
      exact Or.inr ⟨fun q => e2 q.symm, fun q => e q.symm, am_get_clr ((am_get_eq _ _ _).mpr h)⟩
theorem am_lr_set1 {ad sa : Nat → Nat} {ls' : Array Slot} {nL i : Nat} {L : AmL} {v : Value} (h' : lv_has ls' nL ((i, am_rv ad sa v) :: (am_lv ad sa L).filter (fun q => !(q.1 == i) && !(q.1 + 1 == i && q.2.category == 2)))) : am_lr ad sa ls' nL (am_set1 L i v) := by
  refine ⟨⟨h'.1, h'.2.1, fun q hq => nomatch hq⟩, fun k w hw => ?_⟩
  rcases am_get_set1 hw with ⟨e1, e2⟩ | ⟨e1, e2, e3⟩
  · subst e1; subst e2
    exact h'.2.2 _ List.mem_cons_self
  · refine h'.2.2 (k, am_rv ad sa w) (List.mem_cons_of_mem _ (List.mem_filter.mpr ⟨am_lv_mem e2, ?_⟩))
    have h1 : (k == i) = false := by simp [e1]
    have h2 : (k + 1 == i && (am_rv ad sa w).category == 2) = false := by
      rw [am_rv_cat]
      by_cases a : k + 1 = i
      · have b : ¬ w.category = 2 := fun q => e3 ⟨a, q⟩
        simp [b]
      · simp [a]
    show (!(k == i) && !(k + 1 == i && (am_rv ad sa w).category == 2)) = true
    rw [h1, h2]
    rfl
theorem am_lr_set2 {ad sa : Nat → Nat} {ls' : Array Slot} {nL i : Nat} {L : AmL} {v : Value} (h' : lv_has ls' nL ((i, am_rv ad sa v) :: (am_lv ad sa L).filter (fun q => !(q.1 == i) && (!(q.1 == i + 1) && !(q.1 + 1 == i && q.2.category == 2))))) : am_lr ad sa ls' nL (am_set2 L i v) := by
  refine ⟨⟨h'.1, h'.2.1, fun q hq => nomatch hq⟩, fun k w hw => ?_⟩
  rcases am_get_set2 hw with ⟨e1, e2⟩ | ⟨e1, e1', e2, e3⟩
  · subst e1; subst e2
    exact h'.2.2 _ List.mem_cons_self
  · refine h'.2.2 (k, am_rv ad sa w) (List.mem_cons_of_mem _ (List.mem_filter.mpr ⟨am_lv_mem e2, ?_⟩))
    have h1 : (k == i) = false := by simp [e1]
    have h1' : (k == i + 1) = false := by simp [e1']
    have h2 : (k + 1 == i && (am_rv ad sa w).category == 2) = false := by
      rw [am_rv_cat]
      by_cases a : k + 1 = i
      · have b : ¬ w.category = 2 := fun q => e3 ⟨a, q⟩
        simp [b]
      · simp [a]
    show (!(k == i) && (!(k == i + 1) && !(k + 1 == i && (am_rv ad sa w).category == 2))) = true
    rw [h1, h1', h2]
    rfl
def am_vk (k : Nat) (v : Value) : Bool := match k, v with
  | 0, .int _ => true
  | 0, .retAddr _ => true
  | 1, .int _ => true
  | 2, .long _ => true
  | _, _ => false
/-- what is checked of an entry of the code once and for all -/
noncomputable def am_stat (own mx : Nat) (i : Jvm.ClassFile.Instr) (len : Nat) (v : Value) : Bool := match i with
  | .iconst n => Nat.beq len 1 && decide (v = .int (Int32.ofInt n))
  | .bipush n => Nat.beq len 2 && decide (v = .int (Int8.ofInt n).toInt32)
  | .sipush n => Nat.beq len 3 && decide (v = .int (Int16.ofInt n).toInt32)
  | .lconst n => Nat.beq len 1 && decide (v = .long (Int64.ofNat n.val))
  | .ldc x => Nat.beq len 2 && (am_vk 0 v && decide (am_look (am_kl own) x = some v))
  | .ldc_w x => Nat.beq len 3 && (am_vk 1 v && decide (am_look (am_kl own) x = some v))
  | .ldc2_w x => Nat.beq len 3 && (am_vk 2 v && decide (am_look (am_kl own) x = some v))
  | .iload _ => Nat.beq len 2
  | .lload _ => Nat.beq len 2
  | .aload _ => Nat.beq len 2
  | .istore k => Nat.beq len 2 && Nat.blt k mx
  | .astore k => Nat.beq len 2 && Nat.blt k mx
  | .lstore k => Nat.beq len 2 && Nat.blt (k + 1) mx
  | .istore_n k => Nat.beq len 1 && Nat.blt k.val mx
  | .astore_n k => Nat.beq len 1 && Nat.blt k.val mx
  | .lstore_n k => Nat.beq len 1 && Nat.blt (k.val + 1) mx
  | .iinc k n => Nat.beq len 3 && (Nat.blt k mx && decide (v = .int (Int32.ofInt n)))
  | .goto _ => Nat.beq len 3
  | .ifCond _ _ => Nat.beq len 3
  | .if_icmp _ _ => Nat.beq len 3
  | .getfield _ => Nat.beq len 3
  | .putfield _ => Nat.beq len 3
  | .invokestatic _ => Nat.beq len 3
  | .invokevirtual _ => Nat.beq len 3
  | .invokespecial _ => Nat.beq len 3
  | .new _ => Nat.beq len 3
  | .checkcast _ => Nat.beq len 3
  | .anewarray _ => Nat.beq len 3
  | .newarray _ => Nat.beq len 2
  | .multianewarray _ _ => Nat.beq len 4
  | .tableswitch _ _ _ _ => true
  | _ => Nat.beq len 1

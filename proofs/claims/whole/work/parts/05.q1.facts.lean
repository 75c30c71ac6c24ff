/-! the words that the pools rest on: what is claimed of an entry -/
def am_gt : List Cond := lw_tbl.filter goodWord
theorem am_gL {w : Cond} (i : Nat) (h : lw_tbl[i]? = some w) (hg : goodWord w = true) : w ∈ am_gt := List.mem_filter.mpr ⟨List.mem_of_getElem? h, hg⟩
theorem am_gT {w : Cond} (i : Nat) (h : tables_1[i]? = some w) (hg : goodWord w = true) : w ∈ am_gt := List.mem_filter.mpr ⟨List.mem_append_right _ (List.mem_of_getElem? h), hg⟩
theorem am_gP {w : Cond} (i : Nat) (h : (k2_sels lw_privs)[i]? = some w) (hg : goodWord w = true) : w ∈ am_gt := List.mem_filter.mpr ⟨List.mem_append_left _ (List.mem_of_getElem? h), hg⟩
theorem am_gW (ws : List Cond) (ps : List Nat) (hp : ws = ps.filterMap (fun i => tables_1[i]?)) (hg : ws.all goodWord = true) : ∀ w ∈ ws, w ∈ am_gt := by
  intro w hw
  have h1 := List.all_eq_true.mp hg w hw
  rw [hp] at hw
  obtain ⟨i, -, hi⟩ := List.mem_filterMap.mp hw
  exact am_gT i hi h1
/-- the type of a field by its kind -/
def am_ftk (fk : Nat) (ty : FieldType) : Prop := (fk = 0 ∧ ty = .int) ∨ (fk = 1 ∧ ty = .boolean) ∨ (fk = 2 ∧ ((∃ C, ty = .object C) ∨ ∃ t, ty = .array t)) ∨ (fk = 3 ∧ ty = .long)
/-- what is known of a class -/
def am_CK (ci : Nat) (C : String) (T : u_T) (N : Nat) (ty : Nat → FieldType) : Prop := vwCl[ci]? = some (C, T, N) ∧ (∀ w ∈ u_ws C T N, w ∈ am_gt) ∧ (∀ k, k < N → parseFieldDescriptor (T k).2.2.1 = some (ty k)) ∧ (∀ a, a < N → ∀ b, b < N → a ≠ b → (T a).2.1 ≠ (T b).2.1)
/-- what is known of a field's entry -/
def am_FOK (own x : Nat) (e : Nat × Nat × Nat × Bool) : Prop := ∃ C T N ty, am_CK e.1 C T N ty ∧ e.2.1 < N ∧ Cond.fieldLink (am_on own) x C (T e.2.1).2.1 (T e.2.1).2.2.1 ∈ am_gt ∧ (T e.2.1).1 = C ∧ (T e.2.1).2.2.2 = e.2.2.2 ∧ am_ftk e.2.2.1 (ty e.2.1) ∧ (e.2.2.2 = true → am_cn e.1 = C)
/-- what is known of a method -/
def am_MK (m : AmM) : Prop := Cond.code m.1 m.2.1 m.2.2.2.1 m.2.2.2.2.1 ∈ am_gt ∧ Cond.initialized m.1.cls ∈ am_gt ∧ plainName m.1.cls = true ∧ (m.1.cls ≠ "java/lang/invoke/MethodHandle" ∧ m.1.cls ≠ "java/lang/invoke/VarHandle") ∧ m.1.cls = am_on m.2.2.1 ∧ m.2.2.2.1 ≤ 21
/-- the calls of private constructors -/
def am_N4 (own x : Nat) (y : MethodName) : Prop := (own = 11 ∧ x = 9 ∧ y = yX8_init) ∨ (own = 11 ∧ x = 18 ∧ y = yX7_init) ∨ (own = 11 ∧ x = 28 ∧ y = yX2_init) ∨ (own = 11 ∧ x = 110 ∧ y = yX3_init)
/-- what is known of a call's entry -/
def am_MLK (own x : Nat) (e : Nat × AmM × Nat × Nat) : Prop := am_MK e.2.1 ∧ (parseMethodDescriptor e.2.1.1.desc).map (fun d => d.parameters.length) = some e.2.2.1 ∧
  ((e.1 = 1 ∧ Cond.methodLink (am_on own) x e.2.1.1 ∈ am_gt ∧ Cond.instanceMethod e.2.1.1 ∈ am_gt ∧ e.2.1.1.name = "<init>") ∨
   (e.1 = 2 ∧ am_N4 own x e.2.1.1 ∧ Cond.instanceMethod e.2.1.1 ∈ am_gt ∧ e.2.1.1.name = "<init>") ∨
   (e.1 = 3 ∧ Cond.methodLink (am_on own) x e.2.1.1 ∈ am_gt ∧ Cond.instanceMethod e.2.1.1 ∈ am_gt ∧ Cond.selects e.2.1.1.cls e.2.1.1 e.2.1.1 ∈ am_gt ∧ ∃ q, vwCl[e.2.2.2]? = some q ∧ q.1 = e.2.1.1.cls) ∨
   (e.1 = 4 ∧ Cond.methodLink (am_on own) x e.2.1.1 ∈ am_gt ∧ Cond.static e.2.1.1 ∈ am_gt))

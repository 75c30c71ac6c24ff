/-! THE SMALL MACHINE (am_): types. A heap is a list of cells, a reference is a place in it; text constants are tokens (.retAddr j). -/
abbrev AmI : Type := Jvm.ClassFile.Instr × Nat × Value
abbrev AmM : Type := MethodName × ByteArray × Nat × Nat × Option FieldType × List (List (Option AmI))
abbrev AmE : Type := (FieldType × vp_A) ⊕ (Nat × List Value)
abbrev AmH : Type := List AmE
abbrev AmL : Type := List (Option Value)
abbrev AmR : Type := Option Value × AmH × Nat × Nat
/-- the k-th of a list -/
noncomputable def am_nth {α : Type} (l : List α) : Nat → Option α := List.rec (fun _ => none) (fun a _ ih k => Nat.rec (some a) (fun k _ => ih k) k) l
noncomputable def am_put {α : Type} (l : List α) (v : α) : Nat → List α := List.rec (fun _ => []) (fun a r ih k => Nat.rec (v :: r) (fun k _ => a :: ih k) k) l
noncomputable def am_look {α : Type} (l : List (Nat × α)) (i : Nat) : Option α := List.rec none (fun a _ ih => bif Nat.beq a.1 i then some a.2 else ih) l
noncomputable def am_at (c : List (List (Option AmI))) (pc : Nat) : Option AmI := match am_nth c (pc / 8) with
  | some r => (match am_nth r (pc % 8) with
    | some x => x
    | none => none)
  | none => none
theorem am_nth_eq {α : Type} : ∀ (l : List α) (k : Nat), am_nth l k = l[k]?
  | [], _ => rfl
  | _ :: _, 0 => rfl
  | _ :: l, k + 1 => am_nth_eq l k
theorem am_put_eq {α : Type} (v : α) : ∀ (l : List α) (k : Nat), am_put l v k = l.set k v
  | [], _ => rfl
  | _ :: _, 0 => rfl
  | a :: l, k + 1 => congrArg (a :: ·) (am_put_eq v l k)
theorem am_look_mem {α : Type} {i : Nat} {x : α} : ∀ {l : List (Nat × α)}, am_look l i = some x → (i, x) ∈ l
  | [], h => nomatch h
  | (j, y) :: l, h => by
    have h' : (bif Nat.beq j i then some y else am_look l i) = some x := h
    cases e : Nat.beq j i with
    | true =>
      rw [e] at h'
      have h2 : y = x := Option.some.inj h'
      have h3 := Nat.eq_of_beq_eq_true e
      subst h2; subst h3
      exact List.mem_cons_self
    | false =>
      rw [e] at h'
      exact List.mem_cons_of_mem _ (am_look_mem h')

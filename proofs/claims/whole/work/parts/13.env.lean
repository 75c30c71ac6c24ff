/-! soundness, part 6: what the start gives and every call hands on: text constants, statics, arrays of references, nest mates -/
theorem va_AOA.moved {t : FieldType} {u U : State} (hvm : u.vm.Alike U.vm) (h : va_AOA t u) : va_AOA t U := by
  unfold va_AOA Cond.before Cond.holds at h ⊢
  simp only [Cond.value] at h ⊢
  rw [hvm.findClass]
  cases hf : u.vm.findClass (FieldType.array t).toString with
  | none => rw [hf] at h; simp at h
  | some comp =>
    rw [hf] at h
    simp only [Option.bind_some] at h ⊢
    rw [hvm.findIdx_congr _ (fun _ _ _ _ => rfl)]
    generalize hF : (u.vm.classes.findIdx? fun (x : Class) => match x.kind with | .array component _ => component == comp | _ => false) = fi at h ⊢
    cases fi with
    | none => simp at h
    | some c =>
      simp only [Option.bind_some] at h ⊢
      cases hk : u.vm.classes[c]? with
      | none => rw [hk] at h; simp at h
      | some k =>
        obtain ⟨k', hk', ek⟩ := hvm.2.2 _ _ hk
        rw [hk] at h
        rw [hk', hvm.findClass]
        have ekind : k'.kind = k.kind := by rw [ek]
        simp only [Option.map_some] at h ⊢
        rw [ekind]
        exact h
def am_env (sa av : Nat → Nat) (A : Nat → Prop) (s : State) : Prop :=
  (vk_S 2 [1, 6] [[121], [118, 116, 110, 105, 115, 111]] sa av A s s.heap ∧ va_Z "java/lang/String" "COMPACT_STRINGS" "Z" (.int 1) A s s.heap ∧ va_Zq "jdk/internal/util/Preconditions" "SIOOBE_FORMATTER" "Ljava/util/function/BiFunction;" A s s.heap) ∧
  (vk_R RX12 26 "y" (sa 0) s ∧ vk_R RX12 32 "vtniso" (sa 1) s ∧ vk_R RX11 192 "no such kind" (sa 2) s) ∧
  (va_AO RX2 s ∧ va_AO RX6 s ∧ va_AO RX9 s ∧ va_AOA .int s) ∧
  (va_Nw (.methodLinkNest RX11 9 yX8_init "TillPipe") s ∧ va_Nw (.methodLinkNest RX11 18 yX7_init "TillPipe") s ∧ va_Nw (.methodLinkNest RX11 28 yX2_init "TillPipe") s ∧ va_Nw (.methodLinkNest RX11 110 yX3_init "TillPipe") s)
theorem am_env.move {sa av : Nat → Nat} {A B : Nat → Prop} {s U : State} {H : Heap} {locs : List Loc} (h : am_env sa av A s) (hS : va_S A s.heap H locs) (hAB : ∀ q, B q → A q) (hU : U.heap = H) (hW : s.WarmedH U.vm) : am_env sa av B U := by
  obtain ⟨⟨a1, a2, a3⟩, ⟨b1, b2, b3⟩, ⟨c1, c2, c3, c4⟩, d1, d2, d3, d4⟩ := h
  subst hU
  exact ⟨⟨((a1.kept hS.2.1).narrow hAB).moved hW.alike, ((a2.kept hS.2.1).narrow hAB).moved hW.alike, ((a3.kept hS.2.1).narrow hAB).moved hW.alike⟩, ⟨b1.warm hW, b2.warm hW, b3.warm hW⟩, ⟨c1.moved hW.alike, c2.moved hW.alike, c3.moved hW.alike, c4.moved hW.alike⟩, d1.warmM hW, d2.warmM hW, d3.warmM hW, d4.warmM hW⟩
theorem am_env.calling {sa av : Nat → Nat} {A : Nat → Prop} {U : State} {a : Array Value} {g : JFrame} {mk : MethodId} (h : am_env sa av A U) : am_env sa av A (U.calling g mk a) := by
  obtain ⟨⟨a1, a2, a3⟩, ⟨b1, b2, b3⟩, ⟨c1, c2, c3, c4⟩, d1, d2, d3, d4⟩ := h
  have hv : U.vm.Alike (U.calling g mk a).vm := Vm.Alike.refl U.vm
  exact ⟨⟨a1.moved hv, a2.moved hv, a3.moved hv⟩, ⟨b1.same rfl, b2.same rfl, b3.same rfl⟩, ⟨c1.moved hv, c2.moved hv, c3.moved hv, c4.moved hv⟩, d1.same rfl rfl, d2.same rfl rfl, d3.same rfl rfl, d4.same rfl rfl⟩

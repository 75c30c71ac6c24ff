/-! the JDK's String members over the model's two texts, and isAmong -/
def st_rm (n : Nat) : Room := { frames := n, cells := 0, slots := 0, locals := 40 * n }
def st_Q (rv : Option Value) : Array Value → State → Outcome → State → Prop := fun _ st o t => o = .returned rv ∧ t.heap = st.heap
def st_P (as : List Value) (sa av : Nat → Nat) (A : Nat → Prop) : Array Value → State → Prop := va_Pc as (fun U => am_env sa av A U)
def st_ws (y : MethodName) (b : ByteArray) (mx : Nat) (rt : Option FieldType) : List Cond := Cond.code y b mx rt :: am_gt
theorem st_blind {as : List Value} {sa av : Nat → Nat} {A : Nat → Prop} : FrameBlind (st_P as sa av A) := fun _ _ _ _ q => ⟨q.1, q.2.calling⟩
theorem st_GIv {own C : String} {x mx : Nat} {y : MethodName} {b : ByteArray} {rt : Option FieldType} (h1 : Cond.methodLink own x y ∈ am_gt) (h2 : Cond.instanceMethod y ∈ am_gt) (h3 : Cond.selects C y y ∈ am_gt) (h4 : Cond.initialized C ∈ am_gt) (h5 : Cond.code y b mx rt ∈ am_gt) : GoodIn am_gt (wsV own x C y (st_ws y b mx rt)) := am_GI (fun w hw => by
  rcases List.mem_append.mp hw with h | h
  · rcases List.mem_cons.mp h with rfl | h
    · exact h1
    · rcases List.mem_cons.mp h with rfl | h
      · exact h2
      · rcases List.mem_cons.mp h with rfl | h
        · exact h3
        · rcases List.mem_cons.mp h with rfl | h
          · exact h4
          · exact nomatch h
  · rcases List.mem_cons.mp h with rfl | h
    · exact h5
    · exact h)
theorem st_GIs {own : String} {x mx : Nat} {y : MethodName} {b : ByteArray} {rt : Option FieldType} (h1 : Cond.methodLink own x y ∈ am_gt) (h2 : Cond.static y ∈ am_gt) (h4 : Cond.initialized y.cls ∈ am_gt) (h5 : Cond.code y b mx rt ∈ am_gt) : GoodIn am_gt (va_wsS own x y (st_ws y b mx rt)) := am_GI (fun w hw => by
  rcases List.mem_append.mp hw with h | h
  · rcases List.mem_cons.mp h with rfl | h
    · exact h1
    · rcases List.mem_cons.mp h with rfl | h
      · exact h2
      · rcases List.mem_cons.mp h with rfl | h
        · exact h4
        · exact nomatch h
  · rcases List.mem_cons.mp h with rfl | h
    · exact h5
    · exact h)
section StCall
variable {p : Program} {l : Launch} {e : Env} {R : Room} {s : State} {m : MethodId} {args a : Array Value} {below : List Frame} {meth : Method} {c : Code} {H : Heap} {locs : List Loc} {cells slots : Nat} {Q : State → Prop}
theorem st_call {pc : Nat} {ls : Array Slot} {st0 rest : List Value} {rv : Option Value} (hr : va_Run p l e R s m args below meth c H locs cells slots 0 0 (F0 m pc ls st0) rest (st_Q rv a) (fun _ => False)) (kk : W p l e R s m args below meth c H locs cells slots Q (F0 m (pc + 3) ls (rv.toList ++ rest))) : W p l e R s m args below meth c H locs cells slots Q (F0 m pc ls st0) := by
  intro T hT X
  obtain ⟨v, st₀, t', T', L, h0, X', hL, e1, e2, ⟨hv, hh⟩, st⟩ := hr T hT X
  cases hv
  obtain ⟨t2, a1, b1⟩ := kk T' (by rw [e1, hh, h0]) (Stand.forget X' (fun q h => (hL q h).elim))
  exact ⟨t2, st t2 a1, b1⟩
end StCall
theorem st_coder (l : Launch) (sa av : Nat → Nat) (A : Nat → Prop) (j : Nat) (hj : j < 2) : Met l yJ0_coder_7d493 (st_ws yJ0_coder_7d493 cJ0_coder_7d493 1 (some .byte)) (st_rm 1) (st_P [.ref (sa j)] sa av A) (st_Q (some (.int 0))) 0 0 (fun _ => False) := by
  refine Met.ofW (cc := cJ0_coder_7d493) (maxL := 1) (ret := some .byte) (by decide +kernel) rfl ?_
  intro p e s m args below meth c s₁ B hml hv
  obtain ⟨rfl, hen⟩ := hv
  have hx := B.exec
  have hb := B.bytes
  have hr := B.returns
  have hlocks := B.notSynchronized
  have hts0 := atoms_spec (ws := st_ws yJ0_coder_7d493 cJ0_coder_7d493 1 (some .byte)) B.pre
  have hts : ∀ w ∈ am_gt, w.before ([Value.ref (sa j)] : List Value).toArray s = true := fun w hw => hts0 w (List.mem_cons_of_mem _ hw)
  have hown : s.vm.findClass "java/lang/String" = some m.cls := findClass_of_methodNamed B.named
  have hS : va_S A s.heap s.heap [] := va_S.rf
  have hl := lv_entry ([.ref (sa j)]) (n := 1) (Nat.le_of_ble_eq_true rfl)
  rw [lg_entry_eq]
  generalize (lg_sl ([.ref (sa j)]) ++ List.replicate (1 - (lg_sl ([.ref (sa j)])).length) Slot.unset).toArray = ls at hl ⊢
  refine va_gets hx hb hen.1.2.1 hS hown (hts _ sf_cs) (fun _ q => q) dJ0_coder_7d493_0 ?_
  refine lv_if_eq (tgt := 13) hx hb dJ0_coder_7d493_3 (by decide) (fun q => absurd q (by decide)) (fun _ => ?_)
  refine lv_aload_n hx hb dJ0_coder_7d493_6 rfl (lv_at hl 0 rfl) ?_
  refine vk_getf hx hb (hen.1.1.1 j hj).2.1 hS hown (hts _ sf_co) (fun _ q => q) dJ0_coder_7d493_7 ?_
  refine lv_goto (tgt := 14) hx hb dJ0_coder_7d493_10 (by decide) ?_
  exact W.zret hx hb hr (by decide +kernel) (fun t ht _ => ⟨rfl, ht⟩) (fun _ h => nomatch h) dJ0_coder_7d493_14 hlocks
theorem st_isL (l : Launch) (sa av : Nat → Nat) (A : Nat → Prop) (j : Nat) (hj : j < 2) : Met l yJ0_isLatin1_aae02 (st_ws yJ0_isLatin1_aae02 cJ0_isLatin1_aae02 1 (some .boolean)) (st_rm 1) (st_P [.ref (sa j)] sa av A) (st_Q (some (.int 1))) 0 0 (fun _ => False) := by
  refine Met.ofW (cc := cJ0_isLatin1_aae02) (maxL := 1) (ret := some .boolean) (by decide +kernel) rfl ?_
  intro p e s m args below meth c s₁ B hml hv
  obtain ⟨rfl, hen⟩ := hv
  have hx := B.exec
  have hb := B.bytes
  have hr := B.returns
  have hlocks := B.notSynchronized
  have hts0 := atoms_spec (ws := st_ws yJ0_isLatin1_aae02 cJ0_isLatin1_aae02 1 (some .boolean)) B.pre
  have hts : ∀ w ∈ am_gt, w.before ([Value.ref (sa j)] : List Value).toArray s = true := fun w hw => hts0 w (List.mem_cons_of_mem _ hw)
  have hown : s.vm.findClass "java/lang/String" = some m.cls := findClass_of_methodNamed B.named
  have hS : va_S A s.heap s.heap [] := va_S.rf
  have hl := lv_entry ([.ref (sa j)]) (n := 1) (Nat.le_of_ble_eq_true rfl)
  rw [lg_entry_eq]
  generalize (lg_sl ([.ref (sa j)]) ++ List.replicate (1 - (lg_sl ([.ref (sa j)])).length) Slot.unset).toArray = ls at hl ⊢
  refine va_gets hx hb hen.1.2.1 hS hown (hts _ sf_cs) (fun _ q => q) dJ0_isLatin1_aae02_0 ?_
  refine lv_if_eq (tgt := 17) hx hb dJ0_isLatin1_aae02_3 (by decide) (fun q => absurd q (by decide)) (fun _ => ?_)
  refine lv_aload_n hx hb dJ0_isLatin1_aae02_6 rfl (lv_at hl 0 rfl) ?_
  refine vk_getf hx hb (hen.1.1.1 j hj).2.1 hS hown (hts _ sf_co) (fun _ q => q) dJ0_isLatin1_aae02_7 ?_
  refine lv_if_ne (tgt := 17) hx hb dJ0_isLatin1_aae02_10 (by decide) (fun q => absurd rfl q) (fun _ => ?_)
  refine lv_iconst (v := 1) hx hb dJ0_isLatin1_aae02_13 (by decide) ?_
  refine lv_goto (tgt := 18) hx hb dJ0_isLatin1_aae02_14 (by decide) ?_
  exact W.zret hx hb hr (by decide +kernel) (fun t ht _ => ⟨rfl, ht⟩) (fun _ h => nomatch h) dJ0_isLatin1_aae02_18 hlocks
theorem st_length (l : Launch) (sa av : Nat → Nat) (A : Nat → Prop) (j : Nat) (hj : j < 2) : Met l yJ0_length_8abf5 (st_ws yJ0_length_8abf5 cJ0_length_8abf5 1 (some .int)) (st_rm 3) (st_P [.ref (sa j)] sa av A) (st_Q (some (.int (Int32.ofNat (([1, 6] : List Nat).getD j 0) >>> ((0 : Int32) &&& 31))))) 0 0 (fun _ => False) := by
  refine Met.ofW (cc := cJ0_length_8abf5) (maxL := 1) (ret := some .int) (by decide +kernel) rfl ?_
  intro p e s m args below meth c s₁ B hml hv
  obtain ⟨rfl, hen⟩ := hv
  have hx := B.exec
  have hb := B.bytes
  have hr := B.returns
  have hlocks := B.notSynchronized
  have hts0 := atoms_spec (ws := st_ws yJ0_length_8abf5 cJ0_length_8abf5 1 (some .int)) B.pre
  have hts : ∀ w ∈ am_gt, w.before ([Value.ref (sa j)] : List Value).toArray s = true := fun w hw => hts0 w (List.mem_cons_of_mem _ hw)
  have hown : s.vm.findClass "java/lang/String" = some m.cls := findClass_of_methodNamed B.named
  have hS : va_S A s.heap s.heap [] := va_S.rf
  have hl := lv_entry ([.ref (sa j)]) (n := 1) (Nat.le_of_ble_eq_true rfl)
  rw [lg_entry_eq]
  generalize (lg_sl ([.ref (sa j)]) ++ List.replicate (1 - (lg_sl ([.ref (sa j)])).length) Slot.unset).toArray = ls at hl ⊢
  refine lv_aload_n hx hb dJ0_length_8abf5_0 rfl (lv_at hl 0 rfl) ?_
  refine vk_getf hx hb (hen.1.1.1 j hj).2.2.1 hS hown (hts _ sf_va) (fun _ q => q) dJ0_length_8abf5_1 ?_
  refine va_tlen hx hb (hen.1.1.1 j hj).2.2.2 hS rfl dJ0_length_8abf5_4 ?_
  refine lv_aload_n hx hb dJ0_length_8abf5_5 rfl (lv_at hl 0 rfl) ?_
  refine st_call (va_runV (C := "java/lang/String") (b := sa j) (As := []) (rest := [.int (Int32.ofNat (([1, 6] : List Nat).getD j 0))]) ⟨hx, hb, hml, hown, hts⟩ (st_coder l sa av A j hj) (cwV 0 hts (st_GIv sl_co si_coder ss_coder sj_S sc_coder) rfl rfl rfl (by decide +kernel) ⟨by decide, by decide⟩) ⟨st_blind, vk_recv hen.1.1 hj hS, fun U hU hw => ⟨rfl, hen.move hS (fun _ h => h) hU hw⟩⟩ rfl rfl hl.1 rfl (lv_room (Nat.le_of_ble_eq_true rfl)) dJ0_length_8abf5_6 ⟨Nat.le_refl _, Nat.le_refl _⟩) ?_
  refine lv_ishr hx hb dJ0_length_8abf5_9 ?_
  exact W.iret hx hb hr (fun t ht _ => ⟨rfl, ht⟩) (fun _ h => nomatch h) dJ0_length_8abf5_10 hlocks
theorem st_chk3 (l : Launch) (sa av : Nat → Nat) (A : Nat → Prop) (i n : Int32) (v : Value) (h1 : ¬ i < 0) (h2 : i < n) (hc : v.category = 1) : Met l yJ3_checkIndex_8e157 (st_ws yJ3_checkIndex_8e157 cJ3_checkIndex_8e157 3 (some .int)) (st_rm 1) (st_P [.int i, .int n, v] sa av A) (st_Q (some (.int i))) 0 0 (fun _ => False) := by
  refine Met.ofW (cc := cJ3_checkIndex_8e157) (maxL := 3) (ret := some .int) (by decide +kernel) rfl ?_
  intro p e s m args below meth c s₁ B hml hv
  obtain ⟨rfl, hen⟩ := hv
  have hx := B.exec
  have hb := B.bytes
  have hr := B.returns
  have hlocks := B.notSynchronized
  have hlen : (lg_sl ([.int i, .int n, v])).length = 3 := by
    show (([Slot.val (.int i), Slot.val (.int n)] : List Slot) ++ (((if v.category = 2 then [Slot.val v, Slot.second] else [Slot.val v]) : List Slot) ++ [])).length = 3
    rw [hc, if_neg (by decide)]
    rfl
  have hl := lv_entry ([.int i, .int n, v]) (n := 3) (by rw [hlen]; exact Nat.le_refl 3)
  rw [lg_entry_eq]
  generalize (lg_sl ([.int i, .int n, v]) ++ List.replicate (3 - (lg_sl ([.int i, .int n, v])).length) Slot.unset).toArray = ls at hl ⊢
  refine lv_iload_n hx hb dJ3_checkIndex_8e157_0 rfl (lv_at hl 0 rfl) ?_
  refine lv_if_lt (tgt := 9) hx hb dJ3_checkIndex_8e157_1 (by decide) (fun q => absurd q h1) (fun _ => ?_)
  refine lv_iload_n hx hb dJ3_checkIndex_8e157_4 rfl (lv_at hl 0 rfl) ?_
  refine lv_iload_n hx hb dJ3_checkIndex_8e157_5 rfl (lv_at hl 1 rfl) ?_
  refine lv_icmp_lt (tgt := 16) hx hb dJ3_checkIndex_8e157_6 (by decide) (fun _ => ?_) (fun q => absurd h2 q)
  refine lv_iload_n hx hb dJ3_checkIndex_8e157_16 rfl (lv_at hl 0 rfl) ?_
  exact W.iret hx hb hr (fun t ht _ => ⟨rfl, ht⟩) (fun _ h => nomatch h) dJ3_checkIndex_8e157_17 hlocks
theorem st_chk0 (l : Launch) (sa av : Nat → Nat) (A : Nat → Prop) (i n : Int32) (h1 : ¬ i < 0) (h2 : i < n) : Met l yJ0_checkIndex_df160 (st_ws yJ0_checkIndex_df160 cJ0_checkIndex_df160 2 none) (st_rm 3) (st_P [.int i, .int n] sa av A) (st_Q none) 0 0 (fun _ => False) := by
  refine Met.ofW (cc := cJ0_checkIndex_df160) (maxL := 2) (ret := none) (by decide +kernel) rfl ?_
  intro p e s m args below meth c s₁ B hml hv
  obtain ⟨rfl, hen⟩ := hv
  have hx := B.exec
  have hb := B.bytes
  have hr := B.returns
  have hlocks := B.notSynchronized
  have hts0 := atoms_spec (ws := st_ws yJ0_checkIndex_df160 cJ0_checkIndex_df160 2 none) B.pre
  have hts : ∀ w ∈ am_gt, w.before ([Value.int i, Value.int n] : List Value).toArray s = true := fun w hw => hts0 w (List.mem_cons_of_mem _ hw)
  have hown : s.vm.findClass "java/lang/String" = some m.cls := findClass_of_methodNamed B.named
  have hS : va_S A s.heap s.heap [] := va_S.rf
  have hl := lv_entry ([.int i, .int n]) (n := 2) (Nat.le_of_ble_eq_true rfl)
  rw [lg_entry_eq]
  generalize (lg_sl ([.int i, .int n]) ++ List.replicate (2 - (lg_sl ([.int i, .int n])).length) Slot.unset).toArray = ls at hl ⊢
  refine lv_iload_n hx hb dJ0_checkIndex_df160_0 rfl (lv_at hl 0 rfl) ?_
  refine lv_iload_n hx hb dJ0_checkIndex_df160_1 rfl (lv_at hl 1 rfl) ?_
  have go : ∀ v : Value, v.category = 1 → W p l e (headSpec (st_ws yJ0_checkIndex_df160 cJ0_checkIndex_df160 2 none) (st_rm 3)).room s m ([Value.int i, Value.int n] : List Value).toArray below meth c s.heap [] 0 0 (MQ below (st_Q none) ([Value.int i, Value.int n] : List Value).toArray s 0 0 (fun _ => False)) (F0 m (2 + 3) ls (v :: .int n :: .int i :: [])) := by
    intro v hc
    refine st_call (va_runS (As := [.int i, .int n, v]) (rest := []) ⟨hx, hb, hml, hown, hts⟩ (st_chk3 l sa av A i n v h1 h2 hc) (va_cwS 3 hts (st_GIs sl_chk3 sx_chk3 sj_P sc_chk3) rfl rfl rfl (by decide +kernel) ⟨by decide, by decide⟩) ⟨st_blind, fun U hU hw => ⟨rfl, hen.move hS (fun _ h => h) hU hw⟩⟩ rfl rfl hl.1 rfl (lv_room (Nat.le_of_ble_eq_true rfl)) dJ0_checkIndex_df160_5 ⟨Nat.le_refl _, Nat.le_refl _⟩) ?_
    refine lv_pop hx hb dJ0_checkIndex_df160_8 rfl ?_
    exact W.vret hx hb hr (fun t ht _ => ⟨rfl, ht⟩) (fun _ h => nomatch h) dJ0_checkIndex_df160_9 hlocks
  rcases hen.1.2.2 with hZ | ⟨t0, hZ⟩
  · exact va_gets hx hb hZ hS hown (hts _ sf_fm) (fun _ q => q) dJ0_checkIndex_df160_2 (go .null rfl)
  · exact va_gets hx hb hZ hS hown (hts _ sf_fm) (fun _ q => q) dJ0_checkIndex_df160_2 (go (.ref t0) rfl)
theorem st_chr : ∀ j, j < 2 → ∀ k, k < ([1, 6] : List Nat).getD j 0 → ((((([[121], [118, 116, 110, 105, 115, 111]] : List (List Int32)).getD j []).getD k 0) &&& 255).toUInt32 % 65536).toInt32 = (am_txt j).getD k 0 ∧ narrow .char (.int ((am_txt j).getD k 0)) = .int ((am_txt j).getD k 0) ∧ ¬ nI k < 0 ∧ nI k < Int32.ofNat (([1, 6] : List Nat).getD j 0) ∧ (nI k).toNatClampNeg = k ∧ ¬ (nI k < 0 ∨ ([1, 6] : List Nat).getD j 0 ≤ (nI k).toNatClampNeg) := by decide +kernel
theorem st_ch1 (l : Launch) (sa av : Nat → Nat) (A : Nat → Prop) (j k : Nat) (hj : j < 2) (hk : k < ([1, 6] : List Nat).getD j 0) : Met l yJ1_charAt_3b067 (st_ws yJ1_charAt_3b067 cJ1_charAt_3b067 2 (some .char)) (st_rm 5) (st_P [.ref (av j), .int (nI k)] sa av A) (st_Q (some (.int ((am_txt j).getD k 0)))) 0 0 (fun _ => False) := by
  obtain ⟨c1, c2, c3, c4, c5, c6⟩ := st_chr j hj k hk
  refine Met.ofW (cc := cJ1_charAt_3b067) (maxL := 2) (ret := some .char) (by decide +kernel) rfl ?_
  intro p e s m args below meth c s₁ B hml hv
  obtain ⟨rfl, hen⟩ := hv
  have hx := B.exec
  have hb := B.bytes
  have hr := B.returns
  have hlocks := B.notSynchronized
  have hts0 := atoms_spec (ws := st_ws yJ1_charAt_3b067 cJ1_charAt_3b067 2 (some .char)) B.pre
  have hts : ∀ w ∈ am_gt, w.before ([Value.ref (av j), Value.int (nI k)] : List Value).toArray s = true := fun w hw => hts0 w (List.mem_cons_of_mem _ hw)
  have hown : s.vm.findClass "java/lang/StringLatin1" = some m.cls := findClass_of_methodNamed B.named
  have hS : va_S A s.heap s.heap [] := va_S.rf
  have hl := lv_entry ([.ref (av j), .int (nI k)]) (n := 2) (Nat.le_of_ble_eq_true rfl)
  rw [lg_entry_eq]
  generalize (lg_sl ([.ref (av j), .int (nI k)]) ++ List.replicate (2 - (lg_sl ([.ref (av j), .int (nI k)])).length) Slot.unset).toArray = ls at hl ⊢
  refine lv_iload_n hx hb dJ1_charAt_3b067_0 rfl (lv_at hl 1 rfl) ?_
  refine lv_aload_n hx hb dJ1_charAt_3b067_1 rfl (lv_at hl 0 rfl) ?_
  refine va_tlen hx hb (hen.1.1.1 j hj).2.2.2 hS rfl dJ1_charAt_3b067_2 ?_
  refine st_call (va_runS (As := [.int (nI k), .int (Int32.ofNat (([1, 6] : List Nat).getD j 0))]) (rest := []) ⟨hx, hb, hml, hown, hts⟩ (st_chk0 l sa av A _ _ c3 c4) (va_cwS 2 hts (st_GIs sl_chk0 sx_chk0 sj_S sc_chk0) rfl rfl rfl (by decide +kernel) ⟨by decide, by decide⟩) ⟨st_blind, fun U hU hw => ⟨rfl, hen.move hS (fun _ h => h) hU hw⟩⟩ rfl rfl hl.1 rfl (lv_room (Nat.le_of_ble_eq_true rfl)) dJ1_charAt_3b067_3 ⟨Nat.le_refl _, Nat.le_refl _⟩) ?_
  refine lv_aload_n hx hb dJ1_charAt_3b067_6 rfl (lv_at hl 0 rfl) ?_
  refine lv_iload_n hx hb dJ1_charAt_3b067_7 rfl (lv_at hl 1 rfl) ?_
  refine va_tb hx hb (hen.1.1.1 j hj).2.2.2 hS c6 rfl dJ1_charAt_3b067_8 ?_
  refine lv_sipush (v := 255) hx hb dJ1_charAt_3b067_9 (by decide +kernel) ?_
  refine lv_iand hx hb dJ1_charAt_3b067_12 ?_
  refine lv_i2c (v := (am_txt j).getD k 0) hx hb dJ1_charAt_3b067_13 (by rw [c5]; exact c1) ?_
  exact W.zret hx hb hr c2 (fun t ht _ => ⟨rfl, ht⟩) (fun _ h => nomatch h) dJ1_charAt_3b067_14 hlocks
theorem st_ch0 (l : Launch) (sa av : Nat → Nat) (A : Nat → Prop) (j k : Nat) (hj : j < 2) (hk : k < ([1, 6] : List Nat).getD j 0) : Met l yJ0_charAt_5068e (st_ws yJ0_charAt_5068e cJ0_charAt_5068e 2 (some .char)) (st_rm 6) (st_P [.ref (sa j), .int (nI k)] sa av A) (st_Q (some (.int ((am_txt j).getD k 0)))) 0 0 (fun _ => False) := by
  obtain ⟨c1, c2, c3, c4, c5, c6⟩ := st_chr j hj k hk
  refine Met.ofW (cc := cJ0_charAt_5068e) (maxL := 2) (ret := some .char) (by decide +kernel) rfl ?_
  intro p e s m args below meth c s₁ B hml hv
  obtain ⟨rfl, hen⟩ := hv
  have hx := B.exec
  have hb := B.bytes
  have hr := B.returns
  have hlocks := B.notSynchronized
  have hts0 := atoms_spec (ws := st_ws yJ0_charAt_5068e cJ0_charAt_5068e 2 (some .char)) B.pre
  have hts : ∀ w ∈ am_gt, w.before ([Value.ref (sa j), Value.int (nI k)] : List Value).toArray s = true := fun w hw => hts0 w (List.mem_cons_of_mem _ hw)
  have hown : s.vm.findClass "java/lang/String" = some m.cls := findClass_of_methodNamed B.named
  have hS : va_S A s.heap s.heap [] := va_S.rf
  have hl := lv_entry ([.ref (sa j), .int (nI k)]) (n := 2) (Nat.le_of_ble_eq_true rfl)
  rw [lg_entry_eq]
  generalize (lg_sl ([.ref (sa j), .int (nI k)]) ++ List.replicate (2 - (lg_sl ([.ref (sa j), .int (nI k)])).length) Slot.unset).toArray = ls at hl ⊢
  refine lv_aload_n hx hb dJ0_charAt_5068e_0 rfl (lv_at hl 0 rfl) ?_
  refine st_call (va_runV (C := "java/lang/String") (b := sa j) (As := []) (rest := []) ⟨hx, hb, hml, hown, hts⟩ (st_isL l sa av A j hj) (cwV 0 hts (st_GIv sl_isL si_isL ss_isL sj_S sc_isL) rfl rfl rfl (by decide +kernel) ⟨by decide, by decide⟩) ⟨st_blind, vk_recv hen.1.1 hj hS, fun U hU hw => ⟨rfl, hen.move hS (fun _ h => h) hU hw⟩⟩ rfl rfl hl.1 rfl (lv_room (Nat.le_of_ble_eq_true rfl)) dJ0_charAt_5068e_1 ⟨Nat.le_refl _, Nat.le_refl _⟩) ?_
  refine lv_if_eq (tgt := 16) hx hb dJ0_charAt_5068e_4 (by decide) (fun q => absurd q (by decide)) (fun _ => ?_)
  refine lv_aload_n hx hb dJ0_charAt_5068e_7 rfl (lv_at hl 0 rfl) ?_
  refine vk_getf hx hb (hen.1.1.1 j hj).2.2.1 hS hown (hts _ sf_va) (fun _ q => q) dJ0_charAt_5068e_8 ?_
  refine lv_iload_n hx hb dJ0_charAt_5068e_11 rfl (lv_at hl 1 rfl) ?_
  refine st_call (va_runS (As := [.ref (av j), .int (nI k)]) (rest := []) ⟨hx, hb, hml, hown, hts⟩ (st_ch1 l sa av A j k hj hk) (va_cwS 2 hts (st_GIs sl_ch1 sx_ch1 sj_S1 sc_ch1) rfl rfl rfl (by decide +kernel) ⟨by decide, by decide⟩) ⟨st_blind, fun U hU hw => ⟨rfl, hen.move hS (fun _ h => h) hU hw⟩⟩ rfl rfl hl.1 rfl (lv_room (Nat.le_of_ble_eq_true rfl)) dJ0_charAt_5068e_12 ⟨Nat.le_refl _, Nat.le_refl _⟩) ?_
  exact W.zret hx hb hr c2 (fun t ht _ => ⟨rfl, ht⟩) (fun _ h => nomatch h) dJ0_charAt_5068e_15 hlocks
theorem st_len : ∀ j, j < 2 → Int32.ofNat (([1, 6] : List Nat).getD j 0) >>> ((0 : Int32) &&& 31) = nI (([1, 6] : List Nat).getD j 0) ∧ ([1, 6] : List Nat).getD j 0 = (am_txt j).length ∧ ([1, 6] : List Nat).getD j 0 ≤ 6 := by decide +kernel
theorem st_amg (t : Int32) : ∀ (l : List Int32) (k : Nat), k < l.length → am_among (l.drop k) t = if l.getD k 0 = t then 1 else am_among (l.drop (k + 1)) t := by
  intro l k hk
  have e : l.drop k = l.getD k 0 :: l.drop (k + 1) := by
    rw [List.drop_eq_getElem_cons hk]
    congr 1
    simp [hk]
  rw [e]
  rfl
set_option maxHeartbeats 4000000 in
/-- the contract of isAmong -/
theorem am_ia (l : Launch) : am_IA l := by
  intro sa av A j t hj
  obtain ⟨b1, b2, b3⟩ := st_len j hj
  refine Met.ofW (cc := cX12_isAmong) (maxL := 3) (ret := some .boolean) (by decide +kernel) rfl ?_
  intro p e s m args below meth c s₁ B hml hv
  obtain ⟨rfl, hen⟩ := hv
  have hx := B.exec
  have hb := B.bytes
  have hr := B.returns
  have hlocks := B.notSynchronized
  have hts0 := atoms_spec (ws := Cond.code yX12_isAmong cX12_isAmong 3 (some .boolean) :: am_gt) B.pre
  have hts : ∀ w ∈ am_gt, w.before ([Value.ref (sa j), Value.int t] : List Value).toArray s = true := fun w hw => hts0 w (List.mem_cons_of_mem _ hw)
  have hown : s.vm.findClass "TillPipeModel" = some m.cls := findClass_of_methodNamed B.named
  have hS : va_S A s.heap s.heap [] := va_S.rf
  have hl := lv_entry ([.ref (sa j), .int t]) (n := 3) (Nat.le_of_ble_eq_true rfl)
  rw [lg_entry_eq]
  generalize (lg_sl ([.ref (sa j), .int t]) ++ List.replicate (3 - (lg_sl ([.ref (sa j), .int t])).length) Slot.unset).toArray = ls at hl ⊢
  have hl : lv_has ls 3 [(0, .ref (sa j)), (1, .int t)] := hl
  have loop : ∀ (n k : Nat) (ls : Array Slot), k + n = ([1, 6] : List Nat).getD j 0 → lv_has ls 3 [(2, .int (nI k)), (0, .ref (sa j)), (1, .int t)] → W p l e (headSpec (Cond.code yX12_isAmong cX12_isAmong 3 (some .boolean) :: am_gt) { frames := 8, cells := 0, slots := 0, locals := 300 }).room s m ([Value.ref (sa j), Value.int t] : List Value).toArray below meth c s.heap [] 0 0 (MQ below (fun _ st o t' => o = .returned (some (.int (am_among ((am_txt j).drop k) t))) ∧ t'.heap = st.heap) ([Value.ref (sa j), Value.int t] : List Value).toArray s 0 0 (fun _ => False)) (F0 m 2 ls []) := by
    intro n
    induction n with
    | zero =>
      intro k ls hk hl
      have hk : k = ([1, 6] : List Nat).getD j 0 := by omega
      refine lv_iload_n hx hb dX12_isAmong_2 rfl (lv_at hl 0 rfl) ?_
      refine lv_aload_n hx hb dX12_isAmong_3 rfl (lv_at hl 1 rfl) ?_
      refine st_call (va_runV (C := "java/lang/String") (b := sa j) (As := []) (rest := [.int (nI k)]) ⟨hx, hb, hml, hown, hts⟩ (st_length l sa av A j hj) (cwV 0 hts (st_GIv sl_len si_length ss_length sj_S sc_length) rfl rfl rfl (by decide +kernel) ⟨by decide, by decide⟩) ⟨st_blind, vk_recv hen.1.1 hj hS, fun U hU hw => ⟨rfl, hen.move hS (fun _ h => h) hU hw⟩⟩ rfl rfl hl.1 rfl (lv_room (Nat.le_of_ble_eq_true rfl)) dX12_isAmong_4 ⟨Nat.le_refl _, Nat.le_refl _⟩) ?_
      rw [b1]
      refine lv_icmp_ge (tgt := 27) hx hb dX12_isAmong_7 (by decide) (fun _ => ?_) (fun q => absurd (nI_le (by omega) (by omega)) q)
      refine lv_iconst (v := 0) hx hb dX12_isAmong_27 (by decide) ?_
      have e0 : am_among ((am_txt j).drop k) t = 0 := by
        rw [hk, b2, List.drop_length]
        rfl
      rw [e0]
      exact W.zret hx hb hr (by decide +kernel) (fun t ht _ => ⟨rfl, ht⟩) (fun _ h => nomatch h) dX12_isAmong_28 hlocks
    | succ n ih =>
      intro k ls hk hl
      have hkl : k < ([1, 6] : List Nat).getD j 0 := by omega
      refine lv_iload_n hx hb dX12_isAmong_2 rfl (lv_at hl 0 rfl) ?_
      refine lv_aload_n hx hb dX12_isAmong_3 rfl (lv_at hl 1 rfl) ?_
      refine st_call (va_runV (C := "java/lang/String") (b := sa j) (As := []) (rest := [.int (nI k)]) ⟨hx, hb, hml, hown, hts⟩ (st_length l sa av A j hj) (cwV 0 hts (st_GIv sl_len si_length ss_length sj_S sc_length) rfl rfl rfl (by decide +kernel) ⟨by decide, by decide⟩) ⟨st_blind, vk_recv hen.1.1 hj hS, fun U hU hw => ⟨rfl, hen.move hS (fun _ h => h) hU hw⟩⟩ rfl rfl hl.1 rfl (lv_room (Nat.le_of_ble_eq_true rfl)) dX12_isAmong_4 ⟨Nat.le_refl _, Nat.le_refl _⟩) ?_
      rw [b1]
      refine lv_icmp_ge (tgt := 27) hx hb dX12_isAmong_7 (by decide) (fun q => absurd q (nI_ge hkl (by omega))) (fun _ => ?_)
      refine lv_aload_n hx hb dX12_isAmong_10 rfl (lv_at hl 1 rfl) ?_
      refine lv_iload_n hx hb dX12_isAmong_11 rfl (lv_at hl 0 rfl) ?_
      refine st_call (va_runV (C := "java/lang/String") (b := sa j) (As := [.int (nI k)]) (rest := []) ⟨hx, hb, hml, hown, hts⟩ (st_ch0 l sa av A j k hj hkl) (cwV 1 hts (st_GIv sl_ch0 si_ch0 ss_ch0 sj_S sc_ch0) rfl rfl rfl (by decide +kernel) ⟨by decide, by decide⟩) ⟨st_blind, vk_recv hen.1.1 hj hS, fun U hU hw => ⟨rfl, hen.move hS (fun _ h => h) hU hw⟩⟩ rfl rfl hl.1 rfl (lv_room (Nat.le_of_ble_eq_true rfl)) dX12_isAmong_12 ⟨Nat.le_refl _, Nat.le_refl _⟩) ?_
      refine lv_iload_n hx hb dX12_isAmong_15 rfl (lv_at hl 2 rfl) ?_
      rw [st_amg t (am_txt j) k (by omega)]
      refine lv_icmp_ne (tgt := 21) hx hb dX12_isAmong_16 (by decide) (fun q => ?_) (fun q => ?_)
      · rw [if_neg q]
        refine lv_iinc (v := nI (k + 1)) (lv' := [(2, .int (nI (k + 1))), (0, .ref (sa j)), (1, .int t)]) hx hb dX12_isAmong_21 hl (k := 0) rfl (nI_1 k) (by decide) rfl (fun ls hl => ?_)
        refine lv_goto (tgt := 2) hx hb dX12_isAmong_24 (by decide) ?_
        exact ih (k + 1) ls (by omega) hl
      · rw [if_pos q]
        refine lv_iconst (v := 1) hx hb dX12_isAmong_19 (by decide) ?_
        exact W.zret hx hb hr (by decide +kernel) (fun t ht _ => ⟨rfl, ht⟩) (fun _ h => nomatch h) dX12_isAmong_20 hlocks
  refine lv_iconst (v := 0) hx hb dX12_isAmong_0 (by decide) ?_
  refine lv_istore_n (lv' := [(2, .int 0), (0, .ref (sa j)), (1, .int t)]) hx hb dX12_isAmong_1 rfl hl (by decide) rfl (fun ls hl => ?_)
  exact loop (([1, 6] : List Nat).getD j 0) 0 ls (by omega) hl

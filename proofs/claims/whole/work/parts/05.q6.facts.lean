def am_KOK (own x : Nat) (v : Value) : Prop := (∃ n, v = .int n ∧ Cond.constant (am_on own) x n ∈ am_gt) ∨ (∃ n, v = .long n ∧ Cond.constantLong (am_on own) x n ∈ am_gt) ∨ (own = 12 ∧ x = 26 ∧ v = .retAddr 0) ∨ (own = 12 ∧ x = 32 ∧ v = .retAddr 1) ∨ (own = 11 ∧ x = 192 ∧ v = .retAddr 2)
theorem ko_1_46 : am_KOK 1 46 (.long 6364136223846793005) := Or.inr (Or.inl ⟨_, rfl, am_gT 913 (by decide +kernel) rfl⟩)
theorem ko_1_48 : am_KOK 1 48 (.long 1442695040888963407) := Or.inr (Or.inl ⟨_, rfl, am_gT 914 (by decide +kernel) rfl⟩)
theorem ko_1 : ∀ q ∈ am_kl_1, am_KOK 1 q.1 q.2 := List.forall_mem_cons.mpr ⟨ko_1_46, List.forall_mem_cons.mpr ⟨ko_1_48, fun _ h => nomatch h⟩⟩
theorem ko_6_100 : am_KOK 6 100 (.long (-1000000)) := Or.inr (Or.inl ⟨_, rfl, am_gT 872 (by decide +kernel) rfl⟩)
theorem ko_6_102 : am_KOK 6 102 (.long 1000000) := Or.inr (Or.inl ⟨_, rfl, am_gT 873 (by decide +kernel) rfl⟩)
theorem ko_6 : ∀ q ∈ am_kl_6, am_KOK 6 q.1 q.2 := List.forall_mem_cons.mpr ⟨ko_6_100, List.forall_mem_cons.mpr ⟨ko_6_102, fun _ h => nomatch h⟩⟩
theorem ko_9_40 : am_KOK 9 40 (.int (-1640531535)) := Or.inl ⟨_, rfl, am_gT 687 (by decide +kernel) rfl⟩
theorem ko_9 : ∀ q ∈ am_kl_9, am_KOK 9 q.1 q.2 := List.forall_mem_cons.mpr ⟨ko_9_40, fun _ h => nomatch h⟩
theorem ko_11_236 : am_KOK 11 236 (.long (-1)) := Or.inr (Or.inl ⟨_, rfl, am_gT 645 (by decide +kernel) rfl⟩)
theorem ko_11_241 : am_KOK 11 241 (.long (-2)) := Or.inr (Or.inl ⟨_, rfl, am_gT 693 (by decide +kernel) rfl⟩)
theorem ko_11_192 : am_KOK 11 192 (.retAddr 2) := Or.inr (Or.inr (Or.inr (Or.inr ⟨rfl, rfl, rfl⟩)))
theorem ko_11 : ∀ q ∈ am_kl_11, am_KOK 11 q.1 q.2 := List.forall_mem_cons.mpr ⟨ko_11_236, List.forall_mem_cons.mpr ⟨ko_11_241, List.forall_mem_cons.mpr ⟨ko_11_192, fun _ h => nomatch h⟩⟩⟩
theorem ko_12_71 : am_KOK 12 71 (.int 72000) := Or.inl ⟨_, rfl, am_gT 1112 (by decide +kernel) rfl⟩
theorem ko_12_241 : am_KOK 12 241 (.long 2) := Or.inr (Or.inl ⟨_, rfl, am_gT 1312 (by decide +kernel) rfl⟩)
theorem ko_12_151 : am_KOK 12 151 (.long (-1000000)) := Or.inr (Or.inl ⟨_, rfl, am_gT 1442 (by decide +kernel) rfl⟩)
theorem ko_12_153 : am_KOK 12 153 (.long 1000000) := Or.inr (Or.inl ⟨_, rfl, am_gT 1443 (by decide +kernel) rfl⟩)
theorem ko_12_278 : am_KOK 12 278 (.long 16) := Or.inr (Or.inl ⟨_, rfl, am_gT 1462 (by decide +kernel) rfl⟩)
theorem ko_12_276 : am_KOK 12 276 (.long 3125) := Or.inr (Or.inl ⟨_, rfl, am_gT 1463 (by decide +kernel) rfl⟩)
theorem ko_12_296 : am_KOK 12 296 (.long (-1)) := Or.inr (Or.inl ⟨_, rfl, am_gT 1512 (by decide +kernel) rfl⟩)
theorem ko_12_335 : am_KOK 12 335 (.long (-2)) := Or.inr (Or.inl ⟨_, rfl, am_gT 1552 (by decide +kernel) rfl⟩)
theorem ko_12_425 : am_KOK 12 425 (.long 60) := Or.inr (Or.inl ⟨_, rfl, am_gT 1688 (by decide +kernel) rfl⟩)
theorem ko_12_421 : am_KOK 12 421 (.long 6364136223846793005) := Or.inr (Or.inl ⟨_, rfl, am_gT 1693 (by decide +kernel) rfl⟩)
theorem ko_12_423 : am_KOK 12 423 (.long 1442695040888963407) := Or.inr (Or.inl ⟨_, rfl, am_gT 1694 (by decide +kernel) rfl⟩)
theorem ko_12_436 : am_KOK 12 436 (.long 99) := Or.inr (Or.inl ⟨_, rfl, am_gT 1711 (by decide +kernel) rfl⟩)
theorem ko_12_479 : am_KOK 12 479 (.long 20) := Or.inr (Or.inl ⟨_, rfl, am_gT 1773 (by decide +kernel) rfl⟩)
theorem ko_12_26 : am_KOK 12 26 (.retAddr 0) := Or.inr (Or.inr (Or.inl ⟨rfl, rfl, rfl⟩))
theorem ko_12_32 : am_KOK 12 32 (.retAddr 1) := Or.inr (Or.inr (Or.inr (Or.inl ⟨rfl, rfl, rfl⟩)))
theorem ko_12 : ∀ q ∈ am_kl_12, am_KOK 12 q.1 q.2 := List.forall_mem_cons.mpr ⟨ko_12_71, List.forall_mem_cons.mpr ⟨ko_12_241, List.forall_mem_cons.mpr ⟨ko_12_151, List.forall_mem_cons.mpr ⟨ko_12_153, List.forall_mem_cons.mpr ⟨ko_12_278, List.forall_mem_cons.mpr ⟨ko_12_276, List.forall_mem_cons.mpr ⟨ko_12_296, List.forall_mem_cons.mpr ⟨ko_12_335, List.forall_mem_cons.mpr ⟨ko_12_425, List.forall_mem_cons.mpr ⟨ko_12_421, List.forall_mem_cons.mpr ⟨ko_12_423, List.forall_mem_cons.mpr ⟨ko_12_436, List.forall_mem_cons.mpr ⟨ko_12_479, List.forall_mem_cons.mpr ⟨ko_12_26, List.forall_mem_cons.mpr ⟨ko_12_32, fun _ h => nomatch h⟩⟩⟩⟩⟩⟩⟩⟩⟩⟩⟩⟩⟩⟩⟩
theorem ko_14_264 : am_KOK 14 264 (.int 65536) := Or.inl ⟨_, rfl, am_gT 216 (by decide +kernel) rfl⟩
theorem ko_14_265 : am_KOK 14 265 (.int 1431655765) := Or.inl ⟨_, rfl, am_gT 608 (by decide +kernel) rfl⟩
theorem ko_14_266 : am_KOK 14 266 (.int 858993459) := Or.inl ⟨_, rfl, am_gT 609 (by decide +kernel) rfl⟩
theorem ko_14_267 : am_KOK 14 267 (.int 252645135) := Or.inl ⟨_, rfl, am_gT 610 (by decide +kernel) rfl⟩
theorem ko_14 : ∀ q ∈ am_kl_14, am_KOK 14 q.1 q.2 := List.forall_mem_cons.mpr ⟨ko_14_264, List.forall_mem_cons.mpr ⟨ko_14_265, List.forall_mem_cons.mpr ⟨ko_14_266, List.forall_mem_cons.mpr ⟨ko_14_267, fun _ h => nomatch h⟩⟩⟩⟩
theorem ko_16_127 : am_KOK 16 127 (.long 4294967295) := Or.inr (Or.inl ⟨_, rfl, am_gT 1786 (by decide +kernel) rfl⟩)
theorem ko_16 : ∀ q ∈ am_kl_16, am_KOK 16 q.1 q.2 := List.forall_mem_cons.mpr ⟨ko_16_127, fun _ h => nomatch h⟩
theorem am_kl_ok {own x : Nat} {v : Value} (h : am_look (am_kl own) x = some v) : am_KOK own x v := by
  have hm := am_look_mem h
  unfold am_kl at hm
  split at hm
  · exact ko_1 _ hm
  · exact ko_6 _ hm
  · exact ko_9 _ hm
  · exact ko_11 _ hm
  · exact ko_12 _ hm
  · exact ko_14 _ hm
  · exact ko_16 _ hm
  · exact nomatch hm
theorem gs_ias : Cond.static yX12_isAmong ∈ am_gt := am_gT 1361 (by decide +kernel) rfl
theorem gs_iac : Cond.code yX12_isAmong cX12_isAmong 3 (some .boolean) ∈ am_gt := am_gT 1362 (by decide +kernel) rfl

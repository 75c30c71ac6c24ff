/-! THE LAW: what its start gives; its loop; the claim out of the agreement of class and model -/
theorem lw_gt {s : State} {b : Nat} (hts : ∀ w ∈ lw_tbl, w.before #[Value.ref b] s = true) : ∀ w ∈ am_gt, w.before #[Value.ref b] s = true := fun w hw => hts w (List.mem_filter.mp hw).1
theorem lw_T {s : State} {b : Nat} (hts : ∀ w ∈ lw_tbl, w.before #[Value.ref b] s = true) {w : Cond} (i : Nat) (h : tables_1[i]? = some w) : w.before #[Value.ref b] s = true := hts w (List.mem_append_right _ (List.mem_of_getElem? h))
def lw_tm (i : Nat) : Term := if i = 0 then .string "TillPipeModel" 26 else .string "TillPipeModel" 32
set_option maxRecDepth 100000 in
set_option maxHeartbeats 4000000 in
theorem lw_env {s : State} {b : Nat} (hts : ∀ w ∈ lw_tbl, w.before #[Value.ref b] s = true) (hgv : (Jvm.Cond.and given_1 narrow_1).before #[Value.ref b] s = true) : ∃ sa av, am_env sa av (lw_A s) s := by
  have hs := flat_of_before _ hgv
  have hA : ∀ a : Nat, a < s.heap.size → ¬ lw_A s a := fun a h => Nat.not_le.mpr h
  obtain ⟨adK, adV, h1, h2⟩ := vk_Sof (args := #[Value.ref b]) (s := s) (N := 2) (tm := lw_tm) (len := [1, 6]) (byt := [[121], [118, 116, 110, 105, 115, 111]]) (A := lw_A s) (by decide)
    (fun i hi => match i, hi with
      | 0, _ => hs (.exactly (.string "TillPipeModel" 26) "java/lang/String") (by decide +kernel)
      | 1, _ => hs (.exactly (.string "TillPipeModel" 32) "java/lang/String") (by decide +kernel))
    (fun i hi => match i, hi with
      | 0, _ => hs (.eq (.field (.string "TillPipeModel" 26) "java/lang/String" "coder" "B") (.int 0)) (by decide +kernel)
      | 1, _ => hs (.eq (.field (.string "TillPipeModel" 32) "java/lang/String" "coder" "B") (.int 0)) (by decide +kernel))
    (fun i hi => match i, hi with
      | 0, _ => hs (.arrayOf (.field (.string "TillPipeModel" 26) "java/lang/String" "value" "[B") .byte) (by decide +kernel)
      | 1, _ => hs (.arrayOf (.field (.string "TillPipeModel" 32) "java/lang/String" "value" "[B") .byte) (by decide +kernel))
    (fun i hi => match i, hi with
      | 0, _ => hs (.eq (.length (.field (.string "TillPipeModel" 26) "java/lang/String" "value" "[B")) (.int 1)) (by decide +kernel)
      | 1, _ => hs (.eq (.length (.field (.string "TillPipeModel" 32) "java/lang/String" "value" "[B")) (.int 6)) (by decide +kernel))
    (fun i hi => match i, hi with
      | 0, _ => fun j hj => match j, hj with
        | 0, _ => hs (.eq (.elem (.field (.string "TillPipeModel" 26) "java/lang/String" "value" "[B") (.int 0)) (.int 121)) (by decide +kernel)
      | 1, _ => fun j hj => match j, hj with
        | 0, _ => hs (.eq (.elem (.field (.string "TillPipeModel" 32) "java/lang/String" "value" "[B") (.int 0)) (.int 118)) (by decide +kernel)
        | 1, _ => hs (.eq (.elem (.field (.string "TillPipeModel" 32) "java/lang/String" "value" "[B") (.int 1)) (.int 116)) (by decide +kernel)
        | 2, _ => hs (.eq (.elem (.field (.string "TillPipeModel" 32) "java/lang/String" "value" "[B") (.int 2)) (.int 110)) (by decide +kernel)
        | 3, _ => hs (.eq (.elem (.field (.string "TillPipeModel" 32) "java/lang/String" "value" "[B") (.int 3)) (.int 105)) (by decide +kernel)
        | 4, _ => hs (.eq (.elem (.field (.string "TillPipeModel" 32) "java/lang/String" "value" "[B") (.int 4)) (.int 115)) (by decide +kernel)
        | 5, _ => hs (.eq (.elem (.field (.string "TillPipeModel" 32) "java/lang/String" "value" "[B") (.int 5)) (.int 111)) (by decide +kernel))
    (fun i j hi hj hij => match i, j, hi, hj, hij with
      | 0, 0, _, _, q => absurd rfl q
      | 0, 1, _, _, _ => Or.inl (hs (.not (.eq (.string "TillPipeModel" 26) (.string "TillPipeModel" 32))) (by decide +kernel))
      | 1, 0, _, _, _ => Or.inr (hs (.not (.eq (.string "TillPipeModel" 26) (.string "TillPipeModel" 32))) (by decide +kernel))
      | 1, 1, _, _, q => absurd rfl q) hA
  obtain ⟨a, _, _, _, q1, _⟩ := Cond.exactly_spec (args := #[Value.ref b]) (first := s) (o := none) (s := s) (idx := []) (t := .string "TillPipe" 192) (cls := "java/lang/String") (hs (.exactly (.string "TillPipe" 192) "java/lang/String") (by decide +kernel))
  refine ⟨fun j => if j = 2 then a else adK j, adV, ⟨⟨fun i hi => ?_, fun i j hi hj => ?_⟩, ?_, ?_⟩, ⟨?_, ?_, ?_⟩, ⟨?_, ?_, ?_, ?_⟩, ?_, ?_, ?_, ?_⟩
  · have e1 : (fun j => if j = 2 then a else adK j) i = adK i := if_neg (by omega)
    rw [e1]
    exact h1.1 i hi
  · have e1 : (fun j => if j = 2 then a else adK j) i = adK i := if_neg (by omega)
    have e2 : (fun j => if j = 2 then a else adK j) j = adK j := if_neg (by omega)
    rw [e1, e2]
    exact h1.2 i j hi hj
  · exact va_Zof (lw_T hts 1372 (by decide +kernel)) (lw_T hts 15 (by decide +kernel)) (va_eqt (hs (.eq (.static "java/lang/String" "COMPACT_STRINGS" "Z") (.int 1)) (by decide +kernel))) hA
  · exact va_Zqof (lw_T hts 1388 (by decide +kernel)) (lw_T hts 17 (by decide +kernel)) (hs (.isRef (.static "jdk/internal/util/Preconditions" "SIOOBE_FORMATTER" "Ljava/util/function/BiFunction;")) (by decide +kernel)) hA
  · exact vk_R.of (A := #[Value.ref b]) (lw_T hts 1110 (by decide +kernel)) (h2 0 (by decide))
  · exact vk_R.of (A := #[Value.ref b]) (lw_T hts 1111 (by decide +kernel)) (h2 1 (by decide))
  · exact vk_R.of (A := #[Value.ref b]) (lw_T hts 1077 (by decide +kernel)) q1
  · exact va_AO.of (A := #[Value.ref b]) (lw_T hts 153 (by decide +kernel))
  · exact va_AO.of (A := #[Value.ref b]) (lw_T hts 157 (by decide +kernel))
  · exact va_AO.of (A := #[Value.ref b]) (lw_T hts 249 (by decide +kernel))
  · exact (show (Cond.arrayOver (.array .int)).before #[Value.ref b] s = true from lw_T hts 165 (by decide +kernel))
  · exact va_Nw.of rfl (A := #[Value.ref b]) (lw_T hts 36 (by decide +kernel))
  · exact va_Nw.of rfl (A := #[Value.ref b]) (lw_T hts 58 (by decide +kernel))
  · exact va_Nw.of rfl (A := #[Value.ref b]) (lw_T hts 96 (by decide +kernel))
  · exact va_Nw.of rfl (A := #[Value.ref b]) (lw_T hts 322 (by decide +kernel))

def am_SOK (own x k : Nat) : Prop := (k = 0 ∧ Cond.methodLink (am_on own) x Lib.objectInit ∈ am_gt) ∨ (k = 1 ∧ Cond.methodLink (am_on own) x arraycopyName ∈ am_gt) ∨ (k = 2 ∧ Cond.methodLink (am_on own) x yX12_isAmong ∈ am_gt) ∨ k = 3 ∨ (k = 4 ∧ Cond.methodLink (am_on own) x Lib.Math.max.name ∈ am_gt) ∨ (k = 5 ∧ Cond.methodLink (am_on own) x Lib.Math.min.name ∈ am_gt) ∨ (k = 6 ∧ Cond.methodLink (am_on own) x Lib.MathLoose.max_long.x ∈ am_gt) ∨ (k = 7 ∧ Cond.methodLink (am_on own) x Lib.MathLoose.min_long.x ∈ am_gt)
theorem so_0_3 : am_SOK 0 3 0 := Or.inl ⟨rfl, am_gT 279 (by decide +kernel) rfl⟩
theorem so_0 : ∀ q ∈ am_sl_0, am_SOK 0 q.1 q.2 := List.forall_mem_cons.mpr ⟨so_0_3, fun _ h => nomatch h⟩
theorem so_1_5 : am_SOK 1 5 0 := Or.inl ⟨rfl, am_gT 300 (by decide +kernel) rfl⟩
theorem so_1_98 : am_SOK 1 98 4 := Or.inr (Or.inr (Or.inr (Or.inr (Or.inl ⟨rfl, am_gT 844 (by decide +kernel) rfl⟩))))
theorem so_1 : ∀ q ∈ am_sl_1, am_SOK 1 q.1 q.2 := List.forall_mem_cons.mpr ⟨so_1_5, List.forall_mem_cons.mpr ⟨so_1_98, fun _ h => nomatch h⟩⟩
theorem so_2_3 : am_SOK 2 3 0 := Or.inl ⟨rfl, am_gT 99 (by decide +kernel) rfl⟩
theorem so_2_64 : am_SOK 2 64 1 := Or.inr (Or.inl ⟨rfl, am_gT 550 (by decide +kernel) rfl⟩)
theorem so_2 : ∀ q ∈ am_sl_2, am_SOK 2 q.1 q.2 := List.forall_mem_cons.mpr ⟨so_2_3, List.forall_mem_cons.mpr ⟨so_2_64, fun _ h => nomatch h⟩⟩
theorem so_3_3 : am_SOK 3 3 0 := Or.inl ⟨rfl, am_gT 325 (by decide +kernel) rfl⟩
theorem so_3_18 : am_SOK 3 18 5 := Or.inr (Or.inr (Or.inr (Or.inr (Or.inr (Or.inl ⟨rfl, am_gT 714 (by decide +kernel) rfl⟩)))))
theorem so_3_24 : am_SOK 3 24 4 := Or.inr (Or.inr (Or.inr (Or.inr (Or.inl ⟨rfl, am_gT 715 (by decide +kernel) rfl⟩))))
theorem so_3 : ∀ q ∈ am_sl_3, am_SOK 3 q.1 q.2 := List.forall_mem_cons.mpr ⟨so_3_3, List.forall_mem_cons.mpr ⟨so_3_18, List.forall_mem_cons.mpr ⟨so_3_24, fun _ h => nomatch h⟩⟩⟩
theorem so_4_7 : am_SOK 4 7 0 := Or.inl ⟨rfl, am_gT 163 (by decide +kernel) rfl⟩
theorem so_4 : ∀ q ∈ am_sl_4, am_SOK 4 q.1 q.2 := List.forall_mem_cons.mpr ⟨so_4_7, fun _ h => nomatch h⟩
theorem so_5_3 : am_SOK 5 3 0 := Or.inl ⟨rfl, am_gT 247 (by decide +kernel) rfl⟩
theorem so_5_37 : am_SOK 5 37 5 := Or.inr (Or.inr (Or.inr (Or.inr (Or.inr (Or.inl ⟨rfl, am_gT 734 (by decide +kernel) rfl⟩)))))
theorem so_5_43 : am_SOK 5 43 4 := Or.inr (Or.inr (Or.inr (Or.inr (Or.inl ⟨rfl, am_gT 735 (by decide +kernel) rfl⟩))))
theorem so_5 : ∀ q ∈ am_sl_5, am_SOK 5 q.1 q.2 := List.forall_mem_cons.mpr ⟨so_5_3, List.forall_mem_cons.mpr ⟨so_5_37, List.forall_mem_cons.mpr ⟨so_5_43, fun _ h => nomatch h⟩⟩⟩
theorem so_6_5 : am_SOK 6 5 0 := Or.inl ⟨rfl, am_gT 139 (by decide +kernel) rfl⟩
theorem so_6_11 : am_SOK 6 11 4 := Or.inr (Or.inr (Or.inr (Or.inr (Or.inl ⟨rfl, am_gT 140 (by decide +kernel) rfl⟩))))
theorem so_6_27 : am_SOK 6 27 5 := Or.inr (Or.inr (Or.inr (Or.inr (Or.inr (Or.inl ⟨rfl, am_gT 567 (by decide +kernel) rfl⟩)))))
theorem so_6_104 : am_SOK 6 104 7 := Or.inr (Or.inr (Or.inr (Or.inr (Or.inr (Or.inr (Or.inr (⟨rfl, am_gT 874 (by decide +kernel) rfl⟩)))))))
theorem so_6_107 : am_SOK 6 107 6 := Or.inr (Or.inr (Or.inr (Or.inr (Or.inr (Or.inr (Or.inl ⟨rfl, am_gT 877 (by decide +kernel) rfl⟩))))))
theorem so_6 : ∀ q ∈ am_sl_6, am_SOK 6 q.1 q.2 := List.forall_mem_cons.mpr ⟨so_6_5, List.forall_mem_cons.mpr ⟨so_6_11, List.forall_mem_cons.mpr ⟨so_6_27, List.forall_mem_cons.mpr ⟨so_6_104, List.forall_mem_cons.mpr ⟨so_6_107, fun _ h => nomatch h⟩⟩⟩⟩⟩
theorem so_7_3 : am_SOK 7 3 0 := Or.inl ⟨rfl, am_gT 61 (by decide +kernel) rfl⟩
theorem so_7_22 : am_SOK 7 22 1 := Or.inr (Or.inl ⟨rfl, am_gT 535 (by decide +kernel) rfl⟩)
theorem so_7 : ∀ q ∈ am_sl_7, am_SOK 7 q.1 q.2 := List.forall_mem_cons.mpr ⟨so_7_3, List.forall_mem_cons.mpr ⟨so_7_22, fun _ h => nomatch h⟩⟩
theorem so_8_3 : am_SOK 8 3 0 := Or.inl ⟨rfl, am_gT 39 (by decide +kernel) rfl⟩
theorem so_8 : ∀ q ∈ am_sl_8, am_SOK 8 q.1 q.2 := List.forall_mem_cons.mpr ⟨so_8_3, fun _ h => nomatch h⟩
theorem so_9_3 : am_SOK 9 3 0 := Or.inl ⟨rfl, am_gT 211 (by decide +kernel) rfl⟩
theorem so_9_9 : am_SOK 9 9 4 := Or.inr (Or.inr (Or.inr (Or.inr (Or.inl ⟨rfl, am_gT 212 (by decide +kernel) rfl⟩))))
theorem so_9 : ∀ q ∈ am_sl_9, am_SOK 9 q.1 q.2 := List.forall_mem_cons.mpr ⟨so_9_3, List.forall_mem_cons.mpr ⟨so_9_9, fun _ h => nomatch h⟩⟩
theorem so_11_1 : am_SOK 11 1 0 := Or.inl ⟨rfl, am_gT 31 (by decide +kernel) rfl⟩
theorem so_11_320 : am_SOK 11 320 4 := Or.inr (Or.inr (Or.inr (Or.inr (Or.inl ⟨rfl, am_gT 930 (by decide +kernel) rfl⟩))))
theorem so_11_325 : am_SOK 11 325 5 := Or.inr (Or.inr (Or.inr (Or.inr (Or.inr (Or.inl ⟨rfl, am_gT 931 (by decide +kernel) rfl⟩)))))
theorem so_11_355 : am_SOK 11 355 1 := Or.inr (Or.inl ⟨rfl, am_gT 1021 (by decide +kernel) rfl⟩)
theorem so_11 : ∀ q ∈ am_sl_11, am_SOK 11 q.1 q.2 := List.forall_mem_cons.mpr ⟨so_11_1, List.forall_mem_cons.mpr ⟨so_11_320, List.forall_mem_cons.mpr ⟨so_11_325, List.forall_mem_cons.mpr ⟨so_11_355, fun _ h => nomatch h⟩⟩⟩⟩
theorem so_12_1 : am_SOK 12 1 0 := Or.inl ⟨rfl, am_gT 1109 (by decide +kernel) rfl⟩
theorem so_12_164 : am_SOK 12 164 2 := Or.inr (Or.inr (Or.inl ⟨rfl, am_gT 1360 (by decide +kernel) rfl⟩))
theorem so_12_155 : am_SOK 12 155 7 := Or.inr (Or.inr (Or.inr (Or.inr (Or.inr (Or.inr (Or.inr (⟨rfl, am_gT 1444 (by decide +kernel) rfl⟩)))))))
theorem so_12_161 : am_SOK 12 161 6 := Or.inr (Or.inr (Or.inr (Or.inr (Or.inr (Or.inr (Or.inl ⟨rfl, am_gT 1445 (by decide +kernel) rfl⟩))))))
theorem so_12_344 : am_SOK 12 344 4 := Or.inr (Or.inr (Or.inr (Or.inr (Or.inl ⟨rfl, am_gT 1588 (by decide +kernel) rfl⟩))))
theorem so_12_375 : am_SOK 12 375 5 := Or.inr (Or.inr (Or.inr (Or.inr (Or.inr (Or.inl ⟨rfl, am_gT 1616 (by decide +kernel) rfl⟩)))))
theorem so_12 : ∀ q ∈ am_sl_12, am_SOK 12 q.1 q.2 := List.forall_mem_cons.mpr ⟨so_12_1, List.forall_mem_cons.mpr ⟨so_12_164, List.forall_mem_cons.mpr ⟨so_12_155, List.forall_mem_cons.mpr ⟨so_12_161, List.forall_mem_cons.mpr ⟨so_12_344, List.forall_mem_cons.mpr ⟨so_12_375, fun _ h => nomatch h⟩⟩⟩⟩⟩⟩
theorem so_15_316 : am_SOK 15 316 3 := Or.inr (Or.inr (Or.inr (Or.inl rfl)))
theorem so_15_304 : am_SOK 15 304 5 := Or.inr (Or.inr (Or.inr (Or.inr (Or.inr (Or.inl ⟨rfl, am_gT 580 (by decide +kernel) rfl⟩)))))
theorem so_15_150 : am_SOK 15 150 1 := Or.inr (Or.inl ⟨rfl, am_gT 581 (by decide +kernel) rfl⟩)
theorem so_15 : ∀ q ∈ am_sl_15, am_SOK 15 q.1 q.2 := List.forall_mem_cons.mpr ⟨so_15_316, List.forall_mem_cons.mpr ⟨so_15_304, List.forall_mem_cons.mpr ⟨so_15_150, fun _ h => nomatch h⟩⟩⟩
theorem am_sl_ok {own x k : Nat} (h : am_look (am_sl own) x = some k) : am_SOK own x k := by
  have hm := am_look_mem h
  unfold am_sl at hm
  split at hm
  · exact so_0 _ hm
  · exact so_1 _ hm
  · exact so_2 _ hm
  · exact so_3 _ hm
  · exact so_4 _ hm
  · exact so_5 _ hm
  · exact so_6 _ hm
  · exact so_7 _ hm
  · exact so_8 _ hm
  · exact so_9 _ hm
  · exact so_11 _ hm
  · exact so_12 _ hm
  · exact so_15 _ hm
  · exact nomatch hm
theorem gs_oi : Cond.instanceMethod Lib.objectInit ∈ am_gt := am_gT 32 (by decide +kernel) rfl
theorem gs_oc : Cond.code Lib.objectInit ⟨#[0xb1]⟩ 1 none ∈ am_gt := am_gT 33 (by decide +kernel) rfl
theorem gs_an : Cond.native arraycopyName ∈ am_gt := am_gT 537 (by decide +kernel) rfl
theorem gs_as : Cond.static arraycopyName ∈ am_gt := am_gT 536 (by decide +kernel) rfl
theorem gs_ai : Cond.initialized "java/lang/System" ∈ am_gt := am_gT 19 (by decide +kernel) rfl
theorem gs_mi : Cond.initialized "java/lang/Math" ∈ am_gt := am_gT 6 (by decide +kernel) rfl
theorem gs_smax : Cond.static Lib.Math.max.name ∈ am_gt := am_gT 141 (by decide +kernel) rfl
theorem gs_cmax : Cond.code Lib.Math.max.name Lib.Math.max.code 2 (some .int) ∈ am_gt := am_gT 142 (by decide +kernel) rfl
theorem gs_smin : Cond.static Lib.Math.min.name ∈ am_gt := am_gT 568 (by decide +kernel) rfl
theorem gs_cmin : Cond.code Lib.Math.min.name Lib.Math.min.code 2 (some .int) ∈ am_gt := am_gT 569 (by decide +kernel) rfl
theorem gs_smaxL : Cond.static Lib.MathLoose.max_long.x ∈ am_gt := am_gT 878 (by decide +kernel) rfl
theorem gs_cmaxL : Cond.code Lib.MathLoose.max_long.x Lib.MathLoose.max_long.code 4 (some .long) ∈ am_gt := am_gT 879 (by decide +kernel) rfl
theorem gs_sminL : Cond.static Lib.MathLoose.min_long.x ∈ am_gt := am_gT 875 (by decide +kernel) rfl
theorem gs_cminL : Cond.code Lib.MathLoose.min_long.x Lib.MathLoose.min_long.code 4 (some .long) ∈ am_gt := am_gT 876 (by decide +kernel) rfl
theorem gs_tint : Cond.arrayClass .int ∈ am_gt := am_gT 55 (by decide +kernel) rfl
theorem gs_tbyte : Cond.arrayClass .byte ∈ am_gt := am_gT 1103 (by decide +kernel) rfl
theorem gs_tlong : Cond.arrayClass .long ∈ am_gt := am_gT 1288 (by decide +kernel) rfl
theorem gn_0_9 : Cond.classLink (am_on 0) 9 RX9 ∈ am_gt := am_gT 280 (by decide +kernel) rfl
theorem gn_5_9 : Cond.classLink (am_on 5) 9 RX9 ∈ am_gt := am_gT 248 (by decide +kernel) rfl
theorem gn_11_7 : Cond.classLink (am_on 11) 7 RX8 ∈ am_gt := am_gT 34 (by decide +kernel) rfl
theorem gn_11_16 : Cond.classLink (am_on 11) 16 RX7 ∈ am_gt := am_gT 56 (by decide +kernel) rfl
theorem gn_11_26 : Cond.classLink (am_on 11) 26 RX2 ∈ am_gt := am_gT 94 (by decide +kernel) rfl
theorem gn_11_33 : Cond.classLink (am_on 11) 33 RX6 ∈ am_gt := am_gT 134 (by decide +kernel) rfl
theorem gn_11_65 : Cond.classLink (am_on 11) 65 RX4 ∈ am_gt := am_gT 158 (by decide +kernel) rfl
theorem gn_11_74 : Cond.classLink (am_on 11) 74 RX9 ∈ am_gt := am_gT 206 (by decide +kernel) rfl
theorem gn_11_81 : Cond.classLink (am_on 11) 81 RX5 ∈ am_gt := am_gT 242 (by decide +kernel) rfl
theorem gn_11_90 : Cond.classLink (am_on 11) 90 RX0 ∈ am_gt := am_gT 274 (by decide +kernel) rfl
theorem gn_11_99 : Cond.classLink (am_on 11) 99 RX1 ∈ am_gt := am_gT 295 (by decide +kernel) rfl
theorem gn_11_108 : Cond.classLink (am_on 11) 108 RX3 ∈ am_gt := am_gT 320 (by decide +kernel) rfl
theorem gn_16_8 : Cond.classLink (am_on 16) 8 RX11 ∈ am_gt := am_gT 26 (by decide +kernel) rfl
theorem gn_16_16 : Cond.classLink (am_on 16) 16 RX12 ∈ am_gt := am_gT 1104 (by decide +kernel) rfl
theorem gi_0 : Cond.instantiable RX0 4 ∈ am_gt := am_gT 275 (by decide +kernel) rfl
theorem gj_0 : Cond.initialized RX0 ∈ am_gt := am_gT 11 (by decide +kernel) rfl
theorem gi_1 : Cond.instantiable RX1 6 ∈ am_gt := am_gT 296 (by decide +kernel) rfl
theorem gj_1 : Cond.initialized RX1 ∈ am_gt := am_gT 12 (by decide +kernel) rfl
theorem gi_2 : Cond.instantiable RX2 8 ∈ am_gt := am_gT 95 (by decide +kernel) rfl
theorem gj_2 : Cond.initialized RX2 ∈ am_gt := am_gT 4 (by decide +kernel) rfl
theorem gi_3 : Cond.instantiable RX3 3 ∈ am_gt := am_gT 321 (by decide +kernel) rfl
theorem gj_3 : Cond.initialized RX3 ∈ am_gt := am_gT 13 (by decide +kernel) rfl
theorem gi_4 : Cond.instantiable RX4 13 ∈ am_gt := am_gT 159 (by decide +kernel) rfl
theorem gj_4 : Cond.initialized RX4 ∈ am_gt := am_gT 7 (by decide +kernel) rfl
theorem gi_5 : Cond.instantiable RX5 7 ∈ am_gt := am_gT 243 (by decide +kernel) rfl
theorem gj_5 : Cond.initialized RX5 ∈ am_gt := am_gT 10 (by decide +kernel) rfl
theorem gi_6 : Cond.instantiable RX6 2 ∈ am_gt := am_gT 135 (by decide +kernel) rfl
theorem gj_6 : Cond.initialized RX6 ∈ am_gt := am_gT 5 (by decide +kernel) rfl
theorem gi_7 : Cond.instantiable RX7 5 ∈ am_gt := am_gT 57 (by decide +kernel) rfl
theorem gj_7 : Cond.initialized RX7 ∈ am_gt := am_gT 3 (by decide +kernel) rfl
theorem gi_8 : Cond.instantiable RX8 3 ∈ am_gt := am_gT 35 (by decide +kernel) rfl
theorem gj_8 : Cond.initialized RX8 ∈ am_gt := am_gT 2 (by decide +kernel) rfl
theorem gi_9 : Cond.instantiable RX9 6 ∈ am_gt := am_gT 207 (by decide +kernel) rfl
theorem gj_9 : Cond.initialized RX9 ∈ am_gt := am_gT 8 (by decide +kernel) rfl
theorem gi_11 : Cond.instantiable RX11 20 ∈ am_gt := am_gT 27 (by decide +kernel) rfl
theorem gj_11 : Cond.initialized RX11 ∈ am_gt := am_gT 1 (by decide +kernel) rfl
theorem gi_12 : Cond.instantiable RX12 58 ∈ am_gt := am_gT 1105 (by decide +kernel) rfl
theorem gj_12 : Cond.initialized RX12 ∈ am_gt := am_gT 14 (by decide +kernel) rfl
/-- what is known of the classes that are made -/
def am_NOK (own x ci : Nat) : Prop := ∃ C T N ty, am_CK ci C T N ty ∧ Cond.classLink (am_on own) x C ∈ am_gt ∧ Cond.instantiable C N ∈ am_gt ∧ Cond.initialized C ∈ am_gt ∧ (am_dfl ci).length = N ∧ (∀ j, j < N → defaultValue (ty j) = vp_V (am_dfl ci) j) ∧ am_cn ci = C
theorem no_0_9 : am_NOK 0 9 9 := ⟨_, _, _, _, ck_9, gn_0_9, gi_9, gj_9, rfl, by decide +kernel, rfl⟩
theorem no_0 : ∀ q ∈ am_cl_0, am_NOK 0 q.1 q.2 := List.forall_mem_cons.mpr ⟨no_0_9, fun _ h => nomatch h⟩
theorem no_5_9 : am_NOK 5 9 9 := ⟨_, _, _, _, ck_9, gn_5_9, gi_9, gj_9, rfl, by decide +kernel, rfl⟩
theorem no_5 : ∀ q ∈ am_cl_5, am_NOK 5 q.1 q.2 := List.forall_mem_cons.mpr ⟨no_5_9, fun _ h => nomatch h⟩
theorem no_11_7 : am_NOK 11 7 8 := ⟨_, _, _, _, ck_8, gn_11_7, gi_8, gj_8, rfl, by decide +kernel, rfl⟩
theorem no_11_16 : am_NOK 11 16 7 := ⟨_, _, _, _, ck_7, gn_11_16, gi_7, gj_7, rfl, by decide +kernel, rfl⟩
theorem no_11_26 : am_NOK 11 26 2 := ⟨_, _, _, _, ck_2, gn_11_26, gi_2, gj_2, rfl, by decide +kernel, rfl⟩
theorem no_11_33 : am_NOK 11 33 6 := ⟨_, _, _, _, ck_6, gn_11_33, gi_6, gj_6, rfl, by decide +kernel, rfl⟩
theorem no_11_65 : am_NOK 11 65 4 := ⟨_, _, _, _, ck_4, gn_11_65, gi_4, gj_4, rfl, by decide +kernel, rfl⟩
theorem no_11_74 : am_NOK 11 74 9 := ⟨_, _, _, _, ck_9, gn_11_74, gi_9, gj_9, rfl, by decide +kernel, rfl⟩
theorem no_11_81 : am_NOK 11 81 5 := ⟨_, _, _, _, ck_5, gn_11_81, gi_5, gj_5, rfl, by decide +kernel, rfl⟩
theorem no_11_90 : am_NOK 11 90 0 := ⟨_, _, _, _, ck_0, gn_11_90, gi_0, gj_0, rfl, by decide +kernel, rfl⟩
theorem no_11_99 : am_NOK 11 99 1 := ⟨_, _, _, _, ck_1, gn_11_99, gi_1, gj_1, rfl, by decide +kernel, rfl⟩
theorem no_11_108 : am_NOK 11 108 3 := ⟨_, _, _, _, ck_3, gn_11_108, gi_3, gj_3, rfl, by decide +kernel, rfl⟩
theorem no_11 : ∀ q ∈ am_cl_11, am_NOK 11 q.1 q.2 := List.forall_mem_cons.mpr ⟨no_11_7, List.forall_mem_cons.mpr ⟨no_11_16, List.forall_mem_cons.mpr ⟨no_11_26, List.forall_mem_cons.mpr ⟨no_11_33, List.forall_mem_cons.mpr ⟨no_11_65, List.forall_mem_cons.mpr ⟨no_11_74, List.forall_mem_cons.mpr ⟨no_11_81, List.forall_mem_cons.mpr ⟨no_11_90, List.forall_mem_cons.mpr ⟨no_11_99, List.forall_mem_cons.mpr ⟨no_11_108, fun _ h => nomatch h⟩⟩⟩⟩⟩⟩⟩⟩⟩⟩
theorem no_16_8 : am_NOK 16 8 10 := ⟨_, _, _, _, ck_11, gn_16_8, gi_11, gj_11, rfl, by decide +kernel, rfl⟩
theorem no_16_16 : am_NOK 16 16 11 := ⟨_, _, _, _, ck_12, gn_16_16, gi_12, gj_12, rfl, by decide +kernel, rfl⟩
theorem no_16 : ∀ q ∈ am_cl_16, am_NOK 16 q.1 q.2 := List.forall_mem_cons.mpr ⟨no_16_8, List.forall_mem_cons.mpr ⟨no_16_16, fun _ h => nomatch h⟩⟩
theorem am_cl_ok {own x k : Nat} (h : am_look (am_cl own) x = some k) : am_NOK own x k := by
  have hm := am_look_mem h
  unfold am_cl at hm
  split at hm
  · exact no_0 _ hm
  · exact no_5 _ hm
  · exact no_11 _ hm
  · exact no_16 _ hm
  · exact nomatch hm

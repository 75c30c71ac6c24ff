set_option maxRecDepth 20000 in
theorem gw_0 : ∀ w ∈ u_ws RX0 TX0 4, w ∈ am_gt := am_gW _ [286, 288, 290, 292] (by decide +kernel) (by decide +kernel)
theorem ck_0 : am_CK 0 RX0 TX0 4 tyX0 := ⟨rfl, gw_0, tyX0_ok, nmX0⟩
set_option maxRecDepth 20000 in
theorem gw_1 : ∀ w ∈ u_ws RX1 TX1 6, w ∈ am_gt := am_gW _ [307, 309, 311, 313, 315, 317] (by decide +kernel) (by decide +kernel)
theorem ck_1 : am_CK 1 RX1 TX1 6 tyX1 := ⟨rfl, gw_1, tyX1_ok, nmX1⟩
set_option maxRecDepth 20000 in
theorem gw_2 : ∀ w ∈ u_ws RX2 TX2 8, w ∈ am_gt := am_gW _ [117, 119, 121, 123, 125, 127, 129, 131] (by decide +kernel) (by decide +kernel)
theorem ck_2 : am_CK 2 RX2 TX2 8 tyX2 := ⟨rfl, gw_2, tyX2_ok, nmX2⟩
set_option maxRecDepth 20000 in
theorem gw_3 : ∀ w ∈ u_ws RX3 TX3 3, w ∈ am_gt := am_gW _ [334, 336, 338] (by decide +kernel) (by decide +kernel)
theorem ck_3 : am_CK 3 RX3 TX3 3 tyX3 := ⟨rfl, gw_3, tyX3_ok, nmX3⟩
set_option maxRecDepth 20000 in
theorem gw_4 : ∀ w ∈ u_ws RX4 TX4 13, w ∈ am_gt := am_gW _ [179, 181, 183, 185, 187, 189, 191, 193, 195, 197, 199, 201, 203] (by decide +kernel) (by decide +kernel)
theorem ck_4 : am_CK 4 RX4 TX4 13 tyX4 := ⟨rfl, gw_4, tyX4_ok, nmX4⟩
set_option maxRecDepth 20000 in
theorem gw_5 : ∀ w ∈ u_ws RX5 TX5 7, w ∈ am_gt := am_gW _ [259, 261, 263, 265, 267, 269, 271] (by decide +kernel) (by decide +kernel)
theorem ck_5 : am_CK 5 RX5 TX5 7 tyX5 := ⟨rfl, gw_5, tyX5_ok, nmX5⟩
set_option maxRecDepth 20000 in
theorem gw_6 : ∀ w ∈ u_ws RX6 TX6 2, w ∈ am_gt := am_gW _ [145, 147] (by decide +kernel) (by decide +kernel)
theorem ck_6 : am_CK 6 RX6 TX6 2 tyX6 := ⟨rfl, gw_6, tyX6_ok, nmX6⟩
set_option maxRecDepth 20000 in
theorem gw_7 : ∀ w ∈ u_ws RX7 TX7 5, w ∈ am_gt := am_gW _ [83, 85, 87, 89, 91] (by decide +kernel) (by decide +kernel)
theorem ck_7 : am_CK 7 RX7 TX7 5 tyX7 := ⟨rfl, gw_7, tyX7_ok, nmX7⟩
set_option maxRecDepth 20000 in
theorem gw_8 : ∀ w ∈ u_ws RX8 TX8 3, w ∈ am_gt := am_gW _ [48, 50, 52] (by decide +kernel) (by decide +kernel)
theorem ck_8 : am_CK 8 RX8 TX8 3 tyX8 := ⟨rfl, gw_8, tyX8_ok, nmX8⟩
set_option maxRecDepth 20000 in
theorem gw_9 : ∀ w ∈ u_ws RX9 TX9 6, w ∈ am_gt := am_gW _ [229, 231, 233, 235, 237, 239] (by decide +kernel) (by decide +kernel)
theorem ck_9 : am_CK 9 RX9 TX9 6 tyX9 := ⟨rfl, gw_9, tyX9_ok, nmX9⟩
set_option maxRecDepth 20000 in
theorem gw_11 : ∀ w ∈ u_ws RX11 TX11 20, w ∈ am_gt := am_gW _ [361, 363, 365, 367, 369, 371, 373, 375, 377, 379, 381, 383, 385, 387, 389, 391, 393, 395, 397, 399] (by decide +kernel) (by decide +kernel)
theorem ck_11 : am_CK 10 RX11 TX11 20 tyX11 := ⟨rfl, gw_11, tyX11_ok, nmX11⟩
set_option maxRecDepth 20000 in
theorem gw_12 : ∀ w ∈ u_ws RX12 TX12 58, w ∈ am_gt := am_gW _ [1171, 1173, 1175, 1177, 1179, 1181, 1183, 1185, 1187, 1189, 1191, 1193, 1195, 1197, 1199, 1201, 1203, 1205, 1207, 1209, 1211, 1213, 1215, 1217, 1219, 1221, 1223, 1225, 1227, 1229, 1231, 1233, 1235, 1237, 1239, 1241, 1243, 1245, 1247, 1249, 1251, 1253, 1255, 1257, 1259, 1261, 1263, 1265, 1267, 1269, 1271, 1273, 1275, 1277, 1279, 1281, 1283, 1285] (by decide +kernel) (by decide +kernel)
theorem ck_12 : am_CK 11 RX12 TX12 58 tyX12 := ⟨rfl, gw_12, tyX12_ok, nmX12⟩
theorem fo_0_53 : am_FOK 0 53 (9, 4, 2, true) := ⟨_, _, _, _, ck_9, by decide, am_gT 223 (by decide +kernel) rfl, rfl, rfl, Or.inr (Or.inr (Or.inl ⟨rfl, Or.inr ⟨_, rfl⟩⟩)), fun _ => rfl⟩
theorem fo_0_31 : am_FOK 0 31 (9, 5, 0, false) := ⟨_, _, _, _, ck_9, by decide, am_gT 225 (by decide +kernel) rfl, rfl, rfl, Or.inl ⟨rfl, rfl⟩, fun _ => rfl⟩
theorem fo_0_20 : am_FOK 0 20 (0, 0, 2, true) := ⟨_, _, _, _, ck_0, by decide, am_gT 282 (by decide +kernel) rfl, rfl, rfl, Or.inr (Or.inr (Or.inl ⟨rfl, Or.inl ⟨_, rfl⟩⟩)), fun _ => rfl⟩
theorem fo_0_24 : am_FOK 0 24 (0, 1, 2, true) := ⟨_, _, _, _, ck_0, by decide, am_gT 283 (by decide +kernel) rfl, rfl, rfl, Or.inr (Or.inr (Or.inl ⟨rfl, Or.inr ⟨_, rfl⟩⟩)), fun _ => rfl⟩
theorem fo_0_28 : am_FOK 0 28 (0, 2, 2, true) := ⟨_, _, _, _, ck_0, by decide, am_gT 284 (by decide +kernel) rfl, rfl, rfl, Or.inr (Or.inr (Or.inl ⟨rfl, Or.inl ⟨_, rfl⟩⟩)), fun _ => rfl⟩
theorem fo_0_14 : am_FOK 0 14 (0, 3, 2, true) := ⟨_, _, _, _, ck_0, by decide, am_gT 285 (by decide +kernel) rfl, rfl, rfl, Or.inr (Or.inr (Or.inl ⟨rfl, Or.inl ⟨_, rfl⟩⟩)), fun _ => rfl⟩
theorem fo_0 : ∀ q ∈ am_fl_0, am_FOK 0 q.1 q.2 := List.forall_mem_cons.mpr ⟨fo_0_53, List.forall_mem_cons.mpr ⟨fo_0_31, List.forall_mem_cons.mpr ⟨fo_0_20, List.forall_mem_cons.mpr ⟨fo_0_24, List.forall_mem_cons.mpr ⟨fo_0_28, List.forall_mem_cons.mpr ⟨fo_0_14, fun _ h => nomatch h⟩⟩⟩⟩⟩⟩
theorem fo_1_103 : am_FOK 1 103 (7, 0, 2, true) := ⟨_, _, _, _, ck_7, by decide, am_gT 65 (by decide +kernel) rfl, rfl, rfl, Or.inr (Or.inr (Or.inl ⟨rfl, Or.inr ⟨_, rfl⟩⟩)), fun _ => rfl⟩
theorem fo_1_106 : am_FOK 1 106 (7, 2, 0, false) := ⟨_, _, _, _, ck_7, by decide, am_gT 73 (by decide +kernel) rfl, rfl, rfl, Or.inl ⟨rfl, rfl⟩, fun _ => rfl⟩
theorem fo_1_111 : am_FOK 1 111 (7, 3, 0, false) := ⟨_, _, _, _, ck_7, by decide, am_gT 77 (by decide +kernel) rfl, rfl, rfl, Or.inl ⟨rfl, rfl⟩, fun _ => rfl⟩
theorem fo_1_81 : am_FOK 1 81 (2, 4, 2, true) := ⟨_, _, _, _, ck_2, by decide, am_gT 107 (by decide +kernel) rfl, rfl, rfl, Or.inr (Or.inr (Or.inl ⟨rfl, Or.inr ⟨_, rfl⟩⟩)), fun _ => rfl⟩
theorem fo_1_78 : am_FOK 1 78 (2, 5, 2, true) := ⟨_, _, _, _, ck_2, by decide, am_gT 110 (by decide +kernel) rfl, rfl, rfl, Or.inr (Or.inr (Or.inl ⟨rfl, Or.inr ⟨_, rfl⟩⟩)), fun _ => rfl⟩
theorem fo_1_71 : am_FOK 1 71 (2, 6, 2, true) := ⟨_, _, _, _, ck_2, by decide, am_gT 113 (by decide +kernel) rfl, rfl, rfl, Or.inr (Or.inr (Or.inl ⟨rfl, Or.inr ⟨_, rfl⟩⟩)), fun _ => rfl⟩
theorem fo_1_50 : am_FOK 1 50 (2, 7, 0, false) := ⟨_, _, _, _, ck_2, by decide, am_gT 116 (by decide +kernel) rfl, rfl, rfl, Or.inl ⟨rfl, rfl⟩, fun _ => rfl⟩
theorem fo_1_25 : am_FOK 1 25 (1, 0, 2, true) := ⟨_, _, _, _, ck_1, by decide, am_gT 301 (by decide +kernel) rfl, rfl, rfl, Or.inr (Or.inr (Or.inl ⟨rfl, Or.inl ⟨_, rfl⟩⟩)), fun _ => rfl⟩
theorem fo_1_29 : am_FOK 1 29 (1, 1, 2, true) := ⟨_, _, _, _, ck_1, by decide, am_gT 302 (by decide +kernel) rfl, rfl, rfl, Or.inr (Or.inr (Or.inl ⟨rfl, Or.inr ⟨_, rfl⟩⟩)), fun _ => rfl⟩
theorem fo_1_11 : am_FOK 1 11 (1, 2, 2, true) := ⟨_, _, _, _, ck_1, by decide, am_gT 303 (by decide +kernel) rfl, rfl, rfl, Or.inr (Or.inr (Or.inl ⟨rfl, Or.inr ⟨_, rfl⟩⟩)), fun _ => rfl⟩
theorem fo_1_68 : am_FOK 1 68 (1, 3, 0, false) := ⟨_, _, _, _, ck_1, by decide, am_gT 304 (by decide +kernel) rfl, rfl, rfl, Or.inl ⟨rfl, rfl⟩, fun _ => rfl⟩
theorem fo_1_19 : am_FOK 1 19 (1, 4, 2, true) := ⟨_, _, _, _, ck_1, by decide, am_gT 305 (by decide +kernel) rfl, rfl, rfl, Or.inr (Or.inr (Or.inl ⟨rfl, Or.inr ⟨_, rfl⟩⟩)), fun _ => rfl⟩
theorem fo_1_22 : am_FOK 1 22 (1, 5, 2, true) := ⟨_, _, _, _, ck_1, by decide, am_gT 306 (by decide +kernel) rfl, rfl, rfl, Or.inr (Or.inr (Or.inl ⟨rfl, Or.inr ⟨_, rfl⟩⟩)), fun _ => rfl⟩
theorem fo_1_39 : am_FOK 1 39 (3, 0, 2, true) := ⟨_, _, _, _, ck_3, by decide, am_gT 327 (by decide +kernel) rfl, rfl, rfl, Or.inr (Or.inr (Or.inl ⟨rfl, Or.inr ⟨_, rfl⟩⟩)), fun _ => rfl⟩
theorem fo_1_33 : am_FOK 1 33 (3, 1, 0, false) := ⟨_, _, _, _, ck_3, by decide, am_gT 330 (by decide +kernel) rfl, rfl, rfl, Or.inl ⟨rfl, rfl⟩, fun _ => rfl⟩
theorem fo_1 : ∀ q ∈ am_fl_1, am_FOK 1 q.1 q.2 := List.forall_mem_cons.mpr ⟨fo_1_103, List.forall_mem_cons.mpr ⟨fo_1_106, List.forall_mem_cons.mpr ⟨fo_1_111, List.forall_mem_cons.mpr ⟨fo_1_81, List.forall_mem_cons.mpr ⟨fo_1_78, List.forall_mem_cons.mpr ⟨fo_1_71, List.forall_mem_cons.mpr ⟨fo_1_50, List.forall_mem_cons.mpr ⟨fo_1_25, List.forall_mem_cons.mpr ⟨fo_1_29, List.forall_mem_cons.mpr ⟨fo_1_11, List.forall_mem_cons.mpr ⟨fo_1_68, List.forall_mem_cons.mpr ⟨fo_1_19, List.forall_mem_cons.mpr ⟨fo_1_22, List.forall_mem_cons.mpr ⟨fo_1_39, List.forall_mem_cons.mpr ⟨fo_1_33, fun _ h => nomatch h⟩⟩⟩⟩⟩⟩⟩⟩⟩⟩⟩⟩⟩⟩⟩
theorem fo_2_61 : am_FOK 2 61 (8, 2, 0, false) := ⟨_, _, _, _, ck_8, by decide, am_gT 43 (by decide +kernel) rfl, rfl, rfl, Or.inl ⟨rfl, rfl⟩, fun _ => rfl⟩
theorem fo_2_77 : am_FOK 2 77 (7, 0, 2, true) := ⟨_, _, _, _, ck_7, by decide, am_gT 64 (by decide +kernel) rfl, rfl, rfl, Or.inr (Or.inr (Or.inl ⟨rfl, Or.inr ⟨_, rfl⟩⟩)), fun _ => rfl⟩
theorem fo_2_47 : am_FOK 2 47 (7, 1, 0, false) := ⟨_, _, _, _, ck_7, by decide, am_gT 68 (by decide +kernel) rfl, rfl, rfl, Or.inl ⟨rfl, rfl⟩, fun _ => rfl⟩
theorem fo_2_34 : am_FOK 2 34 (2, 0, 0, false) := ⟨_, _, _, _, ck_2, by decide, am_gT 100 (by decide +kernel) rfl, rfl, rfl, Or.inl ⟨rfl, rfl⟩, fun _ => rfl⟩
theorem fo_2_11 : am_FOK 2 11 (2, 1, 2, true) := ⟨_, _, _, _, ck_2, by decide, am_gT 102 (by decide +kernel) rfl, rfl, rfl, Or.inr (Or.inr (Or.inl ⟨rfl, Or.inr ⟨_, rfl⟩⟩)), fun _ => rfl⟩
theorem fo_2_50 : am_FOK 2 50 (2, 2, 0, false) := ⟨_, _, _, _, ck_2, by decide, am_gT 103 (by decide +kernel) rfl, rfl, rfl, Or.inl ⟨rfl, rfl⟩, fun _ => rfl⟩
theorem fo_2_70 : am_FOK 2 70 (2, 3, 0, false) := ⟨_, _, _, _, ck_2, by decide, am_gT 104 (by decide +kernel) rfl, rfl, rfl, Or.inl ⟨rfl, rfl⟩, fun _ => rfl⟩
theorem fo_2_15 : am_FOK 2 15 (2, 4, 2, true) := ⟨_, _, _, _, ck_2, by decide, am_gT 106 (by decide +kernel) rfl, rfl, rfl, Or.inr (Or.inr (Or.inl ⟨rfl, Or.inr ⟨_, rfl⟩⟩)), fun _ => rfl⟩
theorem fo_2_18 : am_FOK 2 18 (2, 5, 2, true) := ⟨_, _, _, _, ck_2, by decide, am_gT 109 (by decide +kernel) rfl, rfl, rfl, Or.inr (Or.inr (Or.inl ⟨rfl, Or.inr ⟨_, rfl⟩⟩)), fun _ => rfl⟩
theorem fo_2_21 : am_FOK 2 21 (2, 6, 2, true) := ⟨_, _, _, _, ck_2, by decide, am_gT 112 (by decide +kernel) rfl, rfl, rfl, Or.inr (Or.inr (Or.inl ⟨rfl, Or.inr ⟨_, rfl⟩⟩)), fun _ => rfl⟩
theorem fo_2_24 : am_FOK 2 24 (2, 7, 0, false) := ⟨_, _, _, _, ck_2, by decide, am_gT 115 (by decide +kernel) rfl, rfl, rfl, Or.inl ⟨rfl, rfl⟩, fun _ => rfl⟩
theorem fo_2 : ∀ q ∈ am_fl_2, am_FOK 2 q.1 q.2 := List.forall_mem_cons.mpr ⟨fo_2_61, List.forall_mem_cons.mpr ⟨fo_2_77, List.forall_mem_cons.mpr ⟨fo_2_47, List.forall_mem_cons.mpr ⟨fo_2_34, List.forall_mem_cons.mpr ⟨fo_2_11, List.forall_mem_cons.mpr ⟨fo_2_50, List.forall_mem_cons.mpr ⟨fo_2_70, List.forall_mem_cons.mpr ⟨fo_2_15, List.forall_mem_cons.mpr ⟨fo_2_18, List.forall_mem_cons.mpr ⟨fo_2_21, List.forall_mem_cons.mpr ⟨fo_2_24, fun _ h => nomatch h⟩⟩⟩⟩⟩⟩⟩⟩⟩⟩⟩
theorem fo_3_9 : am_FOK 3 9 (3, 0, 2, true) := ⟨_, _, _, _, ck_3, by decide, am_gT 326 (by decide +kernel) rfl, rfl, rfl, Or.inr (Or.inr (Or.inl ⟨rfl, Or.inr ⟨_, rfl⟩⟩)), fun _ => rfl⟩
theorem fo_3_27 : am_FOK 3 27 (3, 1, 0, false) := ⟨_, _, _, _, ck_3, by decide, am_gT 329 (by decide +kernel) rfl, rfl, rfl, Or.inl ⟨rfl, rfl⟩, fun _ => rfl⟩
theorem fo_3_15 : am_FOK 3 15 (3, 2, 2, true) := ⟨_, _, _, _, ck_3, by decide, am_gT 333 (by decide +kernel) rfl, rfl, rfl, Or.inr (Or.inr (Or.inl ⟨rfl, Or.inr ⟨_, rfl⟩⟩)), fun _ => rfl⟩
theorem fo_3 : ∀ q ∈ am_fl_3, am_FOK 3 q.1 q.2 := List.forall_mem_cons.mpr ⟨fo_3_9, List.forall_mem_cons.mpr ⟨fo_3_27, List.forall_mem_cons.mpr ⟨fo_3_15, fun _ h => nomatch h⟩⟩⟩
theorem fo_4_51 : am_FOK 4 51 (7, 0, 2, true) := ⟨_, _, _, _, ck_7, by decide, am_gT 63 (by decide +kernel) rfl, rfl, rfl, Or.inr (Or.inr (Or.inl ⟨rfl, Or.inr ⟨_, rfl⟩⟩)), fun _ => rfl⟩
theorem fo_4_123 : am_FOK 4 123 (7, 2, 0, false) := ⟨_, _, _, _, ck_7, by decide, am_gT 72 (by decide +kernel) rfl, rfl, rfl, Or.inl ⟨rfl, rfl⟩, fun _ => rfl⟩
theorem fo_4_120 : am_FOK 4 120 (7, 3, 0, false) := ⟨_, _, _, _, ck_7, by decide, am_gT 76 (by decide +kernel) rfl, rfl, rfl, Or.inl ⟨rfl, rfl⟩, fun _ => rfl⟩
theorem fo_4_74 : am_FOK 4 74 (7, 4, 0, false) := ⟨_, _, _, _, ck_7, by decide, am_gT 80 (by decide +kernel) rfl, rfl, rfl, Or.inl ⟨rfl, rfl⟩, fun _ => rfl⟩
theorem fo_4_81 : am_FOK 4 81 (2, 3, 0, false) := ⟨_, _, _, _, ck_2, by decide, am_gT 105 (by decide +kernel) rfl, rfl, rfl, Or.inl ⟨rfl, rfl⟩, fun _ => rfl⟩
theorem fo_4_114 : am_FOK 4 114 (2, 4, 2, true) := ⟨_, _, _, _, ck_2, by decide, am_gT 108 (by decide +kernel) rfl, rfl, rfl, Or.inr (Or.inr (Or.inl ⟨rfl, Or.inr ⟨_, rfl⟩⟩)), fun _ => rfl⟩
theorem fo_4_102 : am_FOK 4 102 (2, 5, 2, true) := ⟨_, _, _, _, ck_2, by decide, am_gT 111 (by decide +kernel) rfl, rfl, rfl, Or.inr (Or.inr (Or.inl ⟨rfl, Or.inr ⟨_, rfl⟩⟩)), fun _ => rfl⟩
theorem fo_4_86 : am_FOK 4 86 (2, 6, 2, true) := ⟨_, _, _, _, ck_2, by decide, am_gT 114 (by decide +kernel) rfl, rfl, rfl, Or.inr (Or.inr (Or.inl ⟨rfl, Or.inr ⟨_, rfl⟩⟩)), fun _ => rfl⟩
theorem fo_4_34 : am_FOK 4 34 (4, 0, 2, true) := ⟨_, _, _, _, ck_4, by decide, am_gT 166 (by decide +kernel) rfl, rfl, rfl, Or.inr (Or.inr (Or.inl ⟨rfl, Or.inl ⟨_, rfl⟩⟩)), fun _ => rfl⟩
theorem fo_4_15 : am_FOK 4 15 (4, 1, 2, true) := ⟨_, _, _, _, ck_4, by decide, am_gT 167 (by decide +kernel) rfl, rfl, rfl, Or.inr (Or.inr (Or.inl ⟨rfl, Or.inr ⟨_, rfl⟩⟩)), fun _ => rfl⟩
theorem fo_4_18 : am_FOK 4 18 (4, 2, 2, true) := ⟨_, _, _, _, ck_4, by decide, am_gT 168 (by decide +kernel) rfl, rfl, rfl, Or.inr (Or.inr (Or.inl ⟨rfl, Or.inr ⟨_, rfl⟩⟩)), fun _ => rfl⟩
theorem fo_4_47 : am_FOK 4 47 (4, 3, 0, false) := ⟨_, _, _, _, ck_4, by decide, am_gT 169 (by decide +kernel) rfl, rfl, rfl, Or.inl ⟨rfl, rfl⟩, fun _ => rfl⟩
theorem fo_4_21 : am_FOK 4 21 (4, 4, 2, true) := ⟨_, _, _, _, ck_4, by decide, am_gT 170 (by decide +kernel) rfl, rfl, rfl, Or.inr (Or.inr (Or.inl ⟨rfl, Or.inr ⟨_, rfl⟩⟩)), fun _ => rfl⟩
theorem fo_4_61 : am_FOK 4 61 (4, 5, 0, false) := ⟨_, _, _, _, ck_4, by decide, am_gT 171 (by decide +kernel) rfl, rfl, rfl, Or.inl ⟨rfl, rfl⟩, fun _ => rfl⟩
theorem fo_4_25 : am_FOK 4 25 (4, 6, 2, true) := ⟨_, _, _, _, ck_4, by decide, am_gT 172 (by decide +kernel) rfl, rfl, rfl, Or.inr (Or.inr (Or.inl ⟨rfl, Or.inr ⟨_, rfl⟩⟩)), fun _ => rfl⟩
theorem fo_4_28 : am_FOK 4 28 (4, 7, 2, true) := ⟨_, _, _, _, ck_4, by decide, am_gT 173 (by decide +kernel) rfl, rfl, rfl, Or.inr (Or.inr (Or.inl ⟨rfl, Or.inr ⟨_, rfl⟩⟩)), fun _ => rfl⟩
theorem fo_4_67 : am_FOK 4 67 (4, 8, 0, false) := ⟨_, _, _, _, ck_4, by decide, am_gT 174 (by decide +kernel) rfl, rfl, rfl, Or.inl ⟨rfl, rfl⟩, fun _ => rfl⟩
theorem fo_4_31 : am_FOK 4 31 (4, 9, 2, true) := ⟨_, _, _, _, ck_4, by decide, am_gT 175 (by decide +kernel) rfl, rfl, rfl, Or.inr (Or.inr (Or.inl ⟨rfl, Or.inr ⟨_, rfl⟩⟩)), fun _ => rfl⟩
theorem fo_4_64 : am_FOK 4 64 (4, 10, 0, false) := ⟨_, _, _, _, ck_4, by decide, am_gT 176 (by decide +kernel) rfl, rfl, rfl, Or.inl ⟨rfl, rfl⟩, fun _ => rfl⟩
theorem fo_4_54 : am_FOK 4 54 (4, 11, 0, false) := ⟨_, _, _, _, ck_4, by decide, am_gT 177 (by decide +kernel) rfl, rfl, rfl, Or.inl ⟨rfl, rfl⟩, fun _ => rfl⟩
theorem fo_4_95 : am_FOK 4 95 (4, 12, 0, false) := ⟨_, _, _, _, ck_4, by decide, am_gT 178 (by decide +kernel) rfl, rfl, rfl, Or.inl ⟨rfl, rfl⟩, fun _ => rfl⟩
theorem fo_4 : ∀ q ∈ am_fl_4, am_FOK 4 q.1 q.2 := List.forall_mem_cons.mpr ⟨fo_4_51, List.forall_mem_cons.mpr ⟨fo_4_123, List.forall_mem_cons.mpr ⟨fo_4_120, List.forall_mem_cons.mpr ⟨fo_4_74, List.forall_mem_cons.mpr ⟨fo_4_81, List.forall_mem_cons.mpr ⟨fo_4_114, List.forall_mem_cons.mpr ⟨fo_4_102, List.forall_mem_cons.mpr ⟨fo_4_86, List.forall_mem_cons.mpr ⟨fo_4_34, List.forall_mem_cons.mpr ⟨fo_4_15, List.forall_mem_cons.mpr ⟨fo_4_18, List.forall_mem_cons.mpr ⟨fo_4_47, List.forall_mem_cons.mpr ⟨fo_4_21, List.forall_mem_cons.mpr ⟨fo_4_61, List.forall_mem_cons.mpr ⟨fo_4_25, List.forall_mem_cons.mpr ⟨fo_4_28, List.forall_mem_cons.mpr ⟨fo_4_67, List.forall_mem_cons.mpr ⟨fo_4_31, List.forall_mem_cons.mpr ⟨fo_4_64, List.forall_mem_cons.mpr ⟨fo_4_54, List.forall_mem_cons.mpr ⟨fo_4_95, fun _ h => nomatch h⟩⟩⟩⟩⟩⟩⟩⟩⟩⟩⟩⟩⟩⟩⟩⟩⟩⟩⟩⟩⟩
theorem fo_5_117 : am_FOK 5 117 (7, 1, 0, false) := ⟨_, _, _, _, ck_7, by decide, am_gT 70 (by decide +kernel) rfl, rfl, rfl, Or.inl ⟨rfl, rfl⟩, fun _ => rfl⟩
theorem fo_5_99 : am_FOK 5 99 (7, 3, 0, false) := ⟨_, _, _, _, ck_7, by decide, am_gT 78 (by decide +kernel) rfl, rfl, rfl, Or.inl ⟨rfl, rfl⟩, fun _ => rfl⟩
theorem fo_5_58 : am_FOK 5 58 (9, 4, 2, true) := ⟨_, _, _, _, ck_9, by decide, am_gT 222 (by decide +kernel) rfl, rfl, rfl, Or.inr (Or.inr (Or.inl ⟨rfl, Or.inr ⟨_, rfl⟩⟩)), fun _ => rfl⟩
theorem fo_5_46 : am_FOK 5 46 (9, 5, 0, false) := ⟨_, _, _, _, ck_9, by decide, am_gT 227 (by decide +kernel) rfl, rfl, rfl, Or.inl ⟨rfl, rfl⟩, fun _ => rfl⟩
theorem fo_5_22 : am_FOK 5 22 (5, 0, 2, true) := ⟨_, _, _, _, ck_5, by decide, am_gT 252 (by decide +kernel) rfl, rfl, rfl, Or.inr (Or.inr (Or.inl ⟨rfl, Or.inl ⟨_, rfl⟩⟩)), fun _ => rfl⟩
theorem fo_5_26 : am_FOK 5 26 (5, 1, 2, true) := ⟨_, _, _, _, ck_5, by decide, am_gT 253 (by decide +kernel) rfl, rfl, rfl, Or.inr (Or.inr (Or.inl ⟨rfl, Or.inl ⟨_, rfl⟩⟩)), fun _ => rfl⟩
theorem fo_5_30 : am_FOK 5 30 (5, 2, 2, true) := ⟨_, _, _, _, ck_5, by decide, am_gT 254 (by decide +kernel) rfl, rfl, rfl, Or.inr (Or.inr (Or.inl ⟨rfl, Or.inr ⟨_, rfl⟩⟩)), fun _ => rfl⟩
theorem fo_5_11 : am_FOK 5 11 (5, 3, 2, true) := ⟨_, _, _, _, ck_5, by decide, am_gT 255 (by decide +kernel) rfl, rfl, rfl, Or.inr (Or.inr (Or.inl ⟨rfl, Or.inr ⟨_, rfl⟩⟩)), fun _ => rfl⟩
theorem fo_5_19 : am_FOK 5 19 (5, 4, 2, true) := ⟨_, _, _, _, ck_5, by decide, am_gT 256 (by decide +kernel) rfl, rfl, rfl, Or.inr (Or.inr (Or.inl ⟨rfl, Or.inr ⟨_, rfl⟩⟩)), fun _ => rfl⟩
theorem fo_5_127 : am_FOK 5 127 (5, 5, 0, false) := ⟨_, _, _, _, ck_5, by decide, am_gT 257 (by decide +kernel) rfl, rfl, rfl, Or.inl ⟨rfl, rfl⟩, fun _ => rfl⟩
theorem fo_5_130 : am_FOK 5 130 (5, 6, 0, false) := ⟨_, _, _, _, ck_5, by decide, am_gT 258 (by decide +kernel) rfl, rfl, rfl, Or.inl ⟨rfl, rfl⟩, fun _ => rfl⟩
theorem fo_5_74 : am_FOK 5 74 (3, 0, 2, true) := ⟨_, _, _, _, ck_3, by decide, am_gT 328 (by decide +kernel) rfl, rfl, rfl, Or.inr (Or.inr (Or.inl ⟨rfl, Or.inr ⟨_, rfl⟩⟩)), fun _ => rfl⟩
theorem fo_5_71 : am_FOK 5 71 (3, 1, 0, false) := ⟨_, _, _, _, ck_3, by decide, am_gT 331 (by decide +kernel) rfl, rfl, rfl, Or.inl ⟨rfl, rfl⟩, fun _ => rfl⟩
theorem fo_5 : ∀ q ∈ am_fl_5, am_FOK 5 q.1 q.2 := List.forall_mem_cons.mpr ⟨fo_5_117, List.forall_mem_cons.mpr ⟨fo_5_99, List.forall_mem_cons.mpr ⟨fo_5_58, List.forall_mem_cons.mpr ⟨fo_5_46, List.forall_mem_cons.mpr ⟨fo_5_22, List.forall_mem_cons.mpr ⟨fo_5_26, List.forall_mem_cons.mpr ⟨fo_5_30, List.forall_mem_cons.mpr ⟨fo_5_11, List.forall_mem_cons.mpr ⟨fo_5_19, List.forall_mem_cons.mpr ⟨fo_5_127, List.forall_mem_cons.mpr ⟨fo_5_130, List.forall_mem_cons.mpr ⟨fo_5_74, List.forall_mem_cons.mpr ⟨fo_5_71, fun _ h => nomatch h⟩⟩⟩⟩⟩⟩⟩⟩⟩⟩⟩⟩⟩
theorem fo_6_74 : am_FOK 6 74 (8, 2, 0, false) := ⟨_, _, _, _, ck_8, by decide, am_gT 47 (by decide +kernel) rfl, rfl, rfl, Or.inl ⟨rfl, rfl⟩, fun _ => rfl⟩
theorem fo_6_17 : am_FOK 6 17 (6, 0, 2, false) := ⟨_, _, _, _, ck_6, by decide, am_gT 143 (by decide +kernel) rfl, rfl, rfl, Or.inr (Or.inr (Or.inl ⟨rfl, Or.inr ⟨_, rfl⟩⟩)), fun _ => rfl⟩
theorem fo_6_23 : am_FOK 6 23 (6, 1, 0, false) := ⟨_, _, _, _, ck_6, by decide, am_gT 144 (by decide +kernel) rfl, rfl, rfl, Or.inl ⟨rfl, rfl⟩, fun _ => rfl⟩
theorem fo_6 : ∀ q ∈ am_fl_6, am_FOK 6 q.1 q.2 := List.forall_mem_cons.mpr ⟨fo_6_74, List.forall_mem_cons.mpr ⟨fo_6_17, List.forall_mem_cons.mpr ⟨fo_6_23, fun _ h => nomatch h⟩⟩⟩
theorem fo_7_59 : am_FOK 7 59 (8, 2, 0, false) := ⟨_, _, _, _, ck_8, by decide, am_gT 46 (by decide +kernel) rfl, rfl, rfl, Or.inl ⟨rfl, rfl⟩, fun _ => rfl⟩
theorem fo_7_11 : am_FOK 7 11 (7, 0, 2, true) := ⟨_, _, _, _, ck_7, by decide, am_gT 62 (by decide +kernel) rfl, rfl, rfl, Or.inr (Or.inr (Or.inl ⟨rfl, Or.inr ⟨_, rfl⟩⟩)), fun _ => rfl⟩
theorem fo_7_15 : am_FOK 7 15 (7, 1, 0, false) := ⟨_, _, _, _, ck_7, by decide, am_gT 67 (by decide +kernel) rfl, rfl, rfl, Or.inl ⟨rfl, rfl⟩, fun _ => rfl⟩
theorem fo_7_19 : am_FOK 7 19 (7, 2, 0, false) := ⟨_, _, _, _, ck_7, by decide, am_gT 71 (by decide +kernel) rfl, rfl, rfl, Or.inl ⟨rfl, rfl⟩, fun _ => rfl⟩
theorem fo_7_28 : am_FOK 7 28 (7, 3, 0, false) := ⟨_, _, _, _, ck_7, by decide, am_gT 75 (by decide +kernel) rfl, rfl, rfl, Or.inl ⟨rfl, rfl⟩, fun _ => rfl⟩
theorem fo_7_31 : am_FOK 7 31 (7, 4, 0, false) := ⟨_, _, _, _, ck_7, by decide, am_gT 81 (by decide +kernel) rfl, rfl, rfl, Or.inl ⟨rfl, rfl⟩, fun _ => rfl⟩
theorem fo_7 : ∀ q ∈ am_fl_7, am_FOK 7 q.1 q.2 := List.forall_mem_cons.mpr ⟨fo_7_59, List.forall_mem_cons.mpr ⟨fo_7_11, List.forall_mem_cons.mpr ⟨fo_7_15, List.forall_mem_cons.mpr ⟨fo_7_19, List.forall_mem_cons.mpr ⟨fo_7_28, List.forall_mem_cons.mpr ⟨fo_7_31, fun _ h => nomatch h⟩⟩⟩⟩⟩⟩
theorem fo_8_11 : am_FOK 8 11 (8, 0, 2, true) := ⟨_, _, _, _, ck_8, by decide, am_gT 40 (by decide +kernel) rfl, rfl, rfl, Or.inr (Or.inr (Or.inl ⟨rfl, Or.inr ⟨_, rfl⟩⟩)), fun _ => rfl⟩
theorem fo_8_19 : am_FOK 8 19 (8, 1, 0, false) := ⟨_, _, _, _, ck_8, by decide, am_gT 41 (by decide +kernel) rfl, rfl, rfl, Or.inl ⟨rfl, rfl⟩, fun _ => rfl⟩
theorem fo_8_15 : am_FOK 8 15 (8, 2, 0, false) := ⟨_, _, _, _, ck_8, by decide, am_gT 44 (by decide +kernel) rfl, rfl, rfl, Or.inl ⟨rfl, rfl⟩, fun _ => rfl⟩
theorem fo_8 : ∀ q ∈ am_fl_8, am_FOK 8 q.1 q.2 := List.forall_mem_cons.mpr ⟨fo_8_11, List.forall_mem_cons.mpr ⟨fo_8_19, List.forall_mem_cons.mpr ⟨fo_8_15, fun _ h => nomatch h⟩⟩⟩
theorem fo_9_15 : am_FOK 9 15 (9, 0, 0, true) := ⟨_, _, _, _, ck_9, by decide, am_gT 217 (by decide +kernel) rfl, rfl, rfl, Or.inl ⟨rfl, rfl⟩, fun _ => rfl⟩
theorem fo_9_27 : am_FOK 9 27 (9, 1, 0, true) := ⟨_, _, _, _, ck_9, by decide, am_gT 218 (by decide +kernel) rfl, rfl, rfl, Or.inl ⟨rfl, rfl⟩, fun _ => rfl⟩
theorem fo_9_30 : am_FOK 9 30 (9, 2, 2, true) := ⟨_, _, _, _, ck_9, by decide, am_gT 219 (by decide +kernel) rfl, rfl, rfl, Or.inr (Or.inr (Or.inl ⟨rfl, Or.inr ⟨_, rfl⟩⟩)), fun _ => rfl⟩
theorem fo_9_34 : am_FOK 9 34 (9, 3, 2, true) := ⟨_, _, _, _, ck_9, by decide, am_gT 220 (by decide +kernel) rfl, rfl, rfl, Or.inr (Or.inr (Or.inl ⟨rfl, Or.inr ⟨_, rfl⟩⟩)), fun _ => rfl⟩
theorem fo_9_37 : am_FOK 9 37 (9, 4, 2, true) := ⟨_, _, _, _, ck_9, by decide, am_gT 221 (by decide +kernel) rfl, rfl, rfl, Or.inr (Or.inr (Or.inl ⟨rfl, Or.inr ⟨_, rfl⟩⟩)), fun _ => rfl⟩
theorem fo_9_41 : am_FOK 9 41 (9, 5, 0, false) := ⟨_, _, _, _, ck_9, by decide, am_gT 226 (by decide +kernel) rfl, rfl, rfl, Or.inl ⟨rfl, rfl⟩, fun _ => rfl⟩
theorem fo_9 : ∀ q ∈ am_fl_9, am_FOK 9 q.1 q.2 := List.forall_mem_cons.mpr ⟨fo_9_15, List.forall_mem_cons.mpr ⟨fo_9_27, List.forall_mem_cons.mpr ⟨fo_9_30, List.forall_mem_cons.mpr ⟨fo_9_34, List.forall_mem_cons.mpr ⟨fo_9_37, List.forall_mem_cons.mpr ⟨fo_9_41, fun _ h => nomatch h⟩⟩⟩⟩⟩⟩
theorem fo_11_115 : am_FOK 11 115 (8, 1, 0, false) := ⟨_, _, _, _, ck_8, by decide, am_gT 42 (by decide +kernel) rfl, rfl, rfl, Or.inl ⟨rfl, rfl⟩, fun _ => rfl⟩
theorem fo_11_123 : am_FOK 11 123 (8, 2, 0, false) := ⟨_, _, _, _, ck_8, by decide, am_gT 45 (by decide +kernel) rfl, rfl, rfl, Or.inl ⟨rfl, rfl⟩, fun _ => rfl⟩
theorem fo_11_197 : am_FOK 11 197 (7, 0, 2, true) := ⟨_, _, _, _, ck_7, by decide, am_gT 66 (by decide +kernel) rfl, rfl, rfl, Or.inr (Or.inr (Or.inl ⟨rfl, Or.inr ⟨_, rfl⟩⟩)), fun _ => rfl⟩
theorem fo_11_170 : am_FOK 11 170 (7, 1, 0, false) := ⟨_, _, _, _, ck_7, by decide, am_gT 69 (by decide +kernel) rfl, rfl, rfl, Or.inl ⟨rfl, rfl⟩, fun _ => rfl⟩
theorem fo_11_361 : am_FOK 11 361 (7, 2, 0, false) := ⟨_, _, _, _, ck_7, by decide, am_gT 74 (by decide +kernel) rfl, rfl, rfl, Or.inl ⟨rfl, rfl⟩, fun _ => rfl⟩
theorem fo_11_231 : am_FOK 11 231 (7, 3, 0, false) := ⟨_, _, _, _, ck_7, by decide, am_gT 79 (by decide +kernel) rfl, rfl, rfl, Or.inl ⟨rfl, rfl⟩, fun _ => rfl⟩
theorem fo_11_219 : am_FOK 11 219 (7, 4, 0, false) := ⟨_, _, _, _, ck_7, by decide, am_gT 82 (by decide +kernel) rfl, rfl, rfl, Or.inl ⟨rfl, rfl⟩, fun _ => rfl⟩
theorem fo_11_203 : am_FOK 11 203 (2, 0, 0, false) := ⟨_, _, _, _, ck_2, by decide, am_gT 101 (by decide +kernel) rfl, rfl, rfl, Or.inl ⟨rfl, rfl⟩, fun _ => rfl⟩
theorem fo_11_249 : am_FOK 11 249 (9, 4, 2, true) := ⟨_, _, _, _, ck_9, by decide, am_gT 224 (by decide +kernel) rfl, rfl, rfl, Or.inr (Or.inr (Or.inl ⟨rfl, Or.inr ⟨_, rfl⟩⟩)), fun _ => rfl⟩
theorem fo_11_246 : am_FOK 11 246 (9, 5, 0, false) := ⟨_, _, _, _, ck_9, by decide, am_gT 228 (by decide +kernel) rfl, rfl, rfl, Or.inl ⟨rfl, rfl⟩, fun _ => rfl⟩
theorem fo_11_266 : am_FOK 11 266 (3, 1, 0, false) := ⟨_, _, _, _, ck_3, by decide, am_gT 332 (by decide +kernel) rfl, rfl, rfl, Or.inl ⟨rfl, rfl⟩, fun _ => rfl⟩
theorem fo_11_10 : am_FOK 11 10 (10, 0, 2, true) := ⟨_, _, _, _, ck_11, by decide, am_gT 341 (by decide +kernel) rfl, rfl, rfl, Or.inr (Or.inr (Or.inl ⟨rfl, Or.inl ⟨_, rfl⟩⟩)), fun _ => rfl⟩
theorem fo_11_19 : am_FOK 11 19 (10, 1, 2, true) := ⟨_, _, _, _, ck_11, by decide, am_gT 342 (by decide +kernel) rfl, rfl, rfl, Or.inr (Or.inr (Or.inl ⟨rfl, Or.inl ⟨_, rfl⟩⟩)), fun _ => rfl⟩
theorem fo_11_23 : am_FOK 11 23 (10, 2, 2, true) := ⟨_, _, _, _, ck_11, by decide, am_gT 343 (by decide +kernel) rfl, rfl, rfl, Or.inr (Or.inr (Or.inl ⟨rfl, Or.inl ⟨_, rfl⟩⟩)), fun _ => rfl⟩
theorem fo_11_29 : am_FOK 11 29 (10, 3, 2, true) := ⟨_, _, _, _, ck_11, by decide, am_gT 344 (by decide +kernel) rfl, rfl, rfl, Or.inr (Or.inr (Or.inl ⟨rfl, Or.inl ⟨_, rfl⟩⟩)), fun _ => rfl⟩
theorem fo_11_38 : am_FOK 11 38 (10, 4, 2, true) := ⟨_, _, _, _, ck_11, by decide, am_gT 345 (by decide +kernel) rfl, rfl, rfl, Or.inr (Or.inr (Or.inl ⟨rfl, Or.inl ⟨_, rfl⟩⟩)), fun _ => rfl⟩
theorem fo_11_46 : am_FOK 11 46 (10, 5, 2, true) := ⟨_, _, _, _, ck_11, by decide, am_gT 346 (by decide +kernel) rfl, rfl, rfl, Or.inr (Or.inr (Or.inl ⟨rfl, Or.inr ⟨_, rfl⟩⟩)), fun _ => rfl⟩
theorem fo_11_154 : am_FOK 11 154 (10, 6, 0, false) := ⟨_, _, _, _, ck_11, by decide, am_gT 347 (by decide +kernel) rfl, rfl, rfl, Or.inl ⟨rfl, rfl⟩, fun _ => rfl⟩
theorem fo_11_54 : am_FOK 11 54 (10, 7, 2, true) := ⟨_, _, _, _, ck_11, by decide, am_gT 348 (by decide +kernel) rfl, rfl, rfl, Or.inr (Or.inr (Or.inl ⟨rfl, Or.inr ⟨_, rfl⟩⟩)), fun _ => rfl⟩
theorem fo_11_180 : am_FOK 11 180 (10, 8, 0, false) := ⟨_, _, _, _, ck_11, by decide, am_gT 349 (by decide +kernel) rfl, rfl, rfl, Or.inl ⟨rfl, rfl⟩, fun _ => rfl⟩
theorem fo_11_157 : am_FOK 11 157 (10, 9, 0, false) := ⟨_, _, _, _, ck_11, by decide, am_gT 350 (by decide +kernel) rfl, rfl, rfl, Or.inl ⟨rfl, rfl⟩, fun _ => rfl⟩
theorem fo_11_58 : am_FOK 11 58 (10, 10, 2, true) := ⟨_, _, _, _, ck_11, by decide, am_gT 351 (by decide +kernel) rfl, rfl, rfl, Or.inr (Or.inr (Or.inl ⟨rfl, Or.inr ⟨_, rfl⟩⟩)), fun _ => rfl⟩
theorem fo_11_160 : am_FOK 11 160 (10, 11, 1, false) := ⟨_, _, _, _, ck_11, by decide, am_gT 352 (by decide +kernel) rfl, rfl, rfl, Or.inr (Or.inl ⟨rfl, rfl⟩), fun _ => rfl⟩
theorem fo_11_352 : am_FOK 11 352 (10, 12, 0, false) := ⟨_, _, _, _, ck_11, by decide, am_gT 353 (by decide +kernel) rfl, rfl, rfl, Or.inl ⟨rfl, rfl⟩, fun _ => rfl⟩
theorem fo_11_62 : am_FOK 11 62 (10, 13, 2, true) := ⟨_, _, _, _, ck_11, by decide, am_gT 354 (by decide +kernel) rfl, rfl, rfl, Or.inr (Or.inr (Or.inl ⟨rfl, Or.inr ⟨_, rfl⟩⟩)), fun _ => rfl⟩
theorem fo_11_70 : am_FOK 11 70 (10, 14, 2, true) := ⟨_, _, _, _, ck_11, by decide, am_gT 355 (by decide +kernel) rfl, rfl, rfl, Or.inr (Or.inr (Or.inl ⟨rfl, Or.inl ⟨_, rfl⟩⟩)), fun _ => rfl⟩
theorem fo_11_77 : am_FOK 11 77 (10, 15, 2, true) := ⟨_, _, _, _, ck_11, by decide, am_gT 356 (by decide +kernel) rfl, rfl, rfl, Or.inr (Or.inr (Or.inl ⟨rfl, Or.inl ⟨_, rfl⟩⟩)), fun _ => rfl⟩
theorem fo_11_86 : am_FOK 11 86 (10, 16, 2, true) := ⟨_, _, _, _, ck_11, by decide, am_gT 357 (by decide +kernel) rfl, rfl, rfl, Or.inr (Or.inr (Or.inl ⟨rfl, Or.inl ⟨_, rfl⟩⟩)), fun _ => rfl⟩
theorem fo_11_95 : am_FOK 11 95 (10, 17, 2, true) := ⟨_, _, _, _, ck_11, by decide, am_gT 358 (by decide +kernel) rfl, rfl, rfl, Or.inr (Or.inr (Or.inl ⟨rfl, Or.inl ⟨_, rfl⟩⟩)), fun _ => rfl⟩
theorem fo_11_104 : am_FOK 11 104 (10, 18, 2, true) := ⟨_, _, _, _, ck_11, by decide, am_gT 359 (by decide +kernel) rfl, rfl, rfl, Or.inr (Or.inr (Or.inl ⟨rfl, Or.inl ⟨_, rfl⟩⟩)), fun _ => rfl⟩
theorem fo_11_111 : am_FOK 11 111 (10, 19, 2, true) := ⟨_, _, _, _, ck_11, by decide, am_gT 360 (by decide +kernel) rfl, rfl, rfl, Or.inr (Or.inr (Or.inl ⟨rfl, Or.inl ⟨_, rfl⟩⟩)), fun _ => rfl⟩
theorem fo_11 : ∀ q ∈ am_fl_11, am_FOK 11 q.1 q.2 := List.forall_mem_cons.mpr ⟨fo_11_115, List.forall_mem_cons.mpr ⟨fo_11_123, List.forall_mem_cons.mpr ⟨fo_11_197, List.forall_mem_cons.mpr ⟨fo_11_170, List.forall_mem_cons.mpr ⟨fo_11_361, List.forall_mem_cons.mpr ⟨fo_11_231, List.forall_mem_cons.mpr ⟨fo_11_219, List.forall_mem_cons.mpr ⟨fo_11_203, List.forall_mem_cons.mpr ⟨fo_11_249, List.forall_mem_cons.mpr ⟨fo_11_246, List.forall_mem_cons.mpr ⟨fo_11_266, List.forall_mem_cons.mpr ⟨fo_11_10, List.forall_mem_cons.mpr ⟨fo_11_19, List.forall_mem_cons.mpr ⟨fo_11_23, List.forall_mem_cons.mpr ⟨fo_11_29, List.forall_mem_cons.mpr ⟨fo_11_38, List.forall_mem_cons.mpr ⟨fo_11_46, List.forall_mem_cons.mpr ⟨fo_11_154, List.forall_mem_cons.mpr ⟨fo_11_54, List.forall_mem_cons.mpr ⟨fo_11_180, List.forall_mem_cons.mpr ⟨fo_11_157, List.forall_mem_cons.mpr ⟨fo_11_58, List.forall_mem_cons.mpr ⟨fo_11_160, List.forall_mem_cons.mpr ⟨fo_11_352, List.forall_mem_cons.mpr ⟨fo_11_62, List.forall_mem_cons.mpr ⟨fo_11_70, List.forall_mem_cons.mpr ⟨fo_11_77, List.forall_mem_cons.mpr ⟨fo_11_86, List.forall_mem_cons.mpr ⟨fo_11_95, List.forall_mem_cons.mpr ⟨fo_11_104, List.forall_mem_cons.mpr ⟨fo_11_111, fun _ h => nomatch h⟩⟩⟩⟩⟩⟩⟩⟩⟩⟩⟩⟩⟩⟩⟩⟩⟩⟩⟩⟩⟩⟩⟩⟩⟩⟩⟩⟩⟩⟩⟩
theorem fo_12_105 : am_FOK 12 105 (11, 0, 0, false) := ⟨_, _, _, _, ck_12, by decide, am_gT 1113 (by decide +kernel) rfl, rfl, rfl, Or.inl ⟨rfl, rfl⟩, fun _ => rfl⟩
theorem fo_12_9 : am_FOK 12 9 (11, 1, 2, true) := ⟨_, _, _, _, ck_12, by decide, am_gT 1114 (by decide +kernel) rfl, rfl, rfl, Or.inr (Or.inr (Or.inl ⟨rfl, Or.inr ⟨_, rfl⟩⟩)), fun _ => rfl⟩
theorem fo_12_13 : am_FOK 12 13 (11, 2, 2, true) := ⟨_, _, _, _, ck_12, by decide, am_gT 1115 (by decide +kernel) rfl, rfl, rfl, Or.inr (Or.inr (Or.inl ⟨rfl, Or.inr ⟨_, rfl⟩⟩)), fun _ => rfl⟩
theorem fo_12_16 : am_FOK 12 16 (11, 3, 2, true) := ⟨_, _, _, _, ck_12, by decide, am_gT 1116 (by decide +kernel) rfl, rfl, rfl, Or.inr (Or.inr (Or.inl ⟨rfl, Or.inr ⟨_, rfl⟩⟩)), fun _ => rfl⟩
theorem fo_12_20 : am_FOK 12 20 (11, 4, 2, true) := ⟨_, _, _, _, ck_12, by decide, am_gT 1117 (by decide +kernel) rfl, rfl, rfl, Or.inr (Or.inr (Or.inl ⟨rfl, Or.inr ⟨_, rfl⟩⟩)), fun _ => rfl⟩
theorem fo_12_23 : am_FOK 12 23 (11, 5, 2, false) := ⟨_, _, _, _, ck_12, by decide, am_gT 1118 (by decide +kernel) rfl, rfl, rfl, Or.inr (Or.inr (Or.inl ⟨rfl, Or.inr ⟨_, rfl⟩⟩)), fun _ => rfl⟩
theorem fo_12_119 : am_FOK 12 119 (11, 6, 0, false) := ⟨_, _, _, _, ck_12, by decide, am_gT 1119 (by decide +kernel) rfl, rfl, rfl, Or.inl ⟨rfl, rfl⟩, fun _ => rfl⟩
theorem fo_12_255 : am_FOK 12 255 (11, 7, 0, false) := ⟨_, _, _, _, ck_12, by decide, am_gT 1120 (by decide +kernel) rfl, rfl, rfl, Or.inl ⟨rfl, rfl⟩, fun _ => rfl⟩
theorem fo_12_135 : am_FOK 12 135 (11, 8, 0, false) := ⟨_, _, _, _, ck_12, by decide, am_gT 1121 (by decide +kernel) rfl, rfl, rfl, Or.inl ⟨rfl, rfl⟩, fun _ => rfl⟩
theorem fo_12_132 : am_FOK 12 132 (11, 9, 0, false) := ⟨_, _, _, _, ck_12, by decide, am_gT 1122 (by decide +kernel) rfl, rfl, rfl, Or.inl ⟨rfl, rfl⟩, fun _ => rfl⟩
theorem fo_12_129 : am_FOK 12 129 (11, 10, 0, false) := ⟨_, _, _, _, ck_12, by decide, am_gT 1123 (by decide +kernel) rfl, rfl, rfl, Or.inl ⟨rfl, rfl⟩, fun _ => rfl⟩
theorem fo_12_138 : am_FOK 12 138 (11, 11, 0, false) := ⟨_, _, _, _, ck_12, by decide, am_gT 1124 (by decide +kernel) rfl, rfl, rfl, Or.inl ⟨rfl, rfl⟩, fun _ => rfl⟩
theorem fo_12_141 : am_FOK 12 141 (11, 12, 0, false) := ⟨_, _, _, _, ck_12, by decide, am_gT 1125 (by decide +kernel) rfl, rfl, rfl, Or.inl ⟨rfl, rfl⟩, fun _ => rfl⟩
theorem fo_12_211 : am_FOK 12 211 (11, 13, 0, false) := ⟨_, _, _, _, ck_12, by decide, am_gT 1126 (by decide +kernel) rfl, rfl, rfl, Or.inl ⟨rfl, rfl⟩, fun _ => rfl⟩
theorem fo_12_214 : am_FOK 12 214 (11, 14, 0, false) := ⟨_, _, _, _, ck_12, by decide, am_gT 1127 (by decide +kernel) rfl, rfl, rfl, Or.inl ⟨rfl, rfl⟩, fun _ => rfl⟩
theorem fo_12_28 : am_FOK 12 28 (11, 15, 2, true) := ⟨_, _, _, _, ck_12, by decide, am_gT 1128 (by decide +kernel) rfl, rfl, rfl, Or.inr (Or.inr (Or.inl ⟨rfl, Or.inl ⟨_, rfl⟩⟩)), fun _ => rfl⟩
theorem fo_12_34 : am_FOK 12 34 (11, 16, 2, true) := ⟨_, _, _, _, ck_12, by decide, am_gT 1129 (by decide +kernel) rfl, rfl, rfl, Or.inr (Or.inr (Or.inl ⟨rfl, Or.inl ⟨_, rfl⟩⟩)), fun _ => rfl⟩
theorem fo_12_207 : am_FOK 12 207 (11, 17, 1, false) := ⟨_, _, _, _, ck_12, by decide, am_gT 1130 (by decide +kernel) rfl, rfl, rfl, Or.inr (Or.inl ⟨rfl, rfl⟩), fun _ => rfl⟩
theorem fo_12_37 : am_FOK 12 37 (11, 18, 2, true) := ⟨_, _, _, _, ck_12, by decide, am_gT 1131 (by decide +kernel) rfl, rfl, rfl, Or.inr (Or.inr (Or.inl ⟨rfl, Or.inr ⟨_, rfl⟩⟩)), fun _ => rfl⟩
theorem fo_12_40 : am_FOK 12 40 (11, 19, 2, true) := ⟨_, _, _, _, ck_12, by decide, am_gT 1132 (by decide +kernel) rfl, rfl, rfl, Or.inr (Or.inr (Or.inl ⟨rfl, Or.inr ⟨_, rfl⟩⟩)), fun _ => rfl⟩
theorem fo_12_43 : am_FOK 12 43 (11, 20, 2, true) := ⟨_, _, _, _, ck_12, by decide, am_gT 1133 (by decide +kernel) rfl, rfl, rfl, Or.inr (Or.inr (Or.inl ⟨rfl, Or.inr ⟨_, rfl⟩⟩)), fun _ => rfl⟩
theorem fo_12_238 : am_FOK 12 238 (11, 21, 0, false) := ⟨_, _, _, _, ck_12, by decide, am_gT 1134 (by decide +kernel) rfl, rfl, rfl, Or.inl ⟨rfl, rfl⟩, fun _ => rfl⟩
theorem fo_12_260 : am_FOK 12 260 (11, 22, 0, false) := ⟨_, _, _, _, ck_12, by decide, am_gT 1135 (by decide +kernel) rfl, rfl, rfl, Or.inl ⟨rfl, rfl⟩, fun _ => rfl⟩
theorem fo_12_263 : am_FOK 12 263 (11, 23, 0, false) := ⟨_, _, _, _, ck_12, by decide, am_gT 1136 (by decide +kernel) rfl, rfl, rfl, Or.inl ⟨rfl, rfl⟩, fun _ => rfl⟩
theorem fo_12_266 : am_FOK 12 266 (11, 24, 0, false) := ⟨_, _, _, _, ck_12, by decide, am_gT 1137 (by decide +kernel) rfl, rfl, rfl, Or.inl ⟨rfl, rfl⟩, fun _ => rfl⟩
theorem fo_12_231 : am_FOK 12 231 (11, 25, 0, false) := ⟨_, _, _, _, ck_12, by decide, am_gT 1138 (by decide +kernel) rfl, rfl, rfl, Or.inl ⟨rfl, rfl⟩, fun _ => rfl⟩
theorem fo_12_46 : am_FOK 12 46 (11, 26, 2, true) := ⟨_, _, _, _, ck_12, by decide, am_gT 1139 (by decide +kernel) rfl, rfl, rfl, Or.inr (Or.inr (Or.inl ⟨rfl, Or.inr ⟨_, rfl⟩⟩)), fun _ => rfl⟩
theorem fo_12_49 : am_FOK 12 49 (11, 27, 2, true) := ⟨_, _, _, _, ck_12, by decide, am_gT 1140 (by decide +kernel) rfl, rfl, rfl, Or.inr (Or.inr (Or.inl ⟨rfl, Or.inr ⟨_, rfl⟩⟩)), fun _ => rfl⟩
theorem fo_12_252 : am_FOK 12 252 (11, 28, 0, false) := ⟨_, _, _, _, ck_12, by decide, am_gT 1141 (by decide +kernel) rfl, rfl, rfl, Or.inl ⟨rfl, rfl⟩, fun _ => rfl⟩
theorem fo_12_52 : am_FOK 12 52 (11, 29, 2, true) := ⟨_, _, _, _, ck_12, by decide, am_gT 1142 (by decide +kernel) rfl, rfl, rfl, Or.inr (Or.inr (Or.inl ⟨rfl, Or.inr ⟨_, rfl⟩⟩)), fun _ => rfl⟩
theorem fo_12_55 : am_FOK 12 55 (11, 30, 2, true) := ⟨_, _, _, _, ck_12, by decide, am_gT 1143 (by decide +kernel) rfl, rfl, rfl, Or.inr (Or.inr (Or.inl ⟨rfl, Or.inr ⟨_, rfl⟩⟩)), fun _ => rfl⟩
theorem fo_12_58 : am_FOK 12 58 (11, 31, 2, true) := ⟨_, _, _, _, ck_12, by decide, am_gT 1144 (by decide +kernel) rfl, rfl, rfl, Or.inr (Or.inr (Or.inl ⟨rfl, Or.inr ⟨_, rfl⟩⟩)), fun _ => rfl⟩
theorem fo_12_61 : am_FOK 12 61 (11, 32, 2, true) := ⟨_, _, _, _, ck_12, by decide, am_gT 1145 (by decide +kernel) rfl, rfl, rfl, Or.inr (Or.inr (Or.inl ⟨rfl, Or.inr ⟨_, rfl⟩⟩)), fun _ => rfl⟩
theorem fo_12_64 : am_FOK 12 64 (11, 33, 2, true) := ⟨_, _, _, _, ck_12, by decide, am_gT 1146 (by decide +kernel) rfl, rfl, rfl, Or.inr (Or.inr (Or.inl ⟨rfl, Or.inr ⟨_, rfl⟩⟩)), fun _ => rfl⟩
theorem fo_12_481 : am_FOK 12 481 (11, 34, 3, false) := ⟨_, _, _, _, ck_12, by decide, am_gT 1147 (by decide +kernel) rfl, rfl, rfl, Or.inr (Or.inr (Or.inr ⟨rfl, rfl⟩)), fun _ => rfl⟩
theorem fo_12_269 : am_FOK 12 269 (11, 35, 1, false) := ⟨_, _, _, _, ck_12, by decide, am_gT 1148 (by decide +kernel) rfl, rfl, rfl, Or.inr (Or.inl ⟨rfl, rfl⟩), fun _ => rfl⟩
theorem fo_12_67 : am_FOK 12 67 (11, 36, 2, true) := ⟨_, _, _, _, ck_12, by decide, am_gT 1149 (by decide +kernel) rfl, rfl, rfl, Or.inr (Or.inr (Or.inl ⟨rfl, Or.inr ⟨_, rfl⟩⟩)), fun _ => rfl⟩
theorem fo_12_72 : am_FOK 12 72 (11, 37, 2, true) := ⟨_, _, _, _, ck_12, by decide, am_gT 1150 (by decide +kernel) rfl, rfl, rfl, Or.inr (Or.inr (Or.inl ⟨rfl, Or.inr ⟨_, rfl⟩⟩)), fun _ => rfl⟩
theorem fo_12_75 : am_FOK 12 75 (11, 38, 2, true) := ⟨_, _, _, _, ck_12, by decide, am_gT 1151 (by decide +kernel) rfl, rfl, rfl, Or.inr (Or.inr (Or.inl ⟨rfl, Or.inr ⟨_, rfl⟩⟩)), fun _ => rfl⟩
theorem fo_12_302 : am_FOK 12 302 (11, 39, 0, false) := ⟨_, _, _, _, ck_12, by decide, am_gT 1152 (by decide +kernel) rfl, rfl, rfl, Or.inl ⟨rfl, rfl⟩, fun _ => rfl⟩
theorem fo_12_318 : am_FOK 12 318 (11, 40, 0, false) := ⟨_, _, _, _, ck_12, by decide, am_gT 1153 (by decide +kernel) rfl, rfl, rfl, Or.inl ⟨rfl, rfl⟩, fun _ => rfl⟩
theorem fo_12_78 : am_FOK 12 78 (11, 41, 2, true) := ⟨_, _, _, _, ck_12, by decide, am_gT 1154 (by decide +kernel) rfl, rfl, rfl, Or.inr (Or.inr (Or.inl ⟨rfl, Or.inr ⟨_, rfl⟩⟩)), fun _ => rfl⟩
theorem fo_12_81 : am_FOK 12 81 (11, 42, 2, true) := ⟨_, _, _, _, ck_12, by decide, am_gT 1155 (by decide +kernel) rfl, rfl, rfl, Or.inr (Or.inr (Or.inl ⟨rfl, Or.inr ⟨_, rfl⟩⟩)), fun _ => rfl⟩
theorem fo_12_84 : am_FOK 12 84 (11, 43, 2, true) := ⟨_, _, _, _, ck_12, by decide, am_gT 1156 (by decide +kernel) rfl, rfl, rfl, Or.inr (Or.inr (Or.inl ⟨rfl, Or.inr ⟨_, rfl⟩⟩)), fun _ => rfl⟩
theorem fo_12_87 : am_FOK 12 87 (11, 44, 2, true) := ⟨_, _, _, _, ck_12, by decide, am_gT 1157 (by decide +kernel) rfl, rfl, rfl, Or.inr (Or.inr (Or.inl ⟨rfl, Or.inr ⟨_, rfl⟩⟩)), fun _ => rfl⟩
theorem fo_12_90 : am_FOK 12 90 (11, 45, 2, true) := ⟨_, _, _, _, ck_12, by decide, am_gT 1158 (by decide +kernel) rfl, rfl, rfl, Or.inr (Or.inr (Or.inl ⟨rfl, Or.inr ⟨_, rfl⟩⟩)), fun _ => rfl⟩
theorem fo_12_346 : am_FOK 12 346 (11, 46, 0, false) := ⟨_, _, _, _, ck_12, by decide, am_gT 1159 (by decide +kernel) rfl, rfl, rfl, Or.inl ⟨rfl, rfl⟩, fun _ => rfl⟩
theorem fo_12_341 : am_FOK 12 341 (11, 47, 0, false) := ⟨_, _, _, _, ck_12, by decide, am_gT 1160 (by decide +kernel) rfl, rfl, rfl, Or.inl ⟨rfl, rfl⟩, fun _ => rfl⟩
theorem fo_12_388 : am_FOK 12 388 (11, 48, 0, false) := ⟨_, _, _, _, ck_12, by decide, am_gT 1161 (by decide +kernel) rfl, rfl, rfl, Or.inl ⟨rfl, rfl⟩, fun _ => rfl⟩
theorem fo_12_385 : am_FOK 12 385 (11, 49, 0, false) := ⟨_, _, _, _, ck_12, by decide, am_gT 1162 (by decide +kernel) rfl, rfl, rfl, Or.inl ⟨rfl, rfl⟩, fun _ => rfl⟩
theorem fo_12_93 : am_FOK 12 93 (11, 50, 2, true) := ⟨_, _, _, _, ck_12, by decide, am_gT 1163 (by decide +kernel) rfl, rfl, rfl, Or.inr (Or.inr (Or.inl ⟨rfl, Or.inr ⟨_, rfl⟩⟩)), fun _ => rfl⟩
theorem fo_12_96 : am_FOK 12 96 (11, 51, 2, true) := ⟨_, _, _, _, ck_12, by decide, am_gT 1164 (by decide +kernel) rfl, rfl, rfl, Or.inr (Or.inr (Or.inl ⟨rfl, Or.inr ⟨_, rfl⟩⟩)), fun _ => rfl⟩
theorem fo_12_99 : am_FOK 12 99 (11, 52, 2, true) := ⟨_, _, _, _, ck_12, by decide, am_gT 1165 (by decide +kernel) rfl, rfl, rfl, Or.inr (Or.inr (Or.inl ⟨rfl, Or.inr ⟨_, rfl⟩⟩)), fun _ => rfl⟩
theorem fo_12_102 : am_FOK 12 102 (11, 53, 2, true) := ⟨_, _, _, _, ck_12, by decide, am_gT 1166 (by decide +kernel) rfl, rfl, rfl, Or.inr (Or.inr (Or.inl ⟨rfl, Or.inr ⟨_, rfl⟩⟩)), fun _ => rfl⟩
theorem fo_12_444 : am_FOK 12 444 (11, 54, 0, false) := ⟨_, _, _, _, ck_12, by decide, am_gT 1167 (by decide +kernel) rfl, rfl, rfl, Or.inl ⟨rfl, rfl⟩, fun _ => rfl⟩
theorem fo_12_441 : am_FOK 12 441 (11, 55, 1, false) := ⟨_, _, _, _, ck_12, by decide, am_gT 1168 (by decide +kernel) rfl, rfl, rfl, Or.inr (Or.inl ⟨rfl, rfl⟩), fun _ => rfl⟩
theorem fo_12_467 : am_FOK 12 467 (11, 56, 1, false) := ⟨_, _, _, _, ck_12, by decide, am_gT 1169 (by decide +kernel) rfl, rfl, rfl, Or.inr (Or.inl ⟨rfl, rfl⟩), fun _ => rfl⟩
theorem fo_12_464 : am_FOK 12 464 (11, 57, 1, false) := ⟨_, _, _, _, ck_12, by decide, am_gT 1170 (by decide +kernel) rfl, rfl, rfl, Or.inr (Or.inl ⟨rfl, rfl⟩), fun _ => rfl⟩
theorem fo_12 : ∀ q ∈ am_fl_12, am_FOK 12 q.1 q.2 := List.forall_mem_cons.mpr ⟨fo_12_105, List.forall_mem_cons.mpr ⟨fo_12_9, List.forall_mem_cons.mpr ⟨fo_12_13, List.forall_mem_cons.mpr ⟨fo_12_16, List.forall_mem_cons.mpr ⟨fo_12_20, List.forall_mem_cons.mpr ⟨fo_12_23, List.forall_mem_cons.mpr ⟨fo_12_119, List.forall_mem_cons.mpr ⟨fo_12_255, List.forall_mem_cons.mpr ⟨fo_12_135, List.forall_mem_cons.mpr ⟨fo_12_132, List.forall_mem_cons.mpr ⟨fo_12_129, List.forall_mem_cons.mpr ⟨fo_12_138, List.forall_mem_cons.mpr ⟨fo_12_141, List.forall_mem_cons.mpr ⟨fo_12_211, List.forall_mem_cons.mpr ⟨fo_12_214, List.forall_mem_cons.mpr ⟨fo_12_28, List.forall_mem_cons.mpr ⟨fo_12_34, List.forall_mem_cons.mpr ⟨fo_12_207, List.forall_mem_cons.mpr ⟨fo_12_37, List.forall_mem_cons.mpr ⟨fo_12_40, List.forall_mem_cons.mpr ⟨fo_12_43, List.forall_mem_cons.mpr ⟨fo_12_238, List.forall_mem_cons.mpr ⟨fo_12_260, List.forall_mem_cons.mpr ⟨fo_12_263, List.forall_mem_cons.mpr ⟨fo_12_266, List.forall_mem_cons.mpr ⟨fo_12_231, List.forall_mem_cons.mpr ⟨fo_12_46, List.forall_mem_cons.mpr ⟨fo_12_49, List.forall_mem_cons.mpr ⟨fo_12_252, List.forall_mem_cons.mpr ⟨fo_12_52, List.forall_mem_cons.mpr ⟨fo_12_55, List.forall_mem_cons.mpr ⟨fo_12_58, List.forall_mem_cons.mpr ⟨fo_12_61, List.forall_mem_cons.mpr ⟨fo_12_64, List.forall_mem_cons.mpr ⟨fo_12_481, List.forall_mem_cons.mpr ⟨fo_12_269, List.forall_mem_cons.mpr ⟨fo_12_67, List.forall_mem_cons.mpr ⟨fo_12_72, List.forall_mem_cons.mpr ⟨fo_12_75, List.forall_mem_cons.mpr ⟨fo_12_302, List.forall_mem_cons.mpr ⟨fo_12_318, List.forall_mem_cons.mpr ⟨fo_12_78, List.forall_mem_cons.mpr ⟨fo_12_81, List.forall_mem_cons.mpr ⟨fo_12_84, List.forall_mem_cons.mpr ⟨fo_12_87, List.forall_mem_cons.mpr ⟨fo_12_90, List.forall_mem_cons.mpr ⟨fo_12_346, List.forall_mem_cons.mpr ⟨fo_12_341, List.forall_mem_cons.mpr ⟨fo_12_388, List.forall_mem_cons.mpr ⟨fo_12_385, List.forall_mem_cons.mpr ⟨fo_12_93, List.forall_mem_cons.mpr ⟨fo_12_96, List.forall_mem_cons.mpr ⟨fo_12_99, List.forall_mem_cons.mpr ⟨fo_12_102, List.forall_mem_cons.mpr ⟨fo_12_444, List.forall_mem_cons.mpr ⟨fo_12_441, List.forall_mem_cons.mpr ⟨fo_12_467, List.forall_mem_cons.mpr ⟨fo_12_464, fun _ h => nomatch h⟩⟩⟩⟩⟩⟩⟩⟩⟩⟩⟩⟩⟩⟩⟩⟩⟩⟩⟩⟩⟩⟩⟩⟩⟩⟩⟩⟩⟩⟩⟩⟩⟩⟩⟩⟩⟩⟩⟩⟩⟩⟩⟩⟩⟩⟩⟩⟩⟩⟩⟩⟩⟩⟩⟩⟩⟩⟩
theorem am_fl_ok {own x : Nat} {e : Nat × Nat × Nat × Bool} (h : am_look (am_fl own) x = some e) : am_FOK own x e := by
  have hm := am_look_mem h
  unfold am_fl at hm
  split at hm
  · exact fo_0 _ hm
  · exact fo_1 _ hm
  · exact fo_2 _ hm
  · exact fo_3 _ hm
  · exact fo_4 _ hm
  · exact fo_5 _ hm
  · exact fo_6 _ hm
  · exact fo_7 _ hm
  · exact fo_8 _ hm
  · exact fo_9 _ hm
  · exact fo_11 _ hm
  · exact fo_12 _ hm
  · exact nomatch hm

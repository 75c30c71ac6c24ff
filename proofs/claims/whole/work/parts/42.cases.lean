/-! THE LAW: its cases, one by one (printed by wip/whole/genlaw.py) -/
theorem lg_cmp_self (z : Int64) : lg_cmp z z = 0 := by
  unfold lg_cmp
  rw [if_neg (by simp), if_pos rfl]
theorem lw_br {pc : Nat} {L : AmL} {z : Int32} (h : lw_one pc L [.int z, .int z] = if z = z then some (1514, L, []) else some (pc + 3, L, [])) : lw_wk 1 pc L [.int z, .int z] = some (1514, L, []) := by
  show (match lw_one pc L [.int z, .int z] with
    | some (pc', L', st') => lw_wk 0 pc' L' st'
    | none => none) = _
  rw [h, if_pos rfl]
  rfl
def lw_Sh (Inv : AmH → AmH → Prop) : Prop := ∀ hx hm, Inv hx hm → (∃ fs, hx[0]? = some (.inr (10, fs))) ∧ ∃ fs, hm[0]? = some (.inr (11, fs))
/-- class and model answer alike, and stand alike behind it -/
def lw_AgI (Inv : AmH → AmH → Prop) (mx mm : AmM) (as : List Value) : Prop := ∀ hx hm, Inv hx hm → ∃ (z : Int32) (hx' hm' : AmH) (kx jx km jm : Nat), Rn 100 mx 0 (am_ent (.ref 0 :: as) mx.2.2.2.1) [] hx (some (.int z), hx', kx, jx) ∧ Rn 100 mm 0 (am_ent (.ref 0 :: as) mm.2.2.2.1) [] hm (some (.int z), hm', km, jm) ∧ kx + km ≤ 8 ∧ jx + jm ≤ 2000 ∧ Inv hx' hm'
def lw_AgL (Inv : AmH → AmH → Prop) (mx mm : AmM) (as : List Value) : Prop := ∀ hx hm, Inv hx hm → ∃ (z : Int64) (hx' hm' : AmH) (kx jx km jm : Nat), Rn 100 mx 0 (am_ent (.ref 0 :: as) mx.2.2.2.1) [] hx (some (.long z), hx', kx, jx) ∧ Rn 100 mm 0 (am_ent (.ref 0 :: as) mm.2.2.2.1) [] hm (some (.long z), hm', km, jm) ∧ kx + km ≤ 8 ∧ jx + jm ≤ 2000 ∧ Inv hx' hm'
/-- what stands behind a case -/
def LwK (Inv : AmH → AmH → Prop) (p : Program) (l : Launch) (e : Env) (s : State) (m : MethodId) (below : List Frame) (meth : Method) (c : Code) (D : va_G) (sa : Nat → Nat) (b qx qm qo i : Nat) (cells slots : Nat) (Q : State → Prop) : Prop := ∀ (hx' hm' : AmH) (H' : Heap) (locs' : List Loc) (ls' : Array Slot) (cells' slots' : Nat) (u' w' : Option Value), Inv hx' hm' → LwS D sa s H' locs' hx' hm' qx qm qo → am_lr (fun _ => 0) (lw_sa b qx qm qo) ls' 7 (lw_L i u' w') → cells' ≤ cells + 8 → slots' ≤ slots + 2000 → W p l e room_1 s m #[Value.ref b] below meth c H' locs' cells' slots' Q (F0 m 1514 ls' [])
theorem dL_law_0 : decode cL_law 0 = .ok (.new 8, 3) := by decide +kernel
theorem dL_law_3 : decode cL_law 3 = .ok (.dup, 1) := by decide +kernel
theorem dL_law_4 : decode cL_law 4 = .ok (.invokespecial 15, 3) := by decide +kernel
theorem dL_law_7 : decode cL_law 7 = .ok (.astore_n 1, 1) := by decide +kernel
theorem dL_law_8 : decode cL_law 8 = .ok (.new 16, 3) := by decide +kernel
theorem dL_law_11 : decode cL_law 11 = .ok (.dup, 1) := by decide +kernel
theorem dL_law_12 : decode cL_law 12 = .ok (.invokespecial 18, 3) := by decide +kernel
theorem dL_law_15 : decode cL_law 15 = .ok (.astore_n 2, 1) := by decide +kernel
theorem dL_law_16 : decode cL_law 16 = .ok (.iconst 1, 1) := by decide +kernel
theorem dL_law_17 : decode cL_law 17 = .ok (.newarray .long, 2) := by decide +kernel
theorem dL_law_19 : decode cL_law 19 = .ok (.astore_n 3, 1) := by decide +kernel
theorem dL_law_26 : decode cL_law 26 = .ok (.arraylength, 1) := by decide +kernel
theorem dL_law_36 : decode cL_law 36 = .ok (.iaload, 1) := by decide +kernel
theorem dL_law_218 : decode cL_law 218 = .ok (.iaload, 1) := by decide +kernel
theorem dL_law_224 : decode cL_law 224 = .ok (.iaload, 1) := by decide +kernel
theorem dL_law_230 : decode cL_law 230 = .ok (.iaload, 1) := by decide +kernel
theorem dL_law_236 : decode cL_law 236 = .ok (.iaload, 1) := by decide +kernel
theorem dL_law_242 : decode cL_law 242 = .ok (.iaload, 1) := by decide +kernel
theorem dL_law_243 : decode cL_law 243 = .ok (.invokevirtual 19, 3) := by decide +kernel
theorem dL_law_252 : decode cL_law 252 = .ok (.iaload, 1) := by decide +kernel
theorem dL_law_258 : decode cL_law 258 = .ok (.iaload, 1) := by decide +kernel
theorem dL_law_264 : decode cL_law 264 = .ok (.iaload, 1) := by decide +kernel
theorem dL_law_270 : decode cL_law 270 = .ok (.iaload, 1) := by decide +kernel
theorem dL_law_276 : decode cL_law 276 = .ok (.iaload, 1) := by decide +kernel
theorem dL_law_277 : decode cL_law 277 = .ok (.invokevirtual 23, 3) := by decide +kernel
theorem dL_law_291 : decode cL_law 291 = .ok (.iaload, 1) := by decide +kernel
theorem dL_law_292 : decode cL_law 292 = .ok (.invokevirtual 24, 3) := by decide +kernel
theorem dL_law_301 : decode cL_law 301 = .ok (.iaload, 1) := by decide +kernel
theorem dL_law_302 : decode cL_law 302 = .ok (.invokevirtual 28, 3) := by decide +kernel
theorem dL_law_316 : decode cL_law 316 = .ok (.iaload, 1) := by decide +kernel
theorem dL_law_317 : decode cL_law 317 = .ok (.invokevirtual 29, 3) := by decide +kernel
theorem dL_law_326 : decode cL_law 326 = .ok (.iaload, 1) := by decide +kernel
theorem dL_law_327 : decode cL_law 327 = .ok (.invokevirtual 32, 3) := by decide +kernel
theorem dL_law_341 : decode cL_law 341 = .ok (.iaload, 1) := by decide +kernel
theorem dL_law_342 : decode cL_law 342 = .ok (.invokevirtual 33, 3) := by decide +kernel
theorem dL_law_351 : decode cL_law 351 = .ok (.iaload, 1) := by decide +kernel
theorem dL_law_352 : decode cL_law 352 = .ok (.invokevirtual 36, 3) := by decide +kernel
theorem dL_law_422 : decode cL_law 422 = .ok (.iaload, 1) := by decide +kernel
theorem dL_law_428 : decode cL_law 428 = .ok (.iaload, 1) := by decide +kernel
theorem dL_law_429 : decode cL_law 429 = .ok (.invokevirtual 47, 3) := by decide +kernel
theorem dL_law_438 : decode cL_law 438 = .ok (.iaload, 1) := by decide +kernel
theorem dL_law_444 : decode cL_law 444 = .ok (.iaload, 1) := by decide +kernel
theorem dL_law_445 : decode cL_law 445 = .ok (.invokevirtual 51, 3) := by decide +kernel
theorem dL_law_459 : decode cL_law 459 = .ok (.iaload, 1) := by decide +kernel
theorem dL_law_465 : decode cL_law 465 = .ok (.iaload, 1) := by decide +kernel
theorem dL_law_466 : decode cL_law 466 = .ok (.invokevirtual 52, 3) := by decide +kernel
theorem dL_law_475 : decode cL_law 475 = .ok (.iaload, 1) := by decide +kernel
theorem dL_law_481 : decode cL_law 481 = .ok (.iaload, 1) := by decide +kernel
theorem dL_law_482 : decode cL_law 482 = .ok (.invokevirtual 56, 3) := by decide +kernel
theorem dL_law_496 : decode cL_law 496 = .ok (.iaload, 1) := by decide +kernel
theorem dL_law_497 : decode cL_law 497 = .ok (.invokevirtual 57, 3) := by decide +kernel
theorem dL_law_506 : decode cL_law 506 = .ok (.iaload, 1) := by decide +kernel
theorem dL_law_507 : decode cL_law 507 = .ok (.invokevirtual 60, 3) := by decide +kernel
theorem dL_law_521 : decode cL_law 521 = .ok (.iaload, 1) := by decide +kernel
theorem dL_law_527 : decode cL_law 527 = .ok (.iaload, 1) := by decide +kernel
theorem dL_law_528 : decode cL_law 528 = .ok (.invokevirtual 61, 3) := by decide +kernel
theorem dL_law_537 : decode cL_law 537 = .ok (.iaload, 1) := by decide +kernel
theorem dL_law_543 : decode cL_law 543 = .ok (.iaload, 1) := by decide +kernel
theorem dL_law_544 : decode cL_law 544 = .ok (.invokevirtual 64, 3) := by decide +kernel
theorem dL_law_558 : decode cL_law 558 = .ok (.iaload, 1) := by decide +kernel
theorem dL_law_559 : decode cL_law 559 = .ok (.invokevirtual 65, 3) := by decide +kernel
theorem dL_law_568 : decode cL_law 568 = .ok (.iaload, 1) := by decide +kernel
theorem dL_law_569 : decode cL_law 569 = .ok (.invokevirtual 68, 3) := by decide +kernel
theorem dL_law_578 : decode cL_law 578 = .ok (.invokevirtual 69, 3) := by decide +kernel
theorem dL_law_582 : decode cL_law 582 = .ok (.invokevirtual 73, 3) := by decide +kernel
theorem dL_law_597 : decode cL_law 597 = .ok (.iaload, 1) := by decide +kernel
theorem dL_law_603 : decode cL_law 603 = .ok (.iaload, 1) := by decide +kernel
theorem dL_law_604 : decode cL_law 604 = .ok (.invokevirtual 74, 3) := by decide +kernel
theorem dL_law_613 : decode cL_law 613 = .ok (.iaload, 1) := by decide +kernel
theorem dL_law_619 : decode cL_law 619 = .ok (.iaload, 1) := by decide +kernel
theorem dL_law_620 : decode cL_law 620 = .ok (.invokevirtual 78, 3) := by decide +kernel
theorem dL_law_635 : decode cL_law 635 = .ok (.iaload, 1) := by decide +kernel
theorem dL_law_641 : decode cL_law 641 = .ok (.iaload, 1) := by decide +kernel
theorem dL_law_642 : decode cL_law 642 = .ok (.invokevirtual 79, 3) := by decide +kernel
theorem dL_law_651 : decode cL_law 651 = .ok (.iaload, 1) := by decide +kernel
theorem dL_law_657 : decode cL_law 657 = .ok (.iaload, 1) := by decide +kernel
theorem dL_law_658 : decode cL_law 658 = .ok (.invokevirtual 82, 3) := by decide +kernel
theorem dL_law_672 : decode cL_law 672 = .ok (.iaload, 1) := by decide +kernel
theorem dL_law_673 : decode cL_law 673 = .ok (.invokevirtual 83, 3) := by decide +kernel
theorem dL_law_682 : decode cL_law 682 = .ok (.iaload, 1) := by decide +kernel
theorem dL_law_683 : decode cL_law 683 = .ok (.invokevirtual 86, 3) := by decide +kernel
theorem dL_law_697 : decode cL_law 697 = .ok (.iaload, 1) := by decide +kernel
theorem dL_law_703 : decode cL_law 703 = .ok (.iaload, 1) := by decide +kernel
theorem dL_law_704 : decode cL_law 704 = .ok (.invokevirtual 87, 3) := by decide +kernel
theorem dL_law_713 : decode cL_law 713 = .ok (.iaload, 1) := by decide +kernel
theorem dL_law_719 : decode cL_law 719 = .ok (.iaload, 1) := by decide +kernel
theorem dL_law_720 : decode cL_law 720 = .ok (.invokevirtual 90, 3) := by decide +kernel
theorem dL_law_735 : decode cL_law 735 = .ok (.iaload, 1) := by decide +kernel
theorem dL_law_736 : decode cL_law 736 = .ok (.invokevirtual 91, 3) := by decide +kernel
theorem dL_law_745 : decode cL_law 745 = .ok (.iaload, 1) := by decide +kernel
theorem dL_law_746 : decode cL_law 746 = .ok (.invokevirtual 94, 3) := by decide +kernel
theorem dL_law_760 : decode cL_law 760 = .ok (.iaload, 1) := by decide +kernel
theorem dL_law_761 : decode cL_law 761 = .ok (.invokevirtual 95, 3) := by decide +kernel
theorem dL_law_770 : decode cL_law 770 = .ok (.iaload, 1) := by decide +kernel
theorem dL_law_771 : decode cL_law 771 = .ok (.invokevirtual 98, 3) := by decide +kernel
theorem dL_law_780 : decode cL_law 780 = .ok (.invokevirtual 99, 3) := by decide +kernel
theorem dL_law_784 : decode cL_law 784 = .ok (.invokevirtual 102, 3) := by decide +kernel
theorem dL_law_798 : decode cL_law 798 = .ok (.iaload, 1) := by decide +kernel
theorem dL_law_804 : decode cL_law 804 = .ok (.iaload, 1) := by decide +kernel
theorem dL_law_805 : decode cL_law 805 = .ok (.invokevirtual 103, 3) := by decide +kernel
theorem dL_law_814 : decode cL_law 814 = .ok (.iaload, 1) := by decide +kernel
theorem dL_law_820 : decode cL_law 820 = .ok (.iaload, 1) := by decide +kernel
theorem dL_law_821 : decode cL_law 821 = .ok (.invokevirtual 106, 3) := by decide +kernel
theorem dL_law_836 : decode cL_law 836 = .ok (.iaload, 1) := by decide +kernel
theorem dL_law_837 : decode cL_law 837 = .ok (.invokevirtual 107, 3) := by decide +kernel
theorem dL_law_846 : decode cL_law 846 = .ok (.iaload, 1) := by decide +kernel
theorem dL_law_847 : decode cL_law 847 = .ok (.invokevirtual 110, 3) := by decide +kernel
theorem dL_law_861 : decode cL_law 861 = .ok (.iaload, 1) := by decide +kernel
theorem dL_law_867 : decode cL_law 867 = .ok (.iaload, 1) := by decide +kernel
theorem dL_law_868 : decode cL_law 868 = .ok (.invokevirtual 111, 3) := by decide +kernel
theorem dL_law_877 : decode cL_law 877 = .ok (.iaload, 1) := by decide +kernel
theorem dL_law_883 : decode cL_law 883 = .ok (.iaload, 1) := by decide +kernel
theorem dL_law_884 : decode cL_law 884 = .ok (.invokevirtual 114, 3) := by decide +kernel
theorem dL_law_898 : decode cL_law 898 = .ok (.iaload, 1) := by decide +kernel
theorem dL_law_904 : decode cL_law 904 = .ok (.iaload, 1) := by decide +kernel
theorem dL_law_905 : decode cL_law 905 = .ok (.invokevirtual 115, 3) := by decide +kernel
theorem dL_law_914 : decode cL_law 914 = .ok (.iaload, 1) := by decide +kernel
theorem dL_law_920 : decode cL_law 920 = .ok (.iaload, 1) := by decide +kernel
theorem dL_law_921 : decode cL_law 921 = .ok (.invokevirtual 118, 3) := by decide +kernel
theorem dL_law_935 : decode cL_law 935 = .ok (.iaload, 1) := by decide +kernel
theorem dL_law_941 : decode cL_law 941 = .ok (.iaload, 1) := by decide +kernel
theorem dL_law_942 : decode cL_law 942 = .ok (.invokevirtual 119, 3) := by decide +kernel
theorem dL_law_951 : decode cL_law 951 = .ok (.iaload, 1) := by decide +kernel
theorem dL_law_957 : decode cL_law 957 = .ok (.iaload, 1) := by decide +kernel
theorem dL_law_958 : decode cL_law 958 = .ok (.invokevirtual 122, 3) := by decide +kernel
theorem dL_law_972 : decode cL_law 972 = .ok (.iaload, 1) := by decide +kernel
theorem dL_law_978 : decode cL_law 978 = .ok (.iaload, 1) := by decide +kernel
theorem dL_law_979 : decode cL_law 979 = .ok (.invokevirtual 123, 3) := by decide +kernel
theorem dL_law_988 : decode cL_law 988 = .ok (.iaload, 1) := by decide +kernel
theorem dL_law_994 : decode cL_law 994 = .ok (.iaload, 1) := by decide +kernel
theorem dL_law_995 : decode cL_law 995 = .ok (.invokevirtual 126, 3) := by decide +kernel
theorem dL_law_1009 : decode cL_law 1009 = .ok (.iaload, 1) := by decide +kernel
theorem dL_law_1015 : decode cL_law 1015 = .ok (.iaload, 1) := by decide +kernel
theorem dL_law_1021 : decode cL_law 1021 = .ok (.iaload, 1) := by decide +kernel
theorem dL_law_1031 : decode cL_law 1031 = .ok (.iaload, 1) := by decide +kernel
theorem dL_law_1038 : decode cL_law 1038 = .ok (.invokevirtual 129, 3) := by decide +kernel
theorem dL_law_1047 : decode cL_law 1047 = .ok (.iaload, 1) := by decide +kernel
theorem dL_law_1053 : decode cL_law 1053 = .ok (.iaload, 1) := by decide +kernel
theorem dL_law_1059 : decode cL_law 1059 = .ok (.iaload, 1) := by decide +kernel
theorem dL_law_1069 : decode cL_law 1069 = .ok (.iaload, 1) := by decide +kernel
theorem dL_law_1076 : decode cL_law 1076 = .ok (.invokevirtual 133, 3) := by decide +kernel
theorem dL_law_1090 : decode cL_law 1090 = .ok (.iaload, 1) := by decide +kernel
theorem dL_law_1096 : decode cL_law 1096 = .ok (.iaload, 1) := by decide +kernel
theorem dL_law_1102 : decode cL_law 1102 = .ok (.iaload, 1) := by decide +kernel
theorem dL_law_1112 : decode cL_law 1112 = .ok (.iaload, 1) := by decide +kernel
theorem dL_law_1119 : decode cL_law 1119 = .ok (.invokevirtual 134, 3) := by decide +kernel
theorem dL_law_1128 : decode cL_law 1128 = .ok (.iaload, 1) := by decide +kernel
theorem dL_law_1134 : decode cL_law 1134 = .ok (.iaload, 1) := by decide +kernel
theorem dL_law_1140 : decode cL_law 1140 = .ok (.iaload, 1) := by decide +kernel
theorem dL_law_1150 : decode cL_law 1150 = .ok (.iaload, 1) := by decide +kernel
theorem dL_law_1157 : decode cL_law 1157 = .ok (.invokevirtual 137, 3) := by decide +kernel
theorem dL_law_1171 : decode cL_law 1171 = .ok (.iaload, 1) := by decide +kernel
theorem dL_law_1172 : decode cL_law 1172 = .ok (.invokevirtual 138, 3) := by decide +kernel
theorem dL_law_1181 : decode cL_law 1181 = .ok (.iaload, 1) := by decide +kernel
theorem dL_law_1182 : decode cL_law 1182 = .ok (.invokevirtual 141, 3) := by decide +kernel
theorem dL_law_1196 : decode cL_law 1196 = .ok (.iaload, 1) := by decide +kernel
theorem dL_law_1197 : decode cL_law 1197 = .ok (.invokevirtual 142, 3) := by decide +kernel
theorem dL_law_1206 : decode cL_law 1206 = .ok (.iaload, 1) := by decide +kernel
theorem dL_law_1207 : decode cL_law 1207 = .ok (.invokevirtual 145, 3) := by decide +kernel
theorem dL_law_1221 : decode cL_law 1221 = .ok (.iaload, 1) := by decide +kernel
theorem dL_law_1227 : decode cL_law 1227 = .ok (.iaload, 1) := by decide +kernel
theorem dL_law_1228 : decode cL_law 1228 = .ok (.invokevirtual 146, 3) := by decide +kernel
theorem dL_law_1237 : decode cL_law 1237 = .ok (.iaload, 1) := by decide +kernel
theorem dL_law_1243 : decode cL_law 1243 = .ok (.iaload, 1) := by decide +kernel
theorem dL_law_1244 : decode cL_law 1244 = .ok (.invokevirtual 149, 3) := by decide +kernel
theorem dL_law_1253 : decode cL_law 1253 = .ok (.invokevirtual 150, 3) := by decide +kernel
theorem dL_law_1257 : decode cL_law 1257 = .ok (.invokevirtual 153, 3) := by decide +kernel
theorem dL_law_1271 : decode cL_law 1271 = .ok (.iaload, 1) := by decide +kernel
theorem dL_law_1272 : decode cL_law 1272 = .ok (.invokevirtual 154, 3) := by decide +kernel
theorem dL_law_1281 : decode cL_law 1281 = .ok (.iaload, 1) := by decide +kernel
theorem dL_law_1282 : decode cL_law 1282 = .ok (.invokevirtual 157, 3) := by decide +kernel
theorem dL_law_1296 : decode cL_law 1296 = .ok (.iaload, 1) := by decide +kernel
theorem dL_law_1297 : decode cL_law 1297 = .ok (.invokevirtual 158, 3) := by decide +kernel
theorem dL_law_1306 : decode cL_law 1306 = .ok (.iaload, 1) := by decide +kernel
theorem dL_law_1307 : decode cL_law 1307 = .ok (.invokevirtual 161, 3) := by decide +kernel
theorem dL_law_1321 : decode cL_law 1321 = .ok (.iaload, 1) := by decide +kernel
theorem dL_law_1327 : decode cL_law 1327 = .ok (.iaload, 1) := by decide +kernel
theorem dL_law_1328 : decode cL_law 1328 = .ok (.invokevirtual 162, 3) := by decide +kernel
theorem dL_law_1337 : decode cL_law 1337 = .ok (.iaload, 1) := by decide +kernel
theorem dL_law_1343 : decode cL_law 1343 = .ok (.iaload, 1) := by decide +kernel
theorem dL_law_1344 : decode cL_law 1344 = .ok (.invokevirtual 165, 3) := by decide +kernel
theorem dL_law_1358 : decode cL_law 1358 = .ok (.iaload, 1) := by decide +kernel
theorem dL_law_1364 : decode cL_law 1364 = .ok (.iaload, 1) := by decide +kernel
theorem dL_law_1365 : decode cL_law 1365 = .ok (.invokevirtual 166, 3) := by decide +kernel
theorem dL_law_1374 : decode cL_law 1374 = .ok (.iaload, 1) := by decide +kernel
theorem dL_law_1380 : decode cL_law 1380 = .ok (.iaload, 1) := by decide +kernel
theorem dL_law_1381 : decode cL_law 1381 = .ok (.invokevirtual 169, 3) := by decide +kernel
theorem dL_law_1390 : decode cL_law 1390 = .ok (.invokevirtual 170, 3) := by decide +kernel
theorem dL_law_1394 : decode cL_law 1394 = .ok (.invokevirtual 173, 3) := by decide +kernel
theorem dL_law_1408 : decode cL_law 1408 = .ok (.iaload, 1) := by decide +kernel
theorem dL_law_1414 : decode cL_law 1414 = .ok (.iaload, 1) := by decide +kernel
theorem dL_law_1420 : decode cL_law 1420 = .ok (.iaload, 1) := by decide +kernel
theorem dL_law_1426 : decode cL_law 1426 = .ok (.iaload, 1) := by decide +kernel
theorem dL_law_1427 : decode cL_law 1427 = .ok (.invokevirtual 174, 3) := by decide +kernel
theorem dL_law_1436 : decode cL_law 1436 = .ok (.iaload, 1) := by decide +kernel
theorem dL_law_1442 : decode cL_law 1442 = .ok (.iaload, 1) := by decide +kernel
theorem dL_law_1448 : decode cL_law 1448 = .ok (.iaload, 1) := by decide +kernel
theorem dL_law_1454 : decode cL_law 1454 = .ok (.iaload, 1) := by decide +kernel
theorem dL_law_1455 : decode cL_law 1455 = .ok (.invokevirtual 178, 3) := by decide +kernel
theorem dL_law_1464 : decode cL_law 1464 = .ok (.invokevirtual 179, 3) := by decide +kernel
theorem dL_law_1468 : decode cL_law 1468 = .ok (.invokevirtual 182, 3) := by decide +kernel
theorem dL_law_1477 : decode cL_law 1477 = .ok (.invokevirtual 183, 3) := by decide +kernel
theorem dL_law_1481 : decode cL_law 1481 = .ok (.invokevirtual 186, 3) := by decide +kernel
theorem dL_law_1495 : decode cL_law 1495 = .ok (.iaload, 1) := by decide +kernel
theorem dL_law_1496 : decode cL_law 1496 = .ok (.invokevirtual 187, 3) := by decide +kernel
theorem dL_law_1505 : decode cL_law 1505 = .ok (.iaload, 1) := by decide +kernel
theorem dL_law_1506 : decode cL_law 1506 = .ok (.invokevirtual 190, 3) := by decide +kernel
set_option maxRecDepth 100000 in
set_option maxHeartbeats 4000000 in
theorem lw_c0 {p : Program} {l : Launch} {e : Env} {s : State} {m : MethodId} {below : List Frame} {meth : Method} {c : Code} {H : Heap} {locs : List Loc} {cells slots : Nat} {Q : State → Prop} {b Ln : Nat} {xs : Nat → Int32} {sa av : Nat → Nat} {D : va_G} {hx hm : AmH} {qx qm qo : Nat} {ls : Array Slot} {i : Nat} {u w : Option Value} {Inv : AmH → AmH → Prop} (hSh : lw_Sh Inv) (C : LwC p s m c b Ln xs sa av) (S : LwS D sa s H locs hx hm qx qm qo) (hI : Inv hx hm) (hag : lw_AgI Inv m_X11_feed m_X12_feed [.int (xs (i + 1)), .int (xs (i + 2)), .int (xs (i + 3)), .int (xs (i + 4)), .int (xs (i + 5))]) (hi : i + 6 ≤ Ln) (hcc : cells ≤ 10000) (hss : slots ≤ 1000000) (hl : am_lr (fun _ => 0) (lw_sa b qx qm qo) ls 7 (lw_L i u w)) (K : LwK Inv p l e s m below meth c D sa b qx qm qo i cells slots Q) : W p l e room_1 s m #[Value.ref b] below meth c H locs cells slots Q (F0 m 212 ls []) := by
  obtain ⟨⟨fx, ex⟩, ⟨fm, em⟩⟩ := hSh hx hm hI
  obtain ⟨z, hx', hm', kx, jx, km, jm, r1, r2, b1, b2, hI'⟩ := hag hx hm hI
  refine lw_W C.1 C.2.1 C.2.2.2.1 (lw_Ks C.2.2.2.2.1 _) (ad := fun _ => 0) (sa := lw_sa b qx qm qo) 1 (pc := 212) (pc' := 213) (L := lw_L i u w) (L' := lw_L i u w) (st := []) (st' := [.retAddr 10]) rfl hl (fun ls hl => ?_)
  refine lw_ld C S (pc := 213) (k := 1) (kc := 1) (st := [.retAddr 10]) (nI_add i 1) (by omega) rfl dL_law_218 hl (fun ls hl => ?_)
  refine lw_ld C S (pc := 219) (k := 2) (kc := 2) (st := [.int (xs (i + 1)), .retAddr 10]) (nI_add i 2) (by omega) rfl dL_law_224 hl (fun ls hl => ?_)
  refine lw_ld C S (pc := 225) (k := 3) (kc := 3) (st := [.int (xs (i + 2)), .int (xs (i + 1)), .retAddr 10]) (nI_add i 3) (by omega) rfl dL_law_230 hl (fun ls hl => ?_)
  refine lw_ld C S (pc := 231) (k := 4) (kc := 4) (st := [.int (xs (i + 3)), .int (xs (i + 2)), .int (xs (i + 1)), .retAddr 10]) (nI_add i 4) (by omega) rfl dL_law_236 hl (fun ls hl => ?_)
  refine lw_ld C S (pc := 237) (k := 5) (kc := 5) (st := [.int (xs (i + 4)), .int (xs (i + 3)), .int (xs (i + 2)), .int (xs (i + 1)), .retAddr 10]) (nI_add i 5) (by omega) rfl dL_law_242 hl (fun ls hl => ?_)
  refine lw_callX (pc := 243) (as := [.int (xs (i + 1)), .int (xs (i + 2)), .int (xs (i + 3)), .int (xs (i + 4)), .int (xs (i + 5))]) (rest := []) C hl.1.1 dL_law_243 rfl rfl (List.forall_mem_cons.mpr ⟨Or.inl ⟨_, rfl⟩, List.forall_mem_cons.mpr ⟨Or.inl ⟨_, rfl⟩, List.forall_mem_cons.mpr ⟨Or.inl ⟨_, rfl⟩, List.forall_mem_cons.mpr ⟨Or.inl ⟨_, rfl⟩, List.forall_mem_cons.mpr ⟨Or.inl ⟨_, rfl⟩, fun v hv => nomatch hv⟩⟩⟩⟩⟩) (Nat.le_of_ble_eq_true rfl) ex r1 (Or.inl ⟨_, rfl⟩) (Nat.le_of_ble_eq_true rfl) (by omega) (by omega) S (fun H1 locs1 S => ?_)
  refine lw_W C.1 C.2.1 C.2.2.2.1 (lw_Ks C.2.2.2.2.1 _) (ad := fun _ => 0) (sa := lw_sa b qx qm qo) 1 (pc := 246) (pc' := 247) (L := lw_L i u w) (L' := lw_L i u w) (st := [.int z]) (st' := [.retAddr 11, .int z]) rfl hl (fun ls hl => ?_)
  refine lw_ld C S (pc := 247) (k := 1) (kc := 1) (st := [.retAddr 11, .int z]) (nI_add i 1) (by omega) rfl dL_law_252 hl (fun ls hl => ?_)
  refine lw_ld C S (pc := 253) (k := 2) (kc := 2) (st := [.int (xs (i + 1)), .retAddr 11, .int z]) (nI_add i 2) (by omega) rfl dL_law_258 hl (fun ls hl => ?_)
  refine lw_ld C S (pc := 259) (k := 3) (kc := 3) (st := [.int (xs (i + 2)), .int (xs (i + 1)), .retAddr 11, .int z]) (nI_add i 3) (by omega) rfl dL_law_264 hl (fun ls hl => ?_)
  refine lw_ld C S (pc := 265) (k := 4) (kc := 4) (st := [.int (xs (i + 3)), .int (xs (i + 2)), .int (xs (i + 1)), .retAddr 11, .int z]) (nI_add i 4) (by omega) rfl dL_law_270 hl (fun ls hl => ?_)
  refine lw_ld C S (pc := 271) (k := 5) (kc := 5) (st := [.int (xs (i + 4)), .int (xs (i + 3)), .int (xs (i + 2)), .int (xs (i + 1)), .retAddr 11, .int z]) (nI_add i 5) (by omega) rfl dL_law_276 hl (fun ls hl => ?_)
  refine lw_callM (pc := 277) (as := [.int (xs (i + 1)), .int (xs (i + 2)), .int (xs (i + 3)), .int (xs (i + 4)), .int (xs (i + 5))]) (rest := [.int z]) C hl.1.1 dL_law_277 rfl rfl (List.forall_mem_cons.mpr ⟨Or.inl ⟨_, rfl⟩, List.forall_mem_cons.mpr ⟨Or.inl ⟨_, rfl⟩, List.forall_mem_cons.mpr ⟨Or.inl ⟨_, rfl⟩, List.forall_mem_cons.mpr ⟨Or.inl ⟨_, rfl⟩, List.forall_mem_cons.mpr ⟨Or.inl ⟨_, rfl⟩, fun v hv => nomatch hv⟩⟩⟩⟩⟩) (Nat.le_of_ble_eq_true rfl) em r2 (Or.inl ⟨_, rfl⟩) (Nat.le_of_ble_eq_true rfl) (by omega) (by omega) S (fun H1 locs1 S => ?_)
  refine lw_W C.1 C.2.1 C.2.2.2.1 (lw_Ks C.2.2.2.2.1 _) (ad := fun _ => 0) (sa := lw_sa b qx qm qo) 1 (pc := 280) (pc' := 1514) (L := lw_L i u w) (L' := lw_L i u w) (st := [.int z, .int z]) (st' := []) (lw_br rfl) hl (fun ls hl => ?_)
  exact K hx' hm' _ _ ls _ _ _ _ hI' S hl (by omega) (by omega)
set_option maxRecDepth 100000 in
set_option maxHeartbeats 4000000 in
theorem lw_c1 {p : Program} {l : Launch} {e : Env} {s : State} {m : MethodId} {below : List Frame} {meth : Method} {c : Code} {H : Heap} {locs : List Loc} {cells slots : Nat} {Q : State → Prop} {b Ln : Nat} {xs : Nat → Int32} {sa av : Nat → Nat} {D : va_G} {hx hm : AmH} {qx qm qo : Nat} {ls : Array Slot} {i : Nat} {u w : Option Value} {Inv : AmH → AmH → Prop} (hSh : lw_Sh Inv) (C : LwC p s m c b Ln xs sa av) (S : LwS D sa s H locs hx hm qx qm qo) (hI : Inv hx hm) (hag : lw_AgI Inv m_X11_end m_X12_end [.int (xs (i + 1))]) (hi : i + 6 ≤ Ln) (hcc : cells ≤ 10000) (hss : slots ≤ 1000000) (hl : am_lr (fun _ => 0) (lw_sa b qx qm qo) ls 7 (lw_L i u w)) (K : LwK Inv p l e s m below meth c D sa b qx qm qo i cells slots Q) : W p l e room_1 s m #[Value.ref b] below meth c H locs cells slots Q (F0 m 285 ls []) := by
  obtain ⟨⟨fx, ex⟩, ⟨fm, em⟩⟩ := hSh hx hm hI
  obtain ⟨z, hx', hm', kx, jx, km, jm, r1, r2, b1, b2, hI'⟩ := hag hx hm hI
  refine lw_W C.1 C.2.1 C.2.2.2.1 (lw_Ks C.2.2.2.2.1 _) (ad := fun _ => 0) (sa := lw_sa b qx qm qo) 1 (pc := 285) (pc' := 286) (L := lw_L i u w) (L' := lw_L i u w) (st := []) (st' := [.retAddr 10]) rfl hl (fun ls hl => ?_)
  refine lw_ld C S (pc := 286) (k := 1) (kc := 1) (st := [.retAddr 10]) (nI_add i 1) (by omega) rfl dL_law_291 hl (fun ls hl => ?_)
  refine lw_callX (pc := 292) (as := [.int (xs (i + 1))]) (rest := []) C hl.1.1 dL_law_292 rfl rfl (List.forall_mem_cons.mpr ⟨Or.inl ⟨_, rfl⟩, fun v hv => nomatch hv⟩) (Nat.le_of_ble_eq_true rfl) ex r1 (Or.inl ⟨_, rfl⟩) (Nat.le_of_ble_eq_true rfl) (by omega) (by omega) S (fun H1 locs1 S => ?_)
  refine lw_W C.1 C.2.1 C.2.2.2.1 (lw_Ks C.2.2.2.2.1 _) (ad := fun _ => 0) (sa := lw_sa b qx qm qo) 1 (pc := 295) (pc' := 296) (L := lw_L i u w) (L' := lw_L i u w) (st := [.int z]) (st' := [.retAddr 11, .int z]) rfl hl (fun ls hl => ?_)
  refine lw_ld C S (pc := 296) (k := 1) (kc := 1) (st := [.retAddr 11, .int z]) (nI_add i 1) (by omega) rfl dL_law_301 hl (fun ls hl => ?_)
  refine lw_callM (pc := 302) (as := [.int (xs (i + 1))]) (rest := [.int z]) C hl.1.1 dL_law_302 rfl rfl (List.forall_mem_cons.mpr ⟨Or.inl ⟨_, rfl⟩, fun v hv => nomatch hv⟩) (Nat.le_of_ble_eq_true rfl) em r2 (Or.inl ⟨_, rfl⟩) (Nat.le_of_ble_eq_true rfl) (by omega) (by omega) S (fun H1 locs1 S => ?_)
  refine lw_W C.1 C.2.1 C.2.2.2.1 (lw_Ks C.2.2.2.2.1 _) (ad := fun _ => 0) (sa := lw_sa b qx qm qo) 1 (pc := 305) (pc' := 1514) (L := lw_L i u w) (L' := lw_L i u w) (st := [.int z, .int z]) (st' := []) (lw_br rfl) hl (fun ls hl => ?_)
  exact K hx' hm' _ _ ls _ _ _ _ hI' S hl (by omega) (by omega)
set_option maxRecDepth 100000 in
set_option maxHeartbeats 4000000 in
theorem lw_c2 {p : Program} {l : Launch} {e : Env} {s : State} {m : MethodId} {below : List Frame} {meth : Method} {c : Code} {H : Heap} {locs : List Loc} {cells slots : Nat} {Q : State → Prop} {b Ln : Nat} {xs : Nat → Int32} {sa av : Nat → Nat} {D : va_G} {hx hm : AmH} {qx qm qo : Nat} {ls : Array Slot} {i : Nat} {u w : Option Value} {Inv : AmH → AmH → Prop} (hSh : lw_Sh Inv) (C : LwC p s m c b Ln xs sa av) (S : LwS D sa s H locs hx hm qx qm qo) (hI : Inv hx hm) (hag : lw_AgI Inv m_X11_fault m_X12_fault [.int (xs (i + 1))]) (hi : i + 6 ≤ Ln) (hcc : cells ≤ 10000) (hss : slots ≤ 1000000) (hl : am_lr (fun _ => 0) (lw_sa b qx qm qo) ls 7 (lw_L i u w)) (K : LwK Inv p l e s m below meth c D sa b qx qm qo i cells slots Q) : W p l e room_1 s m #[Value.ref b] below meth c H locs cells slots Q (F0 m 310 ls []) := by
  obtain ⟨⟨fx, ex⟩, ⟨fm, em⟩⟩ := hSh hx hm hI
  obtain ⟨z, hx', hm', kx, jx, km, jm, r1, r2, b1, b2, hI'⟩ := hag hx hm hI
  refine lw_W C.1 C.2.1 C.2.2.2.1 (lw_Ks C.2.2.2.2.1 _) (ad := fun _ => 0) (sa := lw_sa b qx qm qo) 1 (pc := 310) (pc' := 311) (L := lw_L i u w) (L' := lw_L i u w) (st := []) (st' := [.retAddr 10]) rfl hl (fun ls hl => ?_)
  refine lw_ld C S (pc := 311) (k := 1) (kc := 1) (st := [.retAddr 10]) (nI_add i 1) (by omega) rfl dL_law_316 hl (fun ls hl => ?_)
  refine lw_callX (pc := 317) (as := [.int (xs (i + 1))]) (rest := []) C hl.1.1 dL_law_317 rfl rfl (List.forall_mem_cons.mpr ⟨Or.inl ⟨_, rfl⟩, fun v hv => nomatch hv⟩) (Nat.le_of_ble_eq_true rfl) ex r1 (Or.inl ⟨_, rfl⟩) (Nat.le_of_ble_eq_true rfl) (by omega) (by omega) S (fun H1 locs1 S => ?_)
  refine lw_W C.1 C.2.1 C.2.2.2.1 (lw_Ks C.2.2.2.2.1 _) (ad := fun _ => 0) (sa := lw_sa b qx qm qo) 1 (pc := 320) (pc' := 321) (L := lw_L i u w) (L' := lw_L i u w) (st := [.int z]) (st' := [.retAddr 11, .int z]) rfl hl (fun ls hl => ?_)
  refine lw_ld C S (pc := 321) (k := 1) (kc := 1) (st := [.retAddr 11, .int z]) (nI_add i 1) (by omega) rfl dL_law_326 hl (fun ls hl => ?_)
  refine lw_callM (pc := 327) (as := [.int (xs (i + 1))]) (rest := [.int z]) C hl.1.1 dL_law_327 rfl rfl (List.forall_mem_cons.mpr ⟨Or.inl ⟨_, rfl⟩, fun v hv => nomatch hv⟩) (Nat.le_of_ble_eq_true rfl) em r2 (Or.inl ⟨_, rfl⟩) (Nat.le_of_ble_eq_true rfl) (by omega) (by omega) S (fun H1 locs1 S => ?_)
  refine lw_W C.1 C.2.1 C.2.2.2.1 (lw_Ks C.2.2.2.2.1 _) (ad := fun _ => 0) (sa := lw_sa b qx qm qo) 1 (pc := 330) (pc' := 1514) (L := lw_L i u w) (L' := lw_L i u w) (st := [.int z, .int z]) (st' := []) (lw_br rfl) hl (fun ls hl => ?_)
  exact K hx' hm' _ _ ls _ _ _ _ hI' S hl (by omega) (by omega)
set_option maxRecDepth 100000 in
set_option maxHeartbeats 4000000 in
theorem lw_c3 {p : Program} {l : Launch} {e : Env} {s : State} {m : MethodId} {below : List Frame} {meth : Method} {c : Code} {H : Heap} {locs : List Loc} {cells slots : Nat} {Q : State → Prop} {b Ln : Nat} {xs : Nat → Int32} {sa av : Nat → Nat} {D : va_G} {hx hm : AmH} {qx qm qo : Nat} {ls : Array Slot} {i : Nat} {u w : Option Value} {Inv : AmH → AmH → Prop} (hSh : lw_Sh Inv) (C : LwC p s m c b Ln xs sa av) (S : LwS D sa s H locs hx hm qx qm qo) (hI : Inv hx hm) (hag : lw_AgI Inv m_X11_text m_X12_text [.int (xs (i + 1))]) (hi : i + 6 ≤ Ln) (hcc : cells ≤ 10000) (hss : slots ≤ 1000000) (hl : am_lr (fun _ => 0) (lw_sa b qx qm qo) ls 7 (lw_L i u w)) (K : LwK Inv p l e s m below meth c D sa b qx qm qo i cells slots Q) : W p l e room_1 s m #[Value.ref b] below meth c H locs cells slots Q (F0 m 335 ls []) := by
  obtain ⟨⟨fx, ex⟩, ⟨fm, em⟩⟩ := hSh hx hm hI
  obtain ⟨z, hx', hm', kx, jx, km, jm, r1, r2, b1, b2, hI'⟩ := hag hx hm hI
  refine lw_W C.1 C.2.1 C.2.2.2.1 (lw_Ks C.2.2.2.2.1 _) (ad := fun _ => 0) (sa := lw_sa b qx qm qo) 1 (pc := 335) (pc' := 336) (L := lw_L i u w) (L' := lw_L i u w) (st := []) (st' := [.retAddr 10]) rfl hl (fun ls hl => ?_)
  refine lw_ld C S (pc := 336) (k := 1) (kc := 1) (st := [.retAddr 10]) (nI_add i 1) (by omega) rfl dL_law_341 hl (fun ls hl => ?_)
  refine lw_callX (pc := 342) (as := [.int (xs (i + 1))]) (rest := []) C hl.1.1 dL_law_342 rfl rfl (List.forall_mem_cons.mpr ⟨Or.inl ⟨_, rfl⟩, fun v hv => nomatch hv⟩) (Nat.le_of_ble_eq_true rfl) ex r1 (Or.inl ⟨_, rfl⟩) (Nat.le_of_ble_eq_true rfl) (by omega) (by omega) S (fun H1 locs1 S => ?_)
  refine lw_W C.1 C.2.1 C.2.2.2.1 (lw_Ks C.2.2.2.2.1 _) (ad := fun _ => 0) (sa := lw_sa b qx qm qo) 1 (pc := 345) (pc' := 346) (L := lw_L i u w) (L' := lw_L i u w) (st := [.int z]) (st' := [.retAddr 11, .int z]) rfl hl (fun ls hl => ?_)
  refine lw_ld C S (pc := 346) (k := 1) (kc := 1) (st := [.retAddr 11, .int z]) (nI_add i 1) (by omega) rfl dL_law_351 hl (fun ls hl => ?_)
  refine lw_callM (pc := 352) (as := [.int (xs (i + 1))]) (rest := [.int z]) C hl.1.1 dL_law_352 rfl rfl (List.forall_mem_cons.mpr ⟨Or.inl ⟨_, rfl⟩, fun v hv => nomatch hv⟩) (Nat.le_of_ble_eq_true rfl) em r2 (Or.inl ⟨_, rfl⟩) (Nat.le_of_ble_eq_true rfl) (by omega) (by omega) S (fun H1 locs1 S => ?_)
  refine lw_W C.1 C.2.1 C.2.2.2.1 (lw_Ks C.2.2.2.2.1 _) (ad := fun _ => 0) (sa := lw_sa b qx qm qo) 1 (pc := 355) (pc' := 1514) (L := lw_L i u w) (L' := lw_L i u w) (st := [.int z, .int z]) (st' := []) (lw_br rfl) hl (fun ls hl => ?_)
  exact K hx' hm' _ _ ls _ _ _ _ hI' S hl (by omega) (by omega)
set_option maxRecDepth 100000 in
set_option maxHeartbeats 4000000 in
theorem lw_c5 {p : Program} {l : Launch} {e : Env} {s : State} {m : MethodId} {below : List Frame} {meth : Method} {c : Code} {H : Heap} {locs : List Loc} {cells slots : Nat} {Q : State → Prop} {b Ln : Nat} {xs : Nat → Int32} {sa av : Nat → Nat} {D : va_G} {hx hm : AmH} {qx qm qo : Nat} {ls : Array Slot} {i : Nat} {u w : Option Value} {Inv : AmH → AmH → Prop} (hSh : lw_Sh Inv) (C : LwC p s m c b Ln xs sa av) (S : LwS D sa s H locs hx hm qx qm qo) (hI : Inv hx hm) (hag : lw_AgI Inv m_X11_customer m_X12_customer [.int (xs (i + 1)), .int (xs (i + 2))]) (hi : i + 6 ≤ Ln) (hcc : cells ≤ 10000) (hss : slots ≤ 1000000) (hl : am_lr (fun _ => 0) (lw_sa b qx qm qo) ls 7 (lw_L i u w)) (K : LwK Inv p l e s m below meth c D sa b qx qm qo i cells slots Q) : W p l e room_1 s m #[Value.ref b] below meth c H locs cells slots Q (F0 m 416 ls []) := by
  obtain ⟨⟨fx, ex⟩, ⟨fm, em⟩⟩ := hSh hx hm hI
  obtain ⟨z, hx', hm', kx, jx, km, jm, r1, r2, b1, b2, hI'⟩ := hag hx hm hI
  refine lw_W C.1 C.2.1 C.2.2.2.1 (lw_Ks C.2.2.2.2.1 _) (ad := fun _ => 0) (sa := lw_sa b qx qm qo) 1 (pc := 416) (pc' := 417) (L := lw_L i u w) (L' := lw_L i u w) (st := []) (st' := [.retAddr 10]) rfl hl (fun ls hl => ?_)
  refine lw_ld C S (pc := 417) (k := 1) (kc := 1) (st := [.retAddr 10]) (nI_add i 1) (by omega) rfl dL_law_422 hl (fun ls hl => ?_)
  refine lw_ld C S (pc := 423) (k := 2) (kc := 2) (st := [.int (xs (i + 1)), .retAddr 10]) (nI_add i 2) (by omega) rfl dL_law_428 hl (fun ls hl => ?_)
  refine lw_callX (pc := 429) (as := [.int (xs (i + 1)), .int (xs (i + 2))]) (rest := []) C hl.1.1 dL_law_429 rfl rfl (List.forall_mem_cons.mpr ⟨Or.inl ⟨_, rfl⟩, List.forall_mem_cons.mpr ⟨Or.inl ⟨_, rfl⟩, fun v hv => nomatch hv⟩⟩) (Nat.le_of_ble_eq_true rfl) ex r1 (Or.inl ⟨_, rfl⟩) (Nat.le_of_ble_eq_true rfl) (by omega) (by omega) S (fun H1 locs1 S => ?_)
  refine lw_W C.1 C.2.1 C.2.2.2.1 (lw_Ks C.2.2.2.2.1 _) (ad := fun _ => 0) (sa := lw_sa b qx qm qo) 1 (pc := 432) (pc' := 433) (L := lw_L i u w) (L' := lw_L i u w) (st := [.int z]) (st' := [.retAddr 11, .int z]) rfl hl (fun ls hl => ?_)
  refine lw_ld C S (pc := 433) (k := 1) (kc := 1) (st := [.retAddr 11, .int z]) (nI_add i 1) (by omega) rfl dL_law_438 hl (fun ls hl => ?_)
  refine lw_ld C S (pc := 439) (k := 2) (kc := 2) (st := [.int (xs (i + 1)), .retAddr 11, .int z]) (nI_add i 2) (by omega) rfl dL_law_444 hl (fun ls hl => ?_)
  refine lw_callM (pc := 445) (as := [.int (xs (i + 1)), .int (xs (i + 2))]) (rest := [.int z]) C hl.1.1 dL_law_445 rfl rfl (List.forall_mem_cons.mpr ⟨Or.inl ⟨_, rfl⟩, List.forall_mem_cons.mpr ⟨Or.inl ⟨_, rfl⟩, fun v hv => nomatch hv⟩⟩) (Nat.le_of_ble_eq_true rfl) em r2 (Or.inl ⟨_, rfl⟩) (Nat.le_of_ble_eq_true rfl) (by omega) (by omega) S (fun H1 locs1 S => ?_)
  refine lw_W C.1 C.2.1 C.2.2.2.1 (lw_Ks C.2.2.2.2.1 _) (ad := fun _ => 0) (sa := lw_sa b qx qm qo) 1 (pc := 448) (pc' := 1514) (L := lw_L i u w) (L' := lw_L i u w) (st := [.int z, .int z]) (st' := []) (lw_br rfl) hl (fun ls hl => ?_)
  exact K hx' hm' _ _ ls _ _ _ _ hI' S hl (by omega) (by omega)
set_option maxRecDepth 100000 in
set_option maxHeartbeats 4000000 in
theorem lw_c6 {p : Program} {l : Launch} {e : Env} {s : State} {m : MethodId} {below : List Frame} {meth : Method} {c : Code} {H : Heap} {locs : List Loc} {cells slots : Nat} {Q : State → Prop} {b Ln : Nat} {xs : Nat → Int32} {sa av : Nat → Nat} {D : va_G} {hx hm : AmH} {qx qm qo : Nat} {ls : Array Slot} {i : Nat} {u w : Option Value} {Inv : AmH → AmH → Prop} (hSh : lw_Sh Inv) (C : LwC p s m c b Ln xs sa av) (S : LwS D sa s H locs hx hm qx qm qo) (hI : Inv hx hm) (hag : lw_AgI Inv m_X11_lay m_X12_lay [.int (xs (i + 1)), .int (xs (i + 2))]) (hi : i + 6 ≤ Ln) (hcc : cells ≤ 10000) (hss : slots ≤ 1000000) (hl : am_lr (fun _ => 0) (lw_sa b qx qm qo) ls 7 (lw_L i u w)) (K : LwK Inv p l e s m below meth c D sa b qx qm qo i cells slots Q) : W p l e room_1 s m #[Value.ref b] below meth c H locs cells slots Q (F0 m 453 ls []) := by
  obtain ⟨⟨fx, ex⟩, ⟨fm, em⟩⟩ := hSh hx hm hI
  obtain ⟨z, hx', hm', kx, jx, km, jm, r1, r2, b1, b2, hI'⟩ := hag hx hm hI
  refine lw_W C.1 C.2.1 C.2.2.2.1 (lw_Ks C.2.2.2.2.1 _) (ad := fun _ => 0) (sa := lw_sa b qx qm qo) 1 (pc := 453) (pc' := 454) (L := lw_L i u w) (L' := lw_L i u w) (st := []) (st' := [.retAddr 10]) rfl hl (fun ls hl => ?_)
  refine lw_ld C S (pc := 454) (k := 1) (kc := 1) (st := [.retAddr 10]) (nI_add i 1) (by omega) rfl dL_law_459 hl (fun ls hl => ?_)
  refine lw_ld C S (pc := 460) (k := 2) (kc := 2) (st := [.int (xs (i + 1)), .retAddr 10]) (nI_add i 2) (by omega) rfl dL_law_465 hl (fun ls hl => ?_)
  refine lw_callX (pc := 466) (as := [.int (xs (i + 1)), .int (xs (i + 2))]) (rest := []) C hl.1.1 dL_law_466 rfl rfl (List.forall_mem_cons.mpr ⟨Or.inl ⟨_, rfl⟩, List.forall_mem_cons.mpr ⟨Or.inl ⟨_, rfl⟩, fun v hv => nomatch hv⟩⟩) (Nat.le_of_ble_eq_true rfl) ex r1 (Or.inl ⟨_, rfl⟩) (Nat.le_of_ble_eq_true rfl) (by omega) (by omega) S (fun H1 locs1 S => ?_)
  refine lw_W C.1 C.2.1 C.2.2.2.1 (lw_Ks C.2.2.2.2.1 _) (ad := fun _ => 0) (sa := lw_sa b qx qm qo) 1 (pc := 469) (pc' := 470) (L := lw_L i u w) (L' := lw_L i u w) (st := [.int z]) (st' := [.retAddr 11, .int z]) rfl hl (fun ls hl => ?_)
  refine lw_ld C S (pc := 470) (k := 1) (kc := 1) (st := [.retAddr 11, .int z]) (nI_add i 1) (by omega) rfl dL_law_475 hl (fun ls hl => ?_)
  refine lw_ld C S (pc := 476) (k := 2) (kc := 2) (st := [.int (xs (i + 1)), .retAddr 11, .int z]) (nI_add i 2) (by omega) rfl dL_law_481 hl (fun ls hl => ?_)
  refine lw_callM (pc := 482) (as := [.int (xs (i + 1)), .int (xs (i + 2))]) (rest := [.int z]) C hl.1.1 dL_law_482 rfl rfl (List.forall_mem_cons.mpr ⟨Or.inl ⟨_, rfl⟩, List.forall_mem_cons.mpr ⟨Or.inl ⟨_, rfl⟩, fun v hv => nomatch hv⟩⟩) (Nat.le_of_ble_eq_true rfl) em r2 (Or.inl ⟨_, rfl⟩) (Nat.le_of_ble_eq_true rfl) (by omega) (by omega) S (fun H1 locs1 S => ?_)
  refine lw_W C.1 C.2.1 C.2.2.2.1 (lw_Ks C.2.2.2.2.1 _) (ad := fun _ => 0) (sa := lw_sa b qx qm qo) 1 (pc := 485) (pc' := 1514) (L := lw_L i u w) (L' := lw_L i u w) (st := [.int z, .int z]) (st' := []) (lw_br rfl) hl (fun ls hl => ?_)
  exact K hx' hm' _ _ ls _ _ _ _ hI' S hl (by omega) (by omega)
set_option maxRecDepth 100000 in
set_option maxHeartbeats 4000000 in
theorem lw_c7 {p : Program} {l : Launch} {e : Env} {s : State} {m : MethodId} {below : List Frame} {meth : Method} {c : Code} {H : Heap} {locs : List Loc} {cells slots : Nat} {Q : State → Prop} {b Ln : Nat} {xs : Nat → Int32} {sa av : Nat → Nat} {D : va_G} {hx hm : AmH} {qx qm qo : Nat} {ls : Array Slot} {i : Nat} {u w : Option Value} {Inv : AmH → AmH → Prop} (hSh : lw_Sh Inv) (C : LwC p s m c b Ln xs sa av) (S : LwS D sa s H locs hx hm qx qm qo) (hI : Inv hx hm) (hag : lw_AgI Inv m_X11_lift m_X12_lift [.int (xs (i + 1))]) (hi : i + 6 ≤ Ln) (hcc : cells ≤ 10000) (hss : slots ≤ 1000000) (hl : am_lr (fun _ => 0) (lw_sa b qx qm qo) ls 7 (lw_L i u w)) (K : LwK Inv p l e s m below meth c D sa b qx qm qo i cells slots Q) : W p l e room_1 s m #[Value.ref b] below meth c H locs cells slots Q (F0 m 490 ls []) := by
  obtain ⟨⟨fx, ex⟩, ⟨fm, em⟩⟩ := hSh hx hm hI
  obtain ⟨z, hx', hm', kx, jx, km, jm, r1, r2, b1, b2, hI'⟩ := hag hx hm hI
  refine lw_W C.1 C.2.1 C.2.2.2.1 (lw_Ks C.2.2.2.2.1 _) (ad := fun _ => 0) (sa := lw_sa b qx qm qo) 1 (pc := 490) (pc' := 491) (L := lw_L i u w) (L' := lw_L i u w) (st := []) (st' := [.retAddr 10]) rfl hl (fun ls hl => ?_)
  refine lw_ld C S (pc := 491) (k := 1) (kc := 1) (st := [.retAddr 10]) (nI_add i 1) (by omega) rfl dL_law_496 hl (fun ls hl => ?_)
  refine lw_callX (pc := 497) (as := [.int (xs (i + 1))]) (rest := []) C hl.1.1 dL_law_497 rfl rfl (List.forall_mem_cons.mpr ⟨Or.inl ⟨_, rfl⟩, fun v hv => nomatch hv⟩) (Nat.le_of_ble_eq_true rfl) ex r1 (Or.inl ⟨_, rfl⟩) (Nat.le_of_ble_eq_true rfl) (by omega) (by omega) S (fun H1 locs1 S => ?_)
  refine lw_W C.1 C.2.1 C.2.2.2.1 (lw_Ks C.2.2.2.2.1 _) (ad := fun _ => 0) (sa := lw_sa b qx qm qo) 1 (pc := 500) (pc' := 501) (L := lw_L i u w) (L' := lw_L i u w) (st := [.int z]) (st' := [.retAddr 11, .int z]) rfl hl (fun ls hl => ?_)
  refine lw_ld C S (pc := 501) (k := 1) (kc := 1) (st := [.retAddr 11, .int z]) (nI_add i 1) (by omega) rfl dL_law_506 hl (fun ls hl => ?_)
  refine lw_callM (pc := 507) (as := [.int (xs (i + 1))]) (rest := [.int z]) C hl.1.1 dL_law_507 rfl rfl (List.forall_mem_cons.mpr ⟨Or.inl ⟨_, rfl⟩, fun v hv => nomatch hv⟩) (Nat.le_of_ble_eq_true rfl) em r2 (Or.inl ⟨_, rfl⟩) (Nat.le_of_ble_eq_true rfl) (by omega) (by omega) S (fun H1 locs1 S => ?_)
  refine lw_W C.1 C.2.1 C.2.2.2.1 (lw_Ks C.2.2.2.2.1 _) (ad := fun _ => 0) (sa := lw_sa b qx qm qo) 1 (pc := 510) (pc' := 1514) (L := lw_L i u w) (L' := lw_L i u w) (st := [.int z, .int z]) (st' := []) (lw_br rfl) hl (fun ls hl => ?_)
  exact K hx' hm' _ _ ls _ _ _ _ hI' S hl (by omega) (by omega)
set_option maxRecDepth 100000 in
set_option maxHeartbeats 4000000 in
theorem lw_c8 {p : Program} {l : Launch} {e : Env} {s : State} {m : MethodId} {below : List Frame} {meth : Method} {c : Code} {H : Heap} {locs : List Loc} {cells slots : Nat} {Q : State → Prop} {b Ln : Nat} {xs : Nat → Int32} {sa av : Nat → Nat} {D : va_G} {hx hm : AmH} {qx qm qo : Nat} {ls : Array Slot} {i : Nat} {u w : Option Value} {Inv : AmH → AmH → Prop} (hSh : lw_Sh Inv) (C : LwC p s m c b Ln xs sa av) (S : LwS D sa s H locs hx hm qx qm qo) (hI : Inv hx hm) (hag : lw_AgI Inv m_X11_coin m_X12_coin [.int (xs (i + 1)), .int (xs (i + 2))]) (hi : i + 6 ≤ Ln) (hcc : cells ≤ 10000) (hss : slots ≤ 1000000) (hl : am_lr (fun _ => 0) (lw_sa b qx qm qo) ls 7 (lw_L i u w)) (K : LwK Inv p l e s m below meth c D sa b qx qm qo i cells slots Q) : W p l e room_1 s m #[Value.ref b] below meth c H locs cells slots Q (F0 m 515 ls []) := by
  obtain ⟨⟨fx, ex⟩, ⟨fm, em⟩⟩ := hSh hx hm hI
  obtain ⟨z, hx', hm', kx, jx, km, jm, r1, r2, b1, b2, hI'⟩ := hag hx hm hI
  refine lw_W C.1 C.2.1 C.2.2.2.1 (lw_Ks C.2.2.2.2.1 _) (ad := fun _ => 0) (sa := lw_sa b qx qm qo) 1 (pc := 515) (pc' := 516) (L := lw_L i u w) (L' := lw_L i u w) (st := []) (st' := [.retAddr 10]) rfl hl (fun ls hl => ?_)
  refine lw_ld C S (pc := 516) (k := 1) (kc := 1) (st := [.retAddr 10]) (nI_add i 1) (by omega) rfl dL_law_521 hl (fun ls hl => ?_)
  refine lw_ld C S (pc := 522) (k := 2) (kc := 2) (st := [.int (xs (i + 1)), .retAddr 10]) (nI_add i 2) (by omega) rfl dL_law_527 hl (fun ls hl => ?_)
  refine lw_callX (pc := 528) (as := [.int (xs (i + 1)), .int (xs (i + 2))]) (rest := []) C hl.1.1 dL_law_528 rfl rfl (List.forall_mem_cons.mpr ⟨Or.inl ⟨_, rfl⟩, List.forall_mem_cons.mpr ⟨Or.inl ⟨_, rfl⟩, fun v hv => nomatch hv⟩⟩) (Nat.le_of_ble_eq_true rfl) ex r1 (Or.inl ⟨_, rfl⟩) (Nat.le_of_ble_eq_true rfl) (by omega) (by omega) S (fun H1 locs1 S => ?_)
  refine lw_W C.1 C.2.1 C.2.2.2.1 (lw_Ks C.2.2.2.2.1 _) (ad := fun _ => 0) (sa := lw_sa b qx qm qo) 1 (pc := 531) (pc' := 532) (L := lw_L i u w) (L' := lw_L i u w) (st := [.int z]) (st' := [.retAddr 11, .int z]) rfl hl (fun ls hl => ?_)
  refine lw_ld C S (pc := 532) (k := 1) (kc := 1) (st := [.retAddr 11, .int z]) (nI_add i 1) (by omega) rfl dL_law_537 hl (fun ls hl => ?_)
  refine lw_ld C S (pc := 538) (k := 2) (kc := 2) (st := [.int (xs (i + 1)), .retAddr 11, .int z]) (nI_add i 2) (by omega) rfl dL_law_543 hl (fun ls hl => ?_)
  refine lw_callM (pc := 544) (as := [.int (xs (i + 1)), .int (xs (i + 2))]) (rest := [.int z]) C hl.1.1 dL_law_544 rfl rfl (List.forall_mem_cons.mpr ⟨Or.inl ⟨_, rfl⟩, List.forall_mem_cons.mpr ⟨Or.inl ⟨_, rfl⟩, fun v hv => nomatch hv⟩⟩) (Nat.le_of_ble_eq_true rfl) em r2 (Or.inl ⟨_, rfl⟩) (Nat.le_of_ble_eq_true rfl) (by omega) (by omega) S (fun H1 locs1 S => ?_)
  refine lw_W C.1 C.2.1 C.2.2.2.1 (lw_Ks C.2.2.2.2.1 _) (ad := fun _ => 0) (sa := lw_sa b qx qm qo) 1 (pc := 547) (pc' := 1514) (L := lw_L i u w) (L' := lw_L i u w) (st := [.int z, .int z]) (st' := []) (lw_br rfl) hl (fun ls hl => ?_)
  exact K hx' hm' _ _ ls _ _ _ _ hI' S hl (by omega) (by omega)
set_option maxRecDepth 100000 in
set_option maxHeartbeats 4000000 in
theorem lw_c9 {p : Program} {l : Launch} {e : Env} {s : State} {m : MethodId} {below : List Frame} {meth : Method} {c : Code} {H : Heap} {locs : List Loc} {cells slots : Nat} {Q : State → Prop} {b Ln : Nat} {xs : Nat → Int32} {sa av : Nat → Nat} {D : va_G} {hx hm : AmH} {qx qm qo : Nat} {ls : Array Slot} {i : Nat} {u w : Option Value} {Inv : AmH → AmH → Prop} (hSh : lw_Sh Inv) (C : LwC p s m c b Ln xs sa av) (S : LwS D sa s H locs hx hm qx qm qo) (hI : Inv hx hm) (hag : lw_AgI Inv m_X11_tray m_X12_tray [.int (xs (i + 1))]) (hi : i + 6 ≤ Ln) (hcc : cells ≤ 10000) (hss : slots ≤ 1000000) (hl : am_lr (fun _ => 0) (lw_sa b qx qm qo) ls 7 (lw_L i u w)) (K : LwK Inv p l e s m below meth c D sa b qx qm qo i cells slots Q) : W p l e room_1 s m #[Value.ref b] below meth c H locs cells slots Q (F0 m 552 ls []) := by
  obtain ⟨⟨fx, ex⟩, ⟨fm, em⟩⟩ := hSh hx hm hI
  obtain ⟨z, hx', hm', kx, jx, km, jm, r1, r2, b1, b2, hI'⟩ := hag hx hm hI
  refine lw_W C.1 C.2.1 C.2.2.2.1 (lw_Ks C.2.2.2.2.1 _) (ad := fun _ => 0) (sa := lw_sa b qx qm qo) 1 (pc := 552) (pc' := 553) (L := lw_L i u w) (L' := lw_L i u w) (st := []) (st' := [.retAddr 10]) rfl hl (fun ls hl => ?_)
  refine lw_ld C S (pc := 553) (k := 1) (kc := 1) (st := [.retAddr 10]) (nI_add i 1) (by omega) rfl dL_law_558 hl (fun ls hl => ?_)
  refine lw_callX (pc := 559) (as := [.int (xs (i + 1))]) (rest := []) C hl.1.1 dL_law_559 rfl rfl (List.forall_mem_cons.mpr ⟨Or.inl ⟨_, rfl⟩, fun v hv => nomatch hv⟩) (Nat.le_of_ble_eq_true rfl) ex r1 (Or.inl ⟨_, rfl⟩) (Nat.le_of_ble_eq_true rfl) (by omega) (by omega) S (fun H1 locs1 S => ?_)
  refine lw_W C.1 C.2.1 C.2.2.2.1 (lw_Ks C.2.2.2.2.1 _) (ad := fun _ => 0) (sa := lw_sa b qx qm qo) 1 (pc := 562) (pc' := 563) (L := lw_L i u w) (L' := lw_L i u w) (st := [.int z]) (st' := [.retAddr 11, .int z]) rfl hl (fun ls hl => ?_)
  refine lw_ld C S (pc := 563) (k := 1) (kc := 1) (st := [.retAddr 11, .int z]) (nI_add i 1) (by omega) rfl dL_law_568 hl (fun ls hl => ?_)
  refine lw_callM (pc := 569) (as := [.int (xs (i + 1))]) (rest := [.int z]) C hl.1.1 dL_law_569 rfl rfl (List.forall_mem_cons.mpr ⟨Or.inl ⟨_, rfl⟩, fun v hv => nomatch hv⟩) (Nat.le_of_ble_eq_true rfl) em r2 (Or.inl ⟨_, rfl⟩) (Nat.le_of_ble_eq_true rfl) (by omega) (by omega) S (fun H1 locs1 S => ?_)
  refine lw_W C.1 C.2.1 C.2.2.2.1 (lw_Ks C.2.2.2.2.1 _) (ad := fun _ => 0) (sa := lw_sa b qx qm qo) 1 (pc := 572) (pc' := 1514) (L := lw_L i u w) (L' := lw_L i u w) (st := [.int z, .int z]) (st' := []) (lw_br rfl) hl (fun ls hl => ?_)
  exact K hx' hm' _ _ ls _ _ _ _ hI' S hl (by omega) (by omega)
set_option maxRecDepth 100000 in
set_option maxHeartbeats 4000000 in
theorem lw_c10 {p : Program} {l : Launch} {e : Env} {s : State} {m : MethodId} {below : List Frame} {meth : Method} {c : Code} {H : Heap} {locs : List Loc} {cells slots : Nat} {Q : State → Prop} {b Ln : Nat} {xs : Nat → Int32} {sa av : Nat → Nat} {D : va_G} {hx hm : AmH} {qx qm qo : Nat} {ls : Array Slot} {i : Nat} {u w : Option Value} {Inv : AmH → AmH → Prop} (hSh : lw_Sh Inv) (C : LwC p s m c b Ln xs sa av) (S : LwS D sa s H locs hx hm qx qm qo) (hI : Inv hx hm) (hag : lw_AgL Inv m_X11_till m_X12_till []) (hi : i + 6 ≤ Ln) (hcc : cells ≤ 10000) (hss : slots ≤ 1000000) (hl : am_lr (fun _ => 0) (lw_sa b qx qm qo) ls 7 (lw_L i u w)) (K : LwK Inv p l e s m below meth c D sa b qx qm qo i cells slots Q) : W p l e room_1 s m #[Value.ref b] below meth c H locs cells slots Q (F0 m 577 ls []) := by
  obtain ⟨⟨fx, ex⟩, ⟨fm, em⟩⟩ := hSh hx hm hI
  obtain ⟨z, hx', hm', kx, jx, km, jm, r1, r2, b1, b2, hI'⟩ := hag hx hm hI
  refine lw_W C.1 C.2.1 C.2.2.2.1 (lw_Ks C.2.2.2.2.1 _) (ad := fun _ => 0) (sa := lw_sa b qx qm qo) 1 (pc := 577) (pc' := 578) (L := lw_L i u w) (L' := lw_L i u w) (st := []) (st' := [.retAddr 10]) rfl hl (fun ls hl => ?_)
  refine lw_callX (pc := 578) (as := []) (rest := []) C hl.1.1 dL_law_578 rfl rfl (fun v hv => nomatch hv) (Nat.le_of_ble_eq_true rfl) ex r1 (Or.inr ⟨_, rfl⟩) (Nat.le_of_ble_eq_true rfl) (by omega) (by omega) S (fun H1 locs1 S => ?_)
  refine lw_W C.1 C.2.1 C.2.2.2.1 (lw_Ks C.2.2.2.2.1 _) (ad := fun _ => 0) (sa := lw_sa b qx qm qo) 1 (pc := 581) (pc' := 582) (L := lw_L i u w) (L' := lw_L i u w) (st := [.long z]) (st' := [.retAddr 11, .long z]) rfl hl (fun ls hl => ?_)
  refine lw_callM (pc := 582) (as := []) (rest := [.long z]) C hl.1.1 dL_law_582 rfl rfl (fun v hv => nomatch hv) (Nat.le_of_ble_eq_true rfl) em r2 (Or.inr ⟨_, rfl⟩) (Nat.le_of_ble_eq_true rfl) (by omega) (by omega) S (fun H1 locs1 S => ?_)
  refine lw_W C.1 C.2.1 C.2.2.2.1 (lw_Ks C.2.2.2.2.1 _) (ad := fun _ => 0) (sa := lw_sa b qx qm qo) 1 (pc := 585) (pc' := 586) (L := lw_L i u w) (L' := lw_L i u w) (st := [.long z, .long z]) (st' := [.int (lg_cmp z z)]) rfl hl (fun ls hl => ?_)
  rw [show lg_cmp z z = 0 from lg_cmp_self z]
  refine lw_W C.1 C.2.1 C.2.2.2.1 (lw_Ks C.2.2.2.2.1 _) (ad := fun _ => 0) (sa := lw_sa b qx qm qo) 1 (pc := 586) (pc' := 1514) (L := lw_L i u w) (L' := lw_L i u w) (st := [.int 0]) (st' := []) rfl hl (fun ls hl => ?_)
  exact K hx' hm' _ _ ls _ _ _ _ hI' S hl (by omega) (by omega)
set_option maxRecDepth 100000 in
set_option maxHeartbeats 4000000 in
theorem lw_c11 {p : Program} {l : Launch} {e : Env} {s : State} {m : MethodId} {below : List Frame} {meth : Method} {c : Code} {H : Heap} {locs : List Loc} {cells slots : Nat} {Q : State → Prop} {b Ln : Nat} {xs : Nat → Int32} {sa av : Nat → Nat} {D : va_G} {hx hm : AmH} {qx qm qo : Nat} {ls : Array Slot} {i : Nat} {u w : Option Value} {Inv : AmH → AmH → Prop} (hSh : lw_Sh Inv) (C : LwC p s m c b Ln xs sa av) (S : LwS D sa s H locs hx hm qx qm qo) (hI : Inv hx hm) (hag : lw_AgL Inv m_X11_result m_X12_result [.int (xs (i + 1)), .int (xs (i + 2))]) (hi : i + 6 ≤ Ln) (hcc : cells ≤ 10000) (hss : slots ≤ 1000000) (hl : am_lr (fun _ => 0) (lw_sa b qx qm qo) ls 7 (lw_L i u w)) (K : LwK Inv p l e s m below meth c D sa b qx qm qo i cells slots Q) : W p l e room_1 s m #[Value.ref b] below meth c H locs cells slots Q (F0 m 591 ls []) := by
  obtain ⟨⟨fx, ex⟩, ⟨fm, em⟩⟩ := hSh hx hm hI
  obtain ⟨z, hx', hm', kx, jx, km, jm, r1, r2, b1, b2, hI'⟩ := hag hx hm hI
  refine lw_W C.1 C.2.1 C.2.2.2.1 (lw_Ks C.2.2.2.2.1 _) (ad := fun _ => 0) (sa := lw_sa b qx qm qo) 1 (pc := 591) (pc' := 592) (L := lw_L i u w) (L' := lw_L i u w) (st := []) (st' := [.retAddr 10]) rfl hl (fun ls hl => ?_)
  refine lw_ld C S (pc := 592) (k := 1) (kc := 1) (st := [.retAddr 10]) (nI_add i 1) (by omega) rfl dL_law_597 hl (fun ls hl => ?_)
  refine lw_ld C S (pc := 598) (k := 2) (kc := 2) (st := [.int (xs (i + 1)), .retAddr 10]) (nI_add i 2) (by omega) rfl dL_law_603 hl (fun ls hl => ?_)
  refine lw_callX (pc := 604) (as := [.int (xs (i + 1)), .int (xs (i + 2))]) (rest := []) C hl.1.1 dL_law_604 rfl rfl (List.forall_mem_cons.mpr ⟨Or.inl ⟨_, rfl⟩, List.forall_mem_cons.mpr ⟨Or.inl ⟨_, rfl⟩, fun v hv => nomatch hv⟩⟩) (Nat.le_of_ble_eq_true rfl) ex r1 (Or.inr ⟨_, rfl⟩) (Nat.le_of_ble_eq_true rfl) (by omega) (by omega) S (fun H1 locs1 S => ?_)
  refine lw_W C.1 C.2.1 C.2.2.2.1 (lw_Ks C.2.2.2.2.1 _) (ad := fun _ => 0) (sa := lw_sa b qx qm qo) 1 (pc := 607) (pc' := 608) (L := lw_L i u w) (L' := lw_L i u w) (st := [.long z]) (st' := [.retAddr 11, .long z]) rfl hl (fun ls hl => ?_)
  refine lw_ld C S (pc := 608) (k := 1) (kc := 1) (st := [.retAddr 11, .long z]) (nI_add i 1) (by omega) rfl dL_law_613 hl (fun ls hl => ?_)
  refine lw_ld C S (pc := 614) (k := 2) (kc := 2) (st := [.int (xs (i + 1)), .retAddr 11, .long z]) (nI_add i 2) (by omega) rfl dL_law_619 hl (fun ls hl => ?_)
  refine lw_callM (pc := 620) (as := [.int (xs (i + 1)), .int (xs (i + 2))]) (rest := [.long z]) C hl.1.1 dL_law_620 rfl rfl (List.forall_mem_cons.mpr ⟨Or.inl ⟨_, rfl⟩, List.forall_mem_cons.mpr ⟨Or.inl ⟨_, rfl⟩, fun v hv => nomatch hv⟩⟩) (Nat.le_of_ble_eq_true rfl) em r2 (Or.inr ⟨_, rfl⟩) (Nat.le_of_ble_eq_true rfl) (by omega) (by omega) S (fun H1 locs1 S => ?_)
  refine lw_W C.1 C.2.1 C.2.2.2.1 (lw_Ks C.2.2.2.2.1 _) (ad := fun _ => 0) (sa := lw_sa b qx qm qo) 1 (pc := 623) (pc' := 624) (L := lw_L i u w) (L' := lw_L i u w) (st := [.long z, .long z]) (st' := [.int (lg_cmp z z)]) rfl hl (fun ls hl => ?_)
  rw [show lg_cmp z z = 0 from lg_cmp_self z]
  refine lw_W C.1 C.2.1 C.2.2.2.1 (lw_Ks C.2.2.2.2.1 _) (ad := fun _ => 0) (sa := lw_sa b qx qm qo) 1 (pc := 624) (pc' := 1514) (L := lw_L i u w) (L' := lw_L i u w) (st := [.int 0]) (st' := []) rfl hl (fun ls hl => ?_)
  exact K hx' hm' _ _ ls _ _ _ _ hI' S hl (by omega) (by omega)
set_option maxRecDepth 100000 in
set_option maxHeartbeats 4000000 in
theorem lw_c12 {p : Program} {l : Launch} {e : Env} {s : State} {m : MethodId} {below : List Frame} {meth : Method} {c : Code} {H : Heap} {locs : List Loc} {cells slots : Nat} {Q : State → Prop} {b Ln : Nat} {xs : Nat → Int32} {sa av : Nat → Nat} {D : va_G} {hx hm : AmH} {qx qm qo : Nat} {ls : Array Slot} {i : Nat} {u w : Option Value} {Inv : AmH → AmH → Prop} (hSh : lw_Sh Inv) (C : LwC p s m c b Ln xs sa av) (S : LwS D sa s H locs hx hm qx qm qo) (hI : Inv hx hm) (hag : lw_AgI Inv m_X11_serve m_X12_serve [.int (xs (i + 1)), .int (xs (i + 2))]) (hi : i + 6 ≤ Ln) (hcc : cells ≤ 10000) (hss : slots ≤ 1000000) (hl : am_lr (fun _ => 0) (lw_sa b qx qm qo) ls 7 (lw_L i u w)) (K : LwK Inv p l e s m below meth c D sa b qx qm qo i cells slots Q) : W p l e room_1 s m #[Value.ref b] below meth c H locs cells slots Q (F0 m 629 ls []) := by
  obtain ⟨⟨fx, ex⟩, ⟨fm, em⟩⟩ := hSh hx hm hI
  obtain ⟨z, hx', hm', kx, jx, km, jm, r1, r2, b1, b2, hI'⟩ := hag hx hm hI
  refine lw_W C.1 C.2.1 C.2.2.2.1 (lw_Ks C.2.2.2.2.1 _) (ad := fun _ => 0) (sa := lw_sa b qx qm qo) 1 (pc := 629) (pc' := 630) (L := lw_L i u w) (L' := lw_L i u w) (st := []) (st' := [.retAddr 10]) rfl hl (fun ls hl => ?_)
  refine lw_ld C S (pc := 630) (k := 1) (kc := 1) (st := [.retAddr 10]) (nI_add i 1) (by omega) rfl dL_law_635 hl (fun ls hl => ?_)
  refine lw_ld C S (pc := 636) (k := 2) (kc := 2) (st := [.int (xs (i + 1)), .retAddr 10]) (nI_add i 2) (by omega) rfl dL_law_641 hl (fun ls hl => ?_)
  refine lw_callX (pc := 642) (as := [.int (xs (i + 1)), .int (xs (i + 2))]) (rest := []) C hl.1.1 dL_law_642 rfl rfl (List.forall_mem_cons.mpr ⟨Or.inl ⟨_, rfl⟩, List.forall_mem_cons.mpr ⟨Or.inl ⟨_, rfl⟩, fun v hv => nomatch hv⟩⟩) (Nat.le_of_ble_eq_true rfl) ex r1 (Or.inl ⟨_, rfl⟩) (Nat.le_of_ble_eq_true rfl) (by omega) (by omega) S (fun H1 locs1 S => ?_)
  refine lw_W C.1 C.2.1 C.2.2.2.1 (lw_Ks C.2.2.2.2.1 _) (ad := fun _ => 0) (sa := lw_sa b qx qm qo) 1 (pc := 645) (pc' := 646) (L := lw_L i u w) (L' := lw_L i u w) (st := [.int z]) (st' := [.retAddr 11, .int z]) rfl hl (fun ls hl => ?_)
  refine lw_ld C S (pc := 646) (k := 1) (kc := 1) (st := [.retAddr 11, .int z]) (nI_add i 1) (by omega) rfl dL_law_651 hl (fun ls hl => ?_)
  refine lw_ld C S (pc := 652) (k := 2) (kc := 2) (st := [.int (xs (i + 1)), .retAddr 11, .int z]) (nI_add i 2) (by omega) rfl dL_law_657 hl (fun ls hl => ?_)
  refine lw_callM (pc := 658) (as := [.int (xs (i + 1)), .int (xs (i + 2))]) (rest := [.int z]) C hl.1.1 dL_law_658 rfl rfl (List.forall_mem_cons.mpr ⟨Or.inl ⟨_, rfl⟩, List.forall_mem_cons.mpr ⟨Or.inl ⟨_, rfl⟩, fun v hv => nomatch hv⟩⟩) (Nat.le_of_ble_eq_true rfl) em r2 (Or.inl ⟨_, rfl⟩) (Nat.le_of_ble_eq_true rfl) (by omega) (by omega) S (fun H1 locs1 S => ?_)
  refine lw_W C.1 C.2.1 C.2.2.2.1 (lw_Ks C.2.2.2.2.1 _) (ad := fun _ => 0) (sa := lw_sa b qx qm qo) 1 (pc := 661) (pc' := 1514) (L := lw_L i u w) (L' := lw_L i u w) (st := [.int z, .int z]) (st' := []) (lw_br rfl) hl (fun ls hl => ?_)
  exact K hx' hm' _ _ ls _ _ _ _ hI' S hl (by omega) (by omega)
set_option maxRecDepth 100000 in
set_option maxHeartbeats 4000000 in
theorem lw_c13 {p : Program} {l : Launch} {e : Env} {s : State} {m : MethodId} {below : List Frame} {meth : Method} {c : Code} {H : Heap} {locs : List Loc} {cells slots : Nat} {Q : State → Prop} {b Ln : Nat} {xs : Nat → Int32} {sa av : Nat → Nat} {D : va_G} {hx hm : AmH} {qx qm qo : Nat} {ls : Array Slot} {i : Nat} {u w : Option Value} {Inv : AmH → AmH → Prop} (hSh : lw_Sh Inv) (C : LwC p s m c b Ln xs sa av) (S : LwS D sa s H locs hx hm qx qm qo) (hI : Inv hx hm) (hag : lw_AgI Inv m_X11_row m_X12_row [.int (xs (i + 1))]) (hi : i + 6 ≤ Ln) (hcc : cells ≤ 10000) (hss : slots ≤ 1000000) (hl : am_lr (fun _ => 0) (lw_sa b qx qm qo) ls 7 (lw_L i u w)) (K : LwK Inv p l e s m below meth c D sa b qx qm qo i cells slots Q) : W p l e room_1 s m #[Value.ref b] below meth c H locs cells slots Q (F0 m 666 ls []) := by
  obtain ⟨⟨fx, ex⟩, ⟨fm, em⟩⟩ := hSh hx hm hI
  obtain ⟨z, hx', hm', kx, jx, km, jm, r1, r2, b1, b2, hI'⟩ := hag hx hm hI
  refine lw_W C.1 C.2.1 C.2.2.2.1 (lw_Ks C.2.2.2.2.1 _) (ad := fun _ => 0) (sa := lw_sa b qx qm qo) 1 (pc := 666) (pc' := 667) (L := lw_L i u w) (L' := lw_L i u w) (st := []) (st' := [.retAddr 10]) rfl hl (fun ls hl => ?_)
  refine lw_ld C S (pc := 667) (k := 1) (kc := 1) (st := [.retAddr 10]) (nI_add i 1) (by omega) rfl dL_law_672 hl (fun ls hl => ?_)
  refine lw_callX (pc := 673) (as := [.int (xs (i + 1))]) (rest := []) C hl.1.1 dL_law_673 rfl rfl (List.forall_mem_cons.mpr ⟨Or.inl ⟨_, rfl⟩, fun v hv => nomatch hv⟩) (Nat.le_of_ble_eq_true rfl) ex r1 (Or.inl ⟨_, rfl⟩) (Nat.le_of_ble_eq_true rfl) (by omega) (by omega) S (fun H1 locs1 S => ?_)
  refine lw_W C.1 C.2.1 C.2.2.2.1 (lw_Ks C.2.2.2.2.1 _) (ad := fun _ => 0) (sa := lw_sa b qx qm qo) 1 (pc := 676) (pc' := 677) (L := lw_L i u w) (L' := lw_L i u w) (st := [.int z]) (st' := [.retAddr 11, .int z]) rfl hl (fun ls hl => ?_)
  refine lw_ld C S (pc := 677) (k := 1) (kc := 1) (st := [.retAddr 11, .int z]) (nI_add i 1) (by omega) rfl dL_law_682 hl (fun ls hl => ?_)
  refine lw_callM (pc := 683) (as := [.int (xs (i + 1))]) (rest := [.int z]) C hl.1.1 dL_law_683 rfl rfl (List.forall_mem_cons.mpr ⟨Or.inl ⟨_, rfl⟩, fun v hv => nomatch hv⟩) (Nat.le_of_ble_eq_true rfl) em r2 (Or.inl ⟨_, rfl⟩) (Nat.le_of_ble_eq_true rfl) (by omega) (by omega) S (fun H1 locs1 S => ?_)
  refine lw_W C.1 C.2.1 C.2.2.2.1 (lw_Ks C.2.2.2.2.1 _) (ad := fun _ => 0) (sa := lw_sa b qx qm qo) 1 (pc := 686) (pc' := 1514) (L := lw_L i u w) (L' := lw_L i u w) (st := [.int z, .int z]) (st' := []) (lw_br rfl) hl (fun ls hl => ?_)
  exact K hx' hm' _ _ ls _ _ _ _ hI' S hl (by omega) (by omega)
set_option maxRecDepth 100000 in
set_option maxHeartbeats 4000000 in
theorem lw_c14 {p : Program} {l : Launch} {e : Env} {s : State} {m : MethodId} {below : List Frame} {meth : Method} {c : Code} {H : Heap} {locs : List Loc} {cells slots : Nat} {Q : State → Prop} {b Ln : Nat} {xs : Nat → Int32} {sa av : Nat → Nat} {D : va_G} {hx hm : AmH} {qx qm qo : Nat} {ls : Array Slot} {i : Nat} {u w : Option Value} {Inv : AmH → AmH → Prop} (hSh : lw_Sh Inv) (C : LwC p s m c b Ln xs sa av) (S : LwS D sa s H locs hx hm qx qm qo) (hI : Inv hx hm) (hag : lw_AgL Inv m_X11_left m_X12_left [.int (xs (i + 1)), .int (xs (i + 2))]) (hi : i + 6 ≤ Ln) (hcc : cells ≤ 10000) (hss : slots ≤ 1000000) (hl : am_lr (fun _ => 0) (lw_sa b qx qm qo) ls 7 (lw_L i u w)) (K : LwK Inv p l e s m below meth c D sa b qx qm qo i cells slots Q) : W p l e room_1 s m #[Value.ref b] below meth c H locs cells slots Q (F0 m 691 ls []) := by
  obtain ⟨⟨fx, ex⟩, ⟨fm, em⟩⟩ := hSh hx hm hI
  obtain ⟨z, hx', hm', kx, jx, km, jm, r1, r2, b1, b2, hI'⟩ := hag hx hm hI
  refine lw_W C.1 C.2.1 C.2.2.2.1 (lw_Ks C.2.2.2.2.1 _) (ad := fun _ => 0) (sa := lw_sa b qx qm qo) 1 (pc := 691) (pc' := 692) (L := lw_L i u w) (L' := lw_L i u w) (st := []) (st' := [.retAddr 10]) rfl hl (fun ls hl => ?_)
  refine lw_ld C S (pc := 692) (k := 1) (kc := 1) (st := [.retAddr 10]) (nI_add i 1) (by omega) rfl dL_law_697 hl (fun ls hl => ?_)
  refine lw_ld C S (pc := 698) (k := 2) (kc := 2) (st := [.int (xs (i + 1)), .retAddr 10]) (nI_add i 2) (by omega) rfl dL_law_703 hl (fun ls hl => ?_)
  refine lw_callX (pc := 704) (as := [.int (xs (i + 1)), .int (xs (i + 2))]) (rest := []) C hl.1.1 dL_law_704 rfl rfl (List.forall_mem_cons.mpr ⟨Or.inl ⟨_, rfl⟩, List.forall_mem_cons.mpr ⟨Or.inl ⟨_, rfl⟩, fun v hv => nomatch hv⟩⟩) (Nat.le_of_ble_eq_true rfl) ex r1 (Or.inr ⟨_, rfl⟩) (Nat.le_of_ble_eq_true rfl) (by omega) (by omega) S (fun H1 locs1 S => ?_)
  refine lw_W C.1 C.2.1 C.2.2.2.1 (lw_Ks C.2.2.2.2.1 _) (ad := fun _ => 0) (sa := lw_sa b qx qm qo) 1 (pc := 707) (pc' := 708) (L := lw_L i u w) (L' := lw_L i u w) (st := [.long z]) (st' := [.retAddr 11, .long z]) rfl hl (fun ls hl => ?_)
  refine lw_ld C S (pc := 708) (k := 1) (kc := 1) (st := [.retAddr 11, .long z]) (nI_add i 1) (by omega) rfl dL_law_713 hl (fun ls hl => ?_)
  refine lw_ld C S (pc := 714) (k := 2) (kc := 2) (st := [.int (xs (i + 1)), .retAddr 11, .long z]) (nI_add i 2) (by omega) rfl dL_law_719 hl (fun ls hl => ?_)
  refine lw_callM (pc := 720) (as := [.int (xs (i + 1)), .int (xs (i + 2))]) (rest := [.long z]) C hl.1.1 dL_law_720 rfl rfl (List.forall_mem_cons.mpr ⟨Or.inl ⟨_, rfl⟩, List.forall_mem_cons.mpr ⟨Or.inl ⟨_, rfl⟩, fun v hv => nomatch hv⟩⟩) (Nat.le_of_ble_eq_true rfl) em r2 (Or.inr ⟨_, rfl⟩) (Nat.le_of_ble_eq_true rfl) (by omega) (by omega) S (fun H1 locs1 S => ?_)
  refine lw_W C.1 C.2.1 C.2.2.2.1 (lw_Ks C.2.2.2.2.1 _) (ad := fun _ => 0) (sa := lw_sa b qx qm qo) 1 (pc := 723) (pc' := 724) (L := lw_L i u w) (L' := lw_L i u w) (st := [.long z, .long z]) (st' := [.int (lg_cmp z z)]) rfl hl (fun ls hl => ?_)
  rw [show lg_cmp z z = 0 from lg_cmp_self z]
  refine lw_W C.1 C.2.1 C.2.2.2.1 (lw_Ks C.2.2.2.2.1 _) (ad := fun _ => 0) (sa := lw_sa b qx qm qo) 1 (pc := 724) (pc' := 1514) (L := lw_L i u w) (L' := lw_L i u w) (st := [.int 0]) (st' := []) rfl hl (fun ls hl => ?_)
  exact K hx' hm' _ _ ls _ _ _ _ hI' S hl (by omega) (by omega)
set_option maxRecDepth 100000 in
set_option maxHeartbeats 4000000 in
theorem lw_c15 {p : Program} {l : Launch} {e : Env} {s : State} {m : MethodId} {below : List Frame} {meth : Method} {c : Code} {H : Heap} {locs : List Loc} {cells slots : Nat} {Q : State → Prop} {b Ln : Nat} {xs : Nat → Int32} {sa av : Nat → Nat} {D : va_G} {hx hm : AmH} {qx qm qo : Nat} {ls : Array Slot} {i : Nat} {u w : Option Value} {Inv : AmH → AmH → Prop} (hSh : lw_Sh Inv) (C : LwC p s m c b Ln xs sa av) (S : LwS D sa s H locs hx hm qx qm qo) (hI : Inv hx hm) (hag : lw_AgI Inv m_X11_aside m_X12_aside [.int (xs (i + 1))]) (hi : i + 6 ≤ Ln) (hcc : cells ≤ 10000) (hss : slots ≤ 1000000) (hl : am_lr (fun _ => 0) (lw_sa b qx qm qo) ls 7 (lw_L i u w)) (K : LwK Inv p l e s m below meth c D sa b qx qm qo i cells slots Q) : W p l e room_1 s m #[Value.ref b] below meth c H locs cells slots Q (F0 m 729 ls []) := by
  obtain ⟨⟨fx, ex⟩, ⟨fm, em⟩⟩ := hSh hx hm hI
  obtain ⟨z, hx', hm', kx, jx, km, jm, r1, r2, b1, b2, hI'⟩ := hag hx hm hI
  refine lw_W C.1 C.2.1 C.2.2.2.1 (lw_Ks C.2.2.2.2.1 _) (ad := fun _ => 0) (sa := lw_sa b qx qm qo) 1 (pc := 729) (pc' := 730) (L := lw_L i u w) (L' := lw_L i u w) (st := []) (st' := [.retAddr 10]) rfl hl (fun ls hl => ?_)
  refine lw_ld C S (pc := 730) (k := 1) (kc := 1) (st := [.retAddr 10]) (nI_add i 1) (by omega) rfl dL_law_735 hl (fun ls hl => ?_)
  refine lw_callX (pc := 736) (as := [.int (xs (i + 1))]) (rest := []) C hl.1.1 dL_law_736 rfl rfl (List.forall_mem_cons.mpr ⟨Or.inl ⟨_, rfl⟩, fun v hv => nomatch hv⟩) (Nat.le_of_ble_eq_true rfl) ex r1 (Or.inl ⟨_, rfl⟩) (Nat.le_of_ble_eq_true rfl) (by omega) (by omega) S (fun H1 locs1 S => ?_)
  refine lw_W C.1 C.2.1 C.2.2.2.1 (lw_Ks C.2.2.2.2.1 _) (ad := fun _ => 0) (sa := lw_sa b qx qm qo) 1 (pc := 739) (pc' := 740) (L := lw_L i u w) (L' := lw_L i u w) (st := [.int z]) (st' := [.retAddr 11, .int z]) rfl hl (fun ls hl => ?_)
  refine lw_ld C S (pc := 740) (k := 1) (kc := 1) (st := [.retAddr 11, .int z]) (nI_add i 1) (by omega) rfl dL_law_745 hl (fun ls hl => ?_)
  refine lw_callM (pc := 746) (as := [.int (xs (i + 1))]) (rest := [.int z]) C hl.1.1 dL_law_746 rfl rfl (List.forall_mem_cons.mpr ⟨Or.inl ⟨_, rfl⟩, fun v hv => nomatch hv⟩) (Nat.le_of_ble_eq_true rfl) em r2 (Or.inl ⟨_, rfl⟩) (Nat.le_of_ble_eq_true rfl) (by omega) (by omega) S (fun H1 locs1 S => ?_)
  refine lw_W C.1 C.2.1 C.2.2.2.1 (lw_Ks C.2.2.2.2.1 _) (ad := fun _ => 0) (sa := lw_sa b qx qm qo) 1 (pc := 749) (pc' := 1514) (L := lw_L i u w) (L' := lw_L i u w) (st := [.int z, .int z]) (st' := []) (lw_br rfl) hl (fun ls hl => ?_)
  exact K hx' hm' _ _ ls _ _ _ _ hI' S hl (by omega) (by omega)
set_option maxRecDepth 100000 in
set_option maxHeartbeats 4000000 in
theorem lw_c16 {p : Program} {l : Launch} {e : Env} {s : State} {m : MethodId} {below : List Frame} {meth : Method} {c : Code} {H : Heap} {locs : List Loc} {cells slots : Nat} {Q : State → Prop} {b Ln : Nat} {xs : Nat → Int32} {sa av : Nat → Nat} {D : va_G} {hx hm : AmH} {qx qm qo : Nat} {ls : Array Slot} {i : Nat} {u w : Option Value} {Inv : AmH → AmH → Prop} (hSh : lw_Sh Inv) (C : LwC p s m c b Ln xs sa av) (S : LwS D sa s H locs hx hm qx qm qo) (hI : Inv hx hm) (hag : lw_AgI Inv m_X11_steps m_X12_steps [.int (xs (i + 1))]) (hi : i + 6 ≤ Ln) (hcc : cells ≤ 10000) (hss : slots ≤ 1000000) (hl : am_lr (fun _ => 0) (lw_sa b qx qm qo) ls 7 (lw_L i u w)) (K : LwK Inv p l e s m below meth c D sa b qx qm qo i cells slots Q) : W p l e room_1 s m #[Value.ref b] below meth c H locs cells slots Q (F0 m 754 ls []) := by
  obtain ⟨⟨fx, ex⟩, ⟨fm, em⟩⟩ := hSh hx hm hI
  obtain ⟨z, hx', hm', kx, jx, km, jm, r1, r2, b1, b2, hI'⟩ := hag hx hm hI
  refine lw_W C.1 C.2.1 C.2.2.2.1 (lw_Ks C.2.2.2.2.1 _) (ad := fun _ => 0) (sa := lw_sa b qx qm qo) 1 (pc := 754) (pc' := 755) (L := lw_L i u w) (L' := lw_L i u w) (st := []) (st' := [.retAddr 10]) rfl hl (fun ls hl => ?_)
  refine lw_ld C S (pc := 755) (k := 1) (kc := 1) (st := [.retAddr 10]) (nI_add i 1) (by omega) rfl dL_law_760 hl (fun ls hl => ?_)
  refine lw_callX (pc := 761) (as := [.int (xs (i + 1))]) (rest := []) C hl.1.1 dL_law_761 rfl rfl (List.forall_mem_cons.mpr ⟨Or.inl ⟨_, rfl⟩, fun v hv => nomatch hv⟩) (Nat.le_of_ble_eq_true rfl) ex r1 (Or.inl ⟨_, rfl⟩) (Nat.le_of_ble_eq_true rfl) (by omega) (by omega) S (fun H1 locs1 S => ?_)
  refine lw_W C.1 C.2.1 C.2.2.2.1 (lw_Ks C.2.2.2.2.1 _) (ad := fun _ => 0) (sa := lw_sa b qx qm qo) 1 (pc := 764) (pc' := 765) (L := lw_L i u w) (L' := lw_L i u w) (st := [.int z]) (st' := [.retAddr 11, .int z]) rfl hl (fun ls hl => ?_)
  refine lw_ld C S (pc := 765) (k := 1) (kc := 1) (st := [.retAddr 11, .int z]) (nI_add i 1) (by omega) rfl dL_law_770 hl (fun ls hl => ?_)
  refine lw_callM (pc := 771) (as := [.int (xs (i + 1))]) (rest := [.int z]) C hl.1.1 dL_law_771 rfl rfl (List.forall_mem_cons.mpr ⟨Or.inl ⟨_, rfl⟩, fun v hv => nomatch hv⟩) (Nat.le_of_ble_eq_true rfl) em r2 (Or.inl ⟨_, rfl⟩) (Nat.le_of_ble_eq_true rfl) (by omega) (by omega) S (fun H1 locs1 S => ?_)
  refine lw_W C.1 C.2.1 C.2.2.2.1 (lw_Ks C.2.2.2.2.1 _) (ad := fun _ => 0) (sa := lw_sa b qx qm qo) 1 (pc := 774) (pc' := 1514) (L := lw_L i u w) (L' := lw_L i u w) (st := [.int z, .int z]) (st' := []) (lw_br rfl) hl (fun ls hl => ?_)
  exact K hx' hm' _ _ ls _ _ _ _ hI' S hl (by omega) (by omega)
set_option maxRecDepth 100000 in
set_option maxHeartbeats 4000000 in
theorem lw_c17 {p : Program} {l : Launch} {e : Env} {s : State} {m : MethodId} {below : List Frame} {meth : Method} {c : Code} {H : Heap} {locs : List Loc} {cells slots : Nat} {Q : State → Prop} {b Ln : Nat} {xs : Nat → Int32} {sa av : Nat → Nat} {D : va_G} {hx hm : AmH} {qx qm qo : Nat} {ls : Array Slot} {i : Nat} {u w : Option Value} {Inv : AmH → AmH → Prop} (hSh : lw_Sh Inv) (C : LwC p s m c b Ln xs sa av) (S : LwS D sa s H locs hx hm qx qm qo) (hI : Inv hx hm) (hag : lw_AgI Inv m_X11_most m_X12_most []) (hi : i + 6 ≤ Ln) (hcc : cells ≤ 10000) (hss : slots ≤ 1000000) (hl : am_lr (fun _ => 0) (lw_sa b qx qm qo) ls 7 (lw_L i u w)) (K : LwK Inv p l e s m below meth c D sa b qx qm qo i cells slots Q) : W p l e room_1 s m #[Value.ref b] below meth c H locs cells slots Q (F0 m 779 ls []) := by
  obtain ⟨⟨fx, ex⟩, ⟨fm, em⟩⟩ := hSh hx hm hI
  obtain ⟨z, hx', hm', kx, jx, km, jm, r1, r2, b1, b2, hI'⟩ := hag hx hm hI
  refine lw_W C.1 C.2.1 C.2.2.2.1 (lw_Ks C.2.2.2.2.1 _) (ad := fun _ => 0) (sa := lw_sa b qx qm qo) 1 (pc := 779) (pc' := 780) (L := lw_L i u w) (L' := lw_L i u w) (st := []) (st' := [.retAddr 10]) rfl hl (fun ls hl => ?_)
  refine lw_callX (pc := 780) (as := []) (rest := []) C hl.1.1 dL_law_780 rfl rfl (fun v hv => nomatch hv) (Nat.le_of_ble_eq_true rfl) ex r1 (Or.inl ⟨_, rfl⟩) (Nat.le_of_ble_eq_true rfl) (by omega) (by omega) S (fun H1 locs1 S => ?_)
  refine lw_W C.1 C.2.1 C.2.2.2.1 (lw_Ks C.2.2.2.2.1 _) (ad := fun _ => 0) (sa := lw_sa b qx qm qo) 1 (pc := 783) (pc' := 784) (L := lw_L i u w) (L' := lw_L i u w) (st := [.int z]) (st' := [.retAddr 11, .int z]) rfl hl (fun ls hl => ?_)
  refine lw_callM (pc := 784) (as := []) (rest := [.int z]) C hl.1.1 dL_law_784 rfl rfl (fun v hv => nomatch hv) (Nat.le_of_ble_eq_true rfl) em r2 (Or.inl ⟨_, rfl⟩) (Nat.le_of_ble_eq_true rfl) (by omega) (by omega) S (fun H1 locs1 S => ?_)
  refine lw_W C.1 C.2.1 C.2.2.2.1 (lw_Ks C.2.2.2.2.1 _) (ad := fun _ => 0) (sa := lw_sa b qx qm qo) 1 (pc := 787) (pc' := 1514) (L := lw_L i u w) (L' := lw_L i u w) (st := [.int z, .int z]) (st' := []) (lw_br rfl) hl (fun ls hl => ?_)
  exact K hx' hm' _ _ ls _ _ _ _ hI' S hl (by omega) (by omega)
set_option maxRecDepth 100000 in
set_option maxHeartbeats 4000000 in
theorem lw_c18 {p : Program} {l : Launch} {e : Env} {s : State} {m : MethodId} {below : List Frame} {meth : Method} {c : Code} {H : Heap} {locs : List Loc} {cells slots : Nat} {Q : State → Prop} {b Ln : Nat} {xs : Nat → Int32} {sa av : Nat → Nat} {D : va_G} {hx hm : AmH} {qx qm qo : Nat} {ls : Array Slot} {i : Nat} {u w : Option Value} {Inv : AmH → AmH → Prop} (hSh : lw_Sh Inv) (C : LwC p s m c b Ln xs sa av) (S : LwS D sa s H locs hx hm qx qm qo) (hI : Inv hx hm) (hag : lw_AgL Inv m_X11_dawn m_X12_dawn [.int (xs (i + 1)), .int (xs (i + 2))]) (hi : i + 6 ≤ Ln) (hcc : cells ≤ 10000) (hss : slots ≤ 1000000) (hl : am_lr (fun _ => 0) (lw_sa b qx qm qo) ls 7 (lw_L i u w)) (K : LwK Inv p l e s m below meth c D sa b qx qm qo i cells slots Q) : W p l e room_1 s m #[Value.ref b] below meth c H locs cells slots Q (F0 m 792 ls []) := by
  obtain ⟨⟨fx, ex⟩, ⟨fm, em⟩⟩ := hSh hx hm hI
  obtain ⟨z, hx', hm', kx, jx, km, jm, r1, r2, b1, b2, hI'⟩ := hag hx hm hI
  refine lw_W C.1 C.2.1 C.2.2.2.1 (lw_Ks C.2.2.2.2.1 _) (ad := fun _ => 0) (sa := lw_sa b qx qm qo) 1 (pc := 792) (pc' := 793) (L := lw_L i u w) (L' := lw_L i u w) (st := []) (st' := [.retAddr 10]) rfl hl (fun ls hl => ?_)
  refine lw_ld C S (pc := 793) (k := 1) (kc := 1) (st := [.retAddr 10]) (nI_add i 1) (by omega) rfl dL_law_798 hl (fun ls hl => ?_)
  refine lw_ld C S (pc := 799) (k := 2) (kc := 2) (st := [.int (xs (i + 1)), .retAddr 10]) (nI_add i 2) (by omega) rfl dL_law_804 hl (fun ls hl => ?_)
  refine lw_callX (pc := 805) (as := [.int (xs (i + 1)), .int (xs (i + 2))]) (rest := []) C hl.1.1 dL_law_805 rfl rfl (List.forall_mem_cons.mpr ⟨Or.inl ⟨_, rfl⟩, List.forall_mem_cons.mpr ⟨Or.inl ⟨_, rfl⟩, fun v hv => nomatch hv⟩⟩) (Nat.le_of_ble_eq_true rfl) ex r1 (Or.inr ⟨_, rfl⟩) (Nat.le_of_ble_eq_true rfl) (by omega) (by omega) S (fun H1 locs1 S => ?_)
  refine lw_W C.1 C.2.1 C.2.2.2.1 (lw_Ks C.2.2.2.2.1 _) (ad := fun _ => 0) (sa := lw_sa b qx qm qo) 1 (pc := 808) (pc' := 809) (L := lw_L i u w) (L' := lw_L i u w) (st := [.long z]) (st' := [.retAddr 11, .long z]) rfl hl (fun ls hl => ?_)
  refine lw_ld C S (pc := 809) (k := 1) (kc := 1) (st := [.retAddr 11, .long z]) (nI_add i 1) (by omega) rfl dL_law_814 hl (fun ls hl => ?_)
  refine lw_ld C S (pc := 815) (k := 2) (kc := 2) (st := [.int (xs (i + 1)), .retAddr 11, .long z]) (nI_add i 2) (by omega) rfl dL_law_820 hl (fun ls hl => ?_)
  refine lw_callM (pc := 821) (as := [.int (xs (i + 1)), .int (xs (i + 2))]) (rest := [.long z]) C hl.1.1 dL_law_821 rfl rfl (List.forall_mem_cons.mpr ⟨Or.inl ⟨_, rfl⟩, List.forall_mem_cons.mpr ⟨Or.inl ⟨_, rfl⟩, fun v hv => nomatch hv⟩⟩) (Nat.le_of_ble_eq_true rfl) em r2 (Or.inr ⟨_, rfl⟩) (Nat.le_of_ble_eq_true rfl) (by omega) (by omega) S (fun H1 locs1 S => ?_)
  refine lw_W C.1 C.2.1 C.2.2.2.1 (lw_Ks C.2.2.2.2.1 _) (ad := fun _ => 0) (sa := lw_sa b qx qm qo) 1 (pc := 824) (pc' := 825) (L := lw_L i u w) (L' := lw_L i u w) (st := [.long z, .long z]) (st' := [.int (lg_cmp z z)]) rfl hl (fun ls hl => ?_)
  rw [show lg_cmp z z = 0 from lg_cmp_self z]
  refine lw_W C.1 C.2.1 C.2.2.2.1 (lw_Ks C.2.2.2.2.1 _) (ad := fun _ => 0) (sa := lw_sa b qx qm qo) 1 (pc := 825) (pc' := 1514) (L := lw_L i u w) (L' := lw_L i u w) (st := [.int 0]) (st' := []) rfl hl (fun ls hl => ?_)
  exact K hx' hm' _ _ ls _ _ _ _ hI' S hl (by omega) (by omega)
set_option maxRecDepth 100000 in
set_option maxHeartbeats 4000000 in
theorem lw_c19 {p : Program} {l : Launch} {e : Env} {s : State} {m : MethodId} {below : List Frame} {meth : Method} {c : Code} {H : Heap} {locs : List Loc} {cells slots : Nat} {Q : State → Prop} {b Ln : Nat} {xs : Nat → Int32} {sa av : Nat → Nat} {D : va_G} {hx hm : AmH} {qx qm qo : Nat} {ls : Array Slot} {i : Nat} {u w : Option Value} {Inv : AmH → AmH → Prop} (hSh : lw_Sh Inv) (C : LwC p s m c b Ln xs sa av) (S : LwS D sa s H locs hx hm qx qm qo) (hI : Inv hx hm) (hag : lw_AgI Inv m_X11_breaks m_X12_breaks [.int (xs (i + 1))]) (hi : i + 6 ≤ Ln) (hcc : cells ≤ 10000) (hss : slots ≤ 1000000) (hl : am_lr (fun _ => 0) (lw_sa b qx qm qo) ls 7 (lw_L i u w)) (K : LwK Inv p l e s m below meth c D sa b qx qm qo i cells slots Q) : W p l e room_1 s m #[Value.ref b] below meth c H locs cells slots Q (F0 m 830 ls []) := by
  obtain ⟨⟨fx, ex⟩, ⟨fm, em⟩⟩ := hSh hx hm hI
  obtain ⟨z, hx', hm', kx, jx, km, jm, r1, r2, b1, b2, hI'⟩ := hag hx hm hI
  refine lw_W C.1 C.2.1 C.2.2.2.1 (lw_Ks C.2.2.2.2.1 _) (ad := fun _ => 0) (sa := lw_sa b qx qm qo) 1 (pc := 830) (pc' := 831) (L := lw_L i u w) (L' := lw_L i u w) (st := []) (st' := [.retAddr 10]) rfl hl (fun ls hl => ?_)
  refine lw_ld C S (pc := 831) (k := 1) (kc := 1) (st := [.retAddr 10]) (nI_add i 1) (by omega) rfl dL_law_836 hl (fun ls hl => ?_)
  refine lw_callX (pc := 837) (as := [.int (xs (i + 1))]) (rest := []) C hl.1.1 dL_law_837 rfl rfl (List.forall_mem_cons.mpr ⟨Or.inl ⟨_, rfl⟩, fun v hv => nomatch hv⟩) (Nat.le_of_ble_eq_true rfl) ex r1 (Or.inl ⟨_, rfl⟩) (Nat.le_of_ble_eq_true rfl) (by omega) (by omega) S (fun H1 locs1 S => ?_)
  refine lw_W C.1 C.2.1 C.2.2.2.1 (lw_Ks C.2.2.2.2.1 _) (ad := fun _ => 0) (sa := lw_sa b qx qm qo) 1 (pc := 840) (pc' := 841) (L := lw_L i u w) (L' := lw_L i u w) (st := [.int z]) (st' := [.retAddr 11, .int z]) rfl hl (fun ls hl => ?_)
  refine lw_ld C S (pc := 841) (k := 1) (kc := 1) (st := [.retAddr 11, .int z]) (nI_add i 1) (by omega) rfl dL_law_846 hl (fun ls hl => ?_)
  refine lw_callM (pc := 847) (as := [.int (xs (i + 1))]) (rest := [.int z]) C hl.1.1 dL_law_847 rfl rfl (List.forall_mem_cons.mpr ⟨Or.inl ⟨_, rfl⟩, fun v hv => nomatch hv⟩) (Nat.le_of_ble_eq_true rfl) em r2 (Or.inl ⟨_, rfl⟩) (Nat.le_of_ble_eq_true rfl) (by omega) (by omega) S (fun H1 locs1 S => ?_)
  refine lw_W C.1 C.2.1 C.2.2.2.1 (lw_Ks C.2.2.2.2.1 _) (ad := fun _ => 0) (sa := lw_sa b qx qm qo) 1 (pc := 850) (pc' := 1514) (L := lw_L i u w) (L' := lw_L i u w) (st := [.int z, .int z]) (st' := []) (lw_br rfl) hl (fun ls hl => ?_)
  exact K hx' hm' _ _ ls _ _ _ _ hI' S hl (by omega) (by omega)
set_option maxRecDepth 100000 in
set_option maxHeartbeats 4000000 in
theorem lw_c20 {p : Program} {l : Launch} {e : Env} {s : State} {m : MethodId} {below : List Frame} {meth : Method} {c : Code} {H : Heap} {locs : List Loc} {cells slots : Nat} {Q : State → Prop} {b Ln : Nat} {xs : Nat → Int32} {sa av : Nat → Nat} {D : va_G} {hx hm : AmH} {qx qm qo : Nat} {ls : Array Slot} {i : Nat} {u w : Option Value} {Inv : AmH → AmH → Prop} (hSh : lw_Sh Inv) (C : LwC p s m c b Ln xs sa av) (S : LwS D sa s H locs hx hm qx qm qo) (hI : Inv hx hm) (hag : lw_AgI Inv m_X11_by m_X12_by [.int (xs (i + 1)), .int (xs (i + 2))]) (hi : i + 6 ≤ Ln) (hcc : cells ≤ 10000) (hss : slots ≤ 1000000) (hl : am_lr (fun _ => 0) (lw_sa b qx qm qo) ls 7 (lw_L i u w)) (K : LwK Inv p l e s m below meth c D sa b qx qm qo i cells slots Q) : W p l e room_1 s m #[Value.ref b] below meth c H locs cells slots Q (F0 m 855 ls []) := by
  obtain ⟨⟨fx, ex⟩, ⟨fm, em⟩⟩ := hSh hx hm hI
  obtain ⟨z, hx', hm', kx, jx, km, jm, r1, r2, b1, b2, hI'⟩ := hag hx hm hI
  refine lw_W C.1 C.2.1 C.2.2.2.1 (lw_Ks C.2.2.2.2.1 _) (ad := fun _ => 0) (sa := lw_sa b qx qm qo) 1 (pc := 855) (pc' := 856) (L := lw_L i u w) (L' := lw_L i u w) (st := []) (st' := [.retAddr 10]) rfl hl (fun ls hl => ?_)
  refine lw_ld C S (pc := 856) (k := 1) (kc := 1) (st := [.retAddr 10]) (nI_add i 1) (by omega) rfl dL_law_861 hl (fun ls hl => ?_)
  refine lw_ld C S (pc := 862) (k := 2) (kc := 2) (st := [.int (xs (i + 1)), .retAddr 10]) (nI_add i 2) (by omega) rfl dL_law_867 hl (fun ls hl => ?_)
  refine lw_callX (pc := 868) (as := [.int (xs (i + 1)), .int (xs (i + 2))]) (rest := []) C hl.1.1 dL_law_868 rfl rfl (List.forall_mem_cons.mpr ⟨Or.inl ⟨_, rfl⟩, List.forall_mem_cons.mpr ⟨Or.inl ⟨_, rfl⟩, fun v hv => nomatch hv⟩⟩) (Nat.le_of_ble_eq_true rfl) ex r1 (Or.inl ⟨_, rfl⟩) (Nat.le_of_ble_eq_true rfl) (by omega) (by omega) S (fun H1 locs1 S => ?_)
  refine lw_W C.1 C.2.1 C.2.2.2.1 (lw_Ks C.2.2.2.2.1 _) (ad := fun _ => 0) (sa := lw_sa b qx qm qo) 1 (pc := 871) (pc' := 872) (L := lw_L i u w) (L' := lw_L i u w) (st := [.int z]) (st' := [.retAddr 11, .int z]) rfl hl (fun ls hl => ?_)
  refine lw_ld C S (pc := 872) (k := 1) (kc := 1) (st := [.retAddr 11, .int z]) (nI_add i 1) (by omega) rfl dL_law_877 hl (fun ls hl => ?_)
  refine lw_ld C S (pc := 878) (k := 2) (kc := 2) (st := [.int (xs (i + 1)), .retAddr 11, .int z]) (nI_add i 2) (by omega) rfl dL_law_883 hl (fun ls hl => ?_)
  refine lw_callM (pc := 884) (as := [.int (xs (i + 1)), .int (xs (i + 2))]) (rest := [.int z]) C hl.1.1 dL_law_884 rfl rfl (List.forall_mem_cons.mpr ⟨Or.inl ⟨_, rfl⟩, List.forall_mem_cons.mpr ⟨Or.inl ⟨_, rfl⟩, fun v hv => nomatch hv⟩⟩) (Nat.le_of_ble_eq_true rfl) em r2 (Or.inl ⟨_, rfl⟩) (Nat.le_of_ble_eq_true rfl) (by omega) (by omega) S (fun H1 locs1 S => ?_)
  refine lw_W C.1 C.2.1 C.2.2.2.1 (lw_Ks C.2.2.2.2.1 _) (ad := fun _ => 0) (sa := lw_sa b qx qm qo) 1 (pc := 887) (pc' := 1514) (L := lw_L i u w) (L' := lw_L i u w) (st := [.int z, .int z]) (st' := []) (lw_br rfl) hl (fun ls hl => ?_)
  exact K hx' hm' _ _ ls _ _ _ _ hI' S hl (by omega) (by omega)
set_option maxRecDepth 100000 in
set_option maxHeartbeats 4000000 in
theorem lw_c21 {p : Program} {l : Launch} {e : Env} {s : State} {m : MethodId} {below : List Frame} {meth : Method} {c : Code} {H : Heap} {locs : List Loc} {cells slots : Nat} {Q : State → Prop} {b Ln : Nat} {xs : Nat → Int32} {sa av : Nat → Nat} {D : va_G} {hx hm : AmH} {qx qm qo : Nat} {ls : Array Slot} {i : Nat} {u w : Option Value} {Inv : AmH → AmH → Prop} (hSh : lw_Sh Inv) (C : LwC p s m c b Ln xs sa av) (S : LwS D sa s H locs hx hm qx qm qo) (hI : Inv hx hm) (hag : lw_AgI Inv m_X11_gives m_X12_gives [.int (xs (i + 1)), .int (xs (i + 2))]) (hi : i + 6 ≤ Ln) (hcc : cells ≤ 10000) (hss : slots ≤ 1000000) (hl : am_lr (fun _ => 0) (lw_sa b qx qm qo) ls 7 (lw_L i u w)) (K : LwK Inv p l e s m below meth c D sa b qx qm qo i cells slots Q) : W p l e room_1 s m #[Value.ref b] below meth c H locs cells slots Q (F0 m 892 ls []) := by
  obtain ⟨⟨fx, ex⟩, ⟨fm, em⟩⟩ := hSh hx hm hI
  obtain ⟨z, hx', hm', kx, jx, km, jm, r1, r2, b1, b2, hI'⟩ := hag hx hm hI
  refine lw_W C.1 C.2.1 C.2.2.2.1 (lw_Ks C.2.2.2.2.1 _) (ad := fun _ => 0) (sa := lw_sa b qx qm qo) 1 (pc := 892) (pc' := 893) (L := lw_L i u w) (L' := lw_L i u w) (st := []) (st' := [.retAddr 10]) rfl hl (fun ls hl => ?_)
  refine lw_ld C S (pc := 893) (k := 1) (kc := 1) (st := [.retAddr 10]) (nI_add i 1) (by omega) rfl dL_law_898 hl (fun ls hl => ?_)
  refine lw_ld C S (pc := 899) (k := 2) (kc := 2) (st := [.int (xs (i + 1)), .retAddr 10]) (nI_add i 2) (by omega) rfl dL_law_904 hl (fun ls hl => ?_)
  refine lw_callX (pc := 905) (as := [.int (xs (i + 1)), .int (xs (i + 2))]) (rest := []) C hl.1.1 dL_law_905 rfl rfl (List.forall_mem_cons.mpr ⟨Or.inl ⟨_, rfl⟩, List.forall_mem_cons.mpr ⟨Or.inl ⟨_, rfl⟩, fun v hv => nomatch hv⟩⟩) (Nat.le_of_ble_eq_true rfl) ex r1 (Or.inl ⟨_, rfl⟩) (Nat.le_of_ble_eq_true rfl) (by omega) (by omega) S (fun H1 locs1 S => ?_)
  refine lw_W C.1 C.2.1 C.2.2.2.1 (lw_Ks C.2.2.2.2.1 _) (ad := fun _ => 0) (sa := lw_sa b qx qm qo) 1 (pc := 908) (pc' := 909) (L := lw_L i u w) (L' := lw_L i u w) (st := [.int z]) (st' := [.retAddr 11, .int z]) rfl hl (fun ls hl => ?_)
  refine lw_ld C S (pc := 909) (k := 1) (kc := 1) (st := [.retAddr 11, .int z]) (nI_add i 1) (by omega) rfl dL_law_914 hl (fun ls hl => ?_)
  refine lw_ld C S (pc := 915) (k := 2) (kc := 2) (st := [.int (xs (i + 1)), .retAddr 11, .int z]) (nI_add i 2) (by omega) rfl dL_law_920 hl (fun ls hl => ?_)
  refine lw_callM (pc := 921) (as := [.int (xs (i + 1)), .int (xs (i + 2))]) (rest := [.int z]) C hl.1.1 dL_law_921 rfl rfl (List.forall_mem_cons.mpr ⟨Or.inl ⟨_, rfl⟩, List.forall_mem_cons.mpr ⟨Or.inl ⟨_, rfl⟩, fun v hv => nomatch hv⟩⟩) (Nat.le_of_ble_eq_true rfl) em r2 (Or.inl ⟨_, rfl⟩) (Nat.le_of_ble_eq_true rfl) (by omega) (by omega) S (fun H1 locs1 S => ?_)
  refine lw_W C.1 C.2.1 C.2.2.2.1 (lw_Ks C.2.2.2.2.1 _) (ad := fun _ => 0) (sa := lw_sa b qx qm qo) 1 (pc := 924) (pc' := 1514) (L := lw_L i u w) (L' := lw_L i u w) (st := [.int z, .int z]) (st' := []) (lw_br rfl) hl (fun ls hl => ?_)
  exact K hx' hm' _ _ ls _ _ _ _ hI' S hl (by omega) (by omega)
set_option maxRecDepth 100000 in
set_option maxHeartbeats 4000000 in
theorem lw_c22 {p : Program} {l : Launch} {e : Env} {s : State} {m : MethodId} {below : List Frame} {meth : Method} {c : Code} {H : Heap} {locs : List Loc} {cells slots : Nat} {Q : State → Prop} {b Ln : Nat} {xs : Nat → Int32} {sa av : Nat → Nat} {D : va_G} {hx hm : AmH} {qx qm qo : Nat} {ls : Array Slot} {i : Nat} {u w : Option Value} {Inv : AmH → AmH → Prop} (hSh : lw_Sh Inv) (C : LwC p s m c b Ln xs sa av) (S : LwS D sa s H locs hx hm qx qm qo) (hI : Inv hx hm) (hag : lw_AgI Inv m_X11_run m_X12_run [.int (xs (i + 1)), .int (xs (i + 2))]) (hi : i + 6 ≤ Ln) (hcc : cells ≤ 10000) (hss : slots ≤ 1000000) (hl : am_lr (fun _ => 0) (lw_sa b qx qm qo) ls 7 (lw_L i u w)) (K : LwK Inv p l e s m below meth c D sa b qx qm qo i cells slots Q) : W p l e room_1 s m #[Value.ref b] below meth c H locs cells slots Q (F0 m 929 ls []) := by
  obtain ⟨⟨fx, ex⟩, ⟨fm, em⟩⟩ := hSh hx hm hI
  obtain ⟨z, hx', hm', kx, jx, km, jm, r1, r2, b1, b2, hI'⟩ := hag hx hm hI
  refine lw_W C.1 C.2.1 C.2.2.2.1 (lw_Ks C.2.2.2.2.1 _) (ad := fun _ => 0) (sa := lw_sa b qx qm qo) 1 (pc := 929) (pc' := 930) (L := lw_L i u w) (L' := lw_L i u w) (st := []) (st' := [.retAddr 10]) rfl hl (fun ls hl => ?_)
  refine lw_ld C S (pc := 930) (k := 1) (kc := 1) (st := [.retAddr 10]) (nI_add i 1) (by omega) rfl dL_law_935 hl (fun ls hl => ?_)
  refine lw_ld C S (pc := 936) (k := 2) (kc := 2) (st := [.int (xs (i + 1)), .retAddr 10]) (nI_add i 2) (by omega) rfl dL_law_941 hl (fun ls hl => ?_)
  refine lw_callX (pc := 942) (as := [.int (xs (i + 1)), .int (xs (i + 2))]) (rest := []) C hl.1.1 dL_law_942 rfl rfl (List.forall_mem_cons.mpr ⟨Or.inl ⟨_, rfl⟩, List.forall_mem_cons.mpr ⟨Or.inl ⟨_, rfl⟩, fun v hv => nomatch hv⟩⟩) (Nat.le_of_ble_eq_true rfl) ex r1 (Or.inl ⟨_, rfl⟩) (Nat.le_of_ble_eq_true rfl) (by omega) (by omega) S (fun H1 locs1 S => ?_)
  refine lw_W C.1 C.2.1 C.2.2.2.1 (lw_Ks C.2.2.2.2.1 _) (ad := fun _ => 0) (sa := lw_sa b qx qm qo) 1 (pc := 945) (pc' := 946) (L := lw_L i u w) (L' := lw_L i u w) (st := [.int z]) (st' := [.retAddr 11, .int z]) rfl hl (fun ls hl => ?_)
  refine lw_ld C S (pc := 946) (k := 1) (kc := 1) (st := [.retAddr 11, .int z]) (nI_add i 1) (by omega) rfl dL_law_951 hl (fun ls hl => ?_)
  refine lw_ld C S (pc := 952) (k := 2) (kc := 2) (st := [.int (xs (i + 1)), .retAddr 11, .int z]) (nI_add i 2) (by omega) rfl dL_law_957 hl (fun ls hl => ?_)
  refine lw_callM (pc := 958) (as := [.int (xs (i + 1)), .int (xs (i + 2))]) (rest := [.int z]) C hl.1.1 dL_law_958 rfl rfl (List.forall_mem_cons.mpr ⟨Or.inl ⟨_, rfl⟩, List.forall_mem_cons.mpr ⟨Or.inl ⟨_, rfl⟩, fun v hv => nomatch hv⟩⟩) (Nat.le_of_ble_eq_true rfl) em r2 (Or.inl ⟨_, rfl⟩) (Nat.le_of_ble_eq_true rfl) (by omega) (by omega) S (fun H1 locs1 S => ?_)
  refine lw_W C.1 C.2.1 C.2.2.2.1 (lw_Ks C.2.2.2.2.1 _) (ad := fun _ => 0) (sa := lw_sa b qx qm qo) 1 (pc := 961) (pc' := 1514) (L := lw_L i u w) (L' := lw_L i u w) (st := [.int z, .int z]) (st' := []) (lw_br rfl) hl (fun ls hl => ?_)
  exact K hx' hm' _ _ ls _ _ _ _ hI' S hl (by omega) (by omega)
set_option maxRecDepth 100000 in
set_option maxHeartbeats 4000000 in
theorem lw_c23 {p : Program} {l : Launch} {e : Env} {s : State} {m : MethodId} {below : List Frame} {meth : Method} {c : Code} {H : Heap} {locs : List Loc} {cells slots : Nat} {Q : State → Prop} {b Ln : Nat} {xs : Nat → Int32} {sa av : Nat → Nat} {D : va_G} {hx hm : AmH} {qx qm qo : Nat} {ls : Array Slot} {i : Nat} {u w : Option Value} {Inv : AmH → AmH → Prop} (hSh : lw_Sh Inv) (C : LwC p s m c b Ln xs sa av) (S : LwS D sa s H locs hx hm qx qm qo) (hI : Inv hx hm) (hag : lw_AgI Inv m_X11_worst m_X12_worst [.int (xs (i + 1)), .int (xs (i + 2))]) (hi : i + 6 ≤ Ln) (hcc : cells ≤ 10000) (hss : slots ≤ 1000000) (hl : am_lr (fun _ => 0) (lw_sa b qx qm qo) ls 7 (lw_L i u w)) (K : LwK Inv p l e s m below meth c D sa b qx qm qo i cells slots Q) : W p l e room_1 s m #[Value.ref b] below meth c H locs cells slots Q (F0 m 966 ls []) := by
  obtain ⟨⟨fx, ex⟩, ⟨fm, em⟩⟩ := hSh hx hm hI
  obtain ⟨z, hx', hm', kx, jx, km, jm, r1, r2, b1, b2, hI'⟩ := hag hx hm hI
  refine lw_W C.1 C.2.1 C.2.2.2.1 (lw_Ks C.2.2.2.2.1 _) (ad := fun _ => 0) (sa := lw_sa b qx qm qo) 1 (pc := 966) (pc' := 967) (L := lw_L i u w) (L' := lw_L i u w) (st := []) (st' := [.retAddr 10]) rfl hl (fun ls hl => ?_)
  refine lw_ld C S (pc := 967) (k := 1) (kc := 1) (st := [.retAddr 10]) (nI_add i 1) (by omega) rfl dL_law_972 hl (fun ls hl => ?_)
  refine lw_ld C S (pc := 973) (k := 2) (kc := 2) (st := [.int (xs (i + 1)), .retAddr 10]) (nI_add i 2) (by omega) rfl dL_law_978 hl (fun ls hl => ?_)
  refine lw_callX (pc := 979) (as := [.int (xs (i + 1)), .int (xs (i + 2))]) (rest := []) C hl.1.1 dL_law_979 rfl rfl (List.forall_mem_cons.mpr ⟨Or.inl ⟨_, rfl⟩, List.forall_mem_cons.mpr ⟨Or.inl ⟨_, rfl⟩, fun v hv => nomatch hv⟩⟩) (Nat.le_of_ble_eq_true rfl) ex r1 (Or.inl ⟨_, rfl⟩) (Nat.le_of_ble_eq_true rfl) (by omega) (by omega) S (fun H1 locs1 S => ?_)
  refine lw_W C.1 C.2.1 C.2.2.2.1 (lw_Ks C.2.2.2.2.1 _) (ad := fun _ => 0) (sa := lw_sa b qx qm qo) 1 (pc := 982) (pc' := 983) (L := lw_L i u w) (L' := lw_L i u w) (st := [.int z]) (st' := [.retAddr 11, .int z]) rfl hl (fun ls hl => ?_)
  refine lw_ld C S (pc := 983) (k := 1) (kc := 1) (st := [.retAddr 11, .int z]) (nI_add i 1) (by omega) rfl dL_law_988 hl (fun ls hl => ?_)
  refine lw_ld C S (pc := 989) (k := 2) (kc := 2) (st := [.int (xs (i + 1)), .retAddr 11, .int z]) (nI_add i 2) (by omega) rfl dL_law_994 hl (fun ls hl => ?_)
  refine lw_callM (pc := 995) (as := [.int (xs (i + 1)), .int (xs (i + 2))]) (rest := [.int z]) C hl.1.1 dL_law_995 rfl rfl (List.forall_mem_cons.mpr ⟨Or.inl ⟨_, rfl⟩, List.forall_mem_cons.mpr ⟨Or.inl ⟨_, rfl⟩, fun v hv => nomatch hv⟩⟩) (Nat.le_of_ble_eq_true rfl) em r2 (Or.inl ⟨_, rfl⟩) (Nat.le_of_ble_eq_true rfl) (by omega) (by omega) S (fun H1 locs1 S => ?_)
  refine lw_W C.1 C.2.1 C.2.2.2.1 (lw_Ks C.2.2.2.2.1 _) (ad := fun _ => 0) (sa := lw_sa b qx qm qo) 1 (pc := 998) (pc' := 1514) (L := lw_L i u w) (L' := lw_L i u w) (st := [.int z, .int z]) (st' := []) (lw_br rfl) hl (fun ls hl => ?_)
  exact K hx' hm' _ _ ls _ _ _ _ hI' S hl (by omega) (by omega)
set_option maxRecDepth 100000 in
set_option maxHeartbeats 4000000 in
theorem lw_c24 {p : Program} {l : Launch} {e : Env} {s : State} {m : MethodId} {below : List Frame} {meth : Method} {c : Code} {H : Heap} {locs : List Loc} {cells slots : Nat} {Q : State → Prop} {b Ln : Nat} {xs : Nat → Int32} {sa av : Nat → Nat} {D : va_G} {hx hm : AmH} {qx qm qo : Nat} {ls : Array Slot} {i : Nat} {u w : Option Value} {Inv : AmH → AmH → Prop} (hSh : lw_Sh Inv) (C : LwC p s m c b Ln xs sa av) (S : LwS D sa s H locs hx hm qx qm qo) (hI : Inv hx hm) (hag : lw_AgI Inv m_X11_day m_X12_day [.int (xs (i + 1)), .int (xs (i + 2)), .long ((((xs (i + 3))).toInt64 <<< ((32 : Int32).toInt64 &&& 63)) ||| (((xs (i + 4))).toInt64 &&& 4294967295))]) (hi : i + 6 ≤ Ln) (hcc : cells ≤ 10000) (hss : slots ≤ 1000000) (hl : am_lr (fun _ => 0) (lw_sa b qx qm qo) ls 7 (lw_L i u w)) (K : LwK Inv p l e s m below meth c D sa b qx qm qo i cells slots Q) : W p l e room_1 s m #[Value.ref b] below meth c H locs cells slots Q (F0 m 1003 ls []) := by
  obtain ⟨⟨fx, ex⟩, ⟨fm, em⟩⟩ := hSh hx hm hI
  obtain ⟨z, hx', hm', kx, jx, km, jm, r1, r2, b1, b2, hI'⟩ := hag hx hm hI
  refine lw_W C.1 C.2.1 C.2.2.2.1 (lw_Ks C.2.2.2.2.1 _) (ad := fun _ => 0) (sa := lw_sa b qx qm qo) 1 (pc := 1003) (pc' := 1004) (L := lw_L i u w) (L' := lw_L i u w) (st := []) (st' := [.retAddr 10]) rfl hl (fun ls hl => ?_)
  refine lw_ld C S (pc := 1004) (k := 1) (kc := 1) (st := [.retAddr 10]) (nI_add i 1) (by omega) rfl dL_law_1009 hl (fun ls hl => ?_)
  refine lw_ld C S (pc := 1010) (k := 2) (kc := 2) (st := [.int (xs (i + 1)), .retAddr 10]) (nI_add i 2) (by omega) rfl dL_law_1015 hl (fun ls hl => ?_)
  refine lw_ld C S (pc := 1016) (k := 3) (kc := 3) (st := [.int (xs (i + 2)), .int (xs (i + 1)), .retAddr 10]) (nI_add i 3) (by omega) rfl dL_law_1021 hl (fun ls hl => ?_)
  refine lw_W C.1 C.2.1 C.2.2.2.1 (lw_Ks C.2.2.2.2.1 _) (ad := fun _ => 0) (sa := lw_sa b qx qm qo) 3 (pc := 1022) (pc' := 1026) (L := lw_L i u w) (L' := lw_L i u w) (st := [.int (xs (i + 3)), .int (xs (i + 2)), .int (xs (i + 1)), .retAddr 10]) (st' := [.long (((xs (i + 3))).toInt64 <<< ((32 : Int32).toInt64 &&& 63)), .int (xs (i + 2)), .int (xs (i + 1)), .retAddr 10]) rfl hl (fun ls hl => ?_)
  refine lw_ld C S (pc := 1026) (k := 4) (kc := 4) (st := [.long (((xs (i + 3))).toInt64 <<< ((32 : Int32).toInt64 &&& 63)), .int (xs (i + 2)), .int (xs (i + 1)), .retAddr 10]) (nI_add i 4) (by omega) rfl dL_law_1031 hl (fun ls hl => ?_)
  refine lw_W C.1 C.2.1 C.2.2.2.1 (lw_Ks C.2.2.2.2.1 _) (ad := fun _ => 0) (sa := lw_sa b qx qm qo) 4 (pc := 1032) (pc' := 1038) (L := lw_L i u w) (L' := lw_L i u w) (st := [.int (xs (i + 4)), .long (((xs (i + 3))).toInt64 <<< ((32 : Int32).toInt64 &&& 63)), .int (xs (i + 2)), .int (xs (i + 1)), .retAddr 10]) (st' := [.long ((((xs (i + 3))).toInt64 <<< ((32 : Int32).toInt64 &&& 63)) ||| (((xs (i + 4))).toInt64 &&& 4294967295)), .int (xs (i + 2)), .int (xs (i + 1)), .retAddr 10]) rfl hl (fun ls hl => ?_)
  refine lw_callX (pc := 1038) (as := [.int (xs (i + 1)), .int (xs (i + 2)), .long ((((xs (i + 3))).toInt64 <<< ((32 : Int32).toInt64 &&& 63)) ||| (((xs (i + 4))).toInt64 &&& 4294967295))]) (rest := []) C hl.1.1 dL_law_1038 rfl rfl (List.forall_mem_cons.mpr ⟨Or.inl ⟨_, rfl⟩, List.forall_mem_cons.mpr ⟨Or.inl ⟨_, rfl⟩, List.forall_mem_cons.mpr ⟨Or.inr ⟨_, rfl⟩, fun v hv => nomatch hv⟩⟩⟩) (Nat.le_of_ble_eq_true rfl) ex r1 (Or.inl ⟨_, rfl⟩) (Nat.le_of_ble_eq_true rfl) (by omega) (by omega) S (fun H1 locs1 S => ?_)
  refine lw_W C.1 C.2.1 C.2.2.2.1 (lw_Ks C.2.2.2.2.1 _) (ad := fun _ => 0) (sa := lw_sa b qx qm qo) 1 (pc := 1041) (pc' := 1042) (L := lw_L i u w) (L' := lw_L i u w) (st := [.int z]) (st' := [.retAddr 11, .int z]) rfl hl (fun ls hl => ?_)
  refine lw_ld C S (pc := 1042) (k := 1) (kc := 1) (st := [.retAddr 11, .int z]) (nI_add i 1) (by omega) rfl dL_law_1047 hl (fun ls hl => ?_)
  refine lw_ld C S (pc := 1048) (k := 2) (kc := 2) (st := [.int (xs (i + 1)), .retAddr 11, .int z]) (nI_add i 2) (by omega) rfl dL_law_1053 hl (fun ls hl => ?_)
  refine lw_ld C S (pc := 1054) (k := 3) (kc := 3) (st := [.int (xs (i + 2)), .int (xs (i + 1)), .retAddr 11, .int z]) (nI_add i 3) (by omega) rfl dL_law_1059 hl (fun ls hl => ?_)
  refine lw_W C.1 C.2.1 C.2.2.2.1 (lw_Ks C.2.2.2.2.1 _) (ad := fun _ => 0) (sa := lw_sa b qx qm qo) 3 (pc := 1060) (pc' := 1064) (L := lw_L i u w) (L' := lw_L i u w) (st := [.int (xs (i + 3)), .int (xs (i + 2)), .int (xs (i + 1)), .retAddr 11, .int z]) (st' := [.long (((xs (i + 3))).toInt64 <<< ((32 : Int32).toInt64 &&& 63)), .int (xs (i + 2)), .int (xs (i + 1)), .retAddr 11, .int z]) rfl hl (fun ls hl => ?_)
  refine lw_ld C S (pc := 1064) (k := 4) (kc := 4) (st := [.long (((xs (i + 3))).toInt64 <<< ((32 : Int32).toInt64 &&& 63)), .int (xs (i + 2)), .int (xs (i + 1)), .retAddr 11, .int z]) (nI_add i 4) (by omega) rfl dL_law_1069 hl (fun ls hl => ?_)
  refine lw_W C.1 C.2.1 C.2.2.2.1 (lw_Ks C.2.2.2.2.1 _) (ad := fun _ => 0) (sa := lw_sa b qx qm qo) 4 (pc := 1070) (pc' := 1076) (L := lw_L i u w) (L' := lw_L i u w) (st := [.int (xs (i + 4)), .long (((xs (i + 3))).toInt64 <<< ((32 : Int32).toInt64 &&& 63)), .int (xs (i + 2)), .int (xs (i + 1)), .retAddr 11, .int z]) (st' := [.long ((((xs (i + 3))).toInt64 <<< ((32 : Int32).toInt64 &&& 63)) ||| (((xs (i + 4))).toInt64 &&& 4294967295)), .int (xs (i + 2)), .int (xs (i + 1)), .retAddr 11, .int z]) rfl hl (fun ls hl => ?_)
  refine lw_callM (pc := 1076) (as := [.int (xs (i + 1)), .int (xs (i + 2)), .long ((((xs (i + 3))).toInt64 <<< ((32 : Int32).toInt64 &&& 63)) ||| (((xs (i + 4))).toInt64 &&& 4294967295))]) (rest := [.int z]) C hl.1.1 dL_law_1076 rfl rfl (List.forall_mem_cons.mpr ⟨Or.inl ⟨_, rfl⟩, List.forall_mem_cons.mpr ⟨Or.inl ⟨_, rfl⟩, List.forall_mem_cons.mpr ⟨Or.inr ⟨_, rfl⟩, fun v hv => nomatch hv⟩⟩⟩) (Nat.le_of_ble_eq_true rfl) em r2 (Or.inl ⟨_, rfl⟩) (Nat.le_of_ble_eq_true rfl) (by omega) (by omega) S (fun H1 locs1 S => ?_)
  refine lw_W C.1 C.2.1 C.2.2.2.1 (lw_Ks C.2.2.2.2.1 _) (ad := fun _ => 0) (sa := lw_sa b qx qm qo) 1 (pc := 1079) (pc' := 1514) (L := lw_L i u w) (L' := lw_L i u w) (st := [.int z, .int z]) (st' := []) (lw_br rfl) hl (fun ls hl => ?_)
  exact K hx' hm' _ _ ls _ _ _ _ hI' S hl (by omega) (by omega)
set_option maxRecDepth 100000 in
set_option maxHeartbeats 4000000 in
theorem lw_c25 {p : Program} {l : Launch} {e : Env} {s : State} {m : MethodId} {below : List Frame} {meth : Method} {c : Code} {H : Heap} {locs : List Loc} {cells slots : Nat} {Q : State → Prop} {b Ln : Nat} {xs : Nat → Int32} {sa av : Nat → Nat} {D : va_G} {hx hm : AmH} {qx qm qo : Nat} {ls : Array Slot} {i : Nat} {u w : Option Value} {Inv : AmH → AmH → Prop} (hSh : lw_Sh Inv) (C : LwC p s m c b Ln xs sa av) (S : LwS D sa s H locs hx hm qx qm qo) (hI : Inv hx hm) (hag : lw_AgI Inv m_X11_best m_X12_best [.int (xs (i + 1)), .int (xs (i + 2)), .long ((((xs (i + 3))).toInt64 <<< ((32 : Int32).toInt64 &&& 63)) ||| (((xs (i + 4))).toInt64 &&& 4294967295))]) (hi : i + 6 ≤ Ln) (hcc : cells ≤ 10000) (hss : slots ≤ 1000000) (hl : am_lr (fun _ => 0) (lw_sa b qx qm qo) ls 7 (lw_L i u w)) (K : LwK Inv p l e s m below meth c D sa b qx qm qo i cells slots Q) : W p l e room_1 s m #[Value.ref b] below meth c H locs cells slots Q (F0 m 1084 ls []) := by
  obtain ⟨⟨fx, ex⟩, ⟨fm, em⟩⟩ := hSh hx hm hI
  obtain ⟨z, hx', hm', kx, jx, km, jm, r1, r2, b1, b2, hI'⟩ := hag hx hm hI
  refine lw_W C.1 C.2.1 C.2.2.2.1 (lw_Ks C.2.2.2.2.1 _) (ad := fun _ => 0) (sa := lw_sa b qx qm qo) 1 (pc := 1084) (pc' := 1085) (L := lw_L i u w) (L' := lw_L i u w) (st := []) (st' := [.retAddr 10]) rfl hl (fun ls hl => ?_)
  refine lw_ld C S (pc := 1085) (k := 1) (kc := 1) (st := [.retAddr 10]) (nI_add i 1) (by omega) rfl dL_law_1090 hl (fun ls hl => ?_)
  refine lw_ld C S (pc := 1091) (k := 2) (kc := 2) (st := [.int (xs (i + 1)), .retAddr 10]) (nI_add i 2) (by omega) rfl dL_law_1096 hl (fun ls hl => ?_)
  refine lw_ld C S (pc := 1097) (k := 3) (kc := 3) (st := [.int (xs (i + 2)), .int (xs (i + 1)), .retAddr 10]) (nI_add i 3) (by omega) rfl dL_law_1102 hl (fun ls hl => ?_)
  refine lw_W C.1 C.2.1 C.2.2.2.1 (lw_Ks C.2.2.2.2.1 _) (ad := fun _ => 0) (sa := lw_sa b qx qm qo) 3 (pc := 1103) (pc' := 1107) (L := lw_L i u w) (L' := lw_L i u w) (st := [.int (xs (i + 3)), .int (xs (i + 2)), .int (xs (i + 1)), .retAddr 10]) (st' := [.long (((xs (i + 3))).toInt64 <<< ((32 : Int32).toInt64 &&& 63)), .int (xs (i + 2)), .int (xs (i + 1)), .retAddr 10]) rfl hl (fun ls hl => ?_)
  refine lw_ld C S (pc := 1107) (k := 4) (kc := 4) (st := [.long (((xs (i + 3))).toInt64 <<< ((32 : Int32).toInt64 &&& 63)), .int (xs (i + 2)), .int (xs (i + 1)), .retAddr 10]) (nI_add i 4) (by omega) rfl dL_law_1112 hl (fun ls hl => ?_)
  refine lw_W C.1 C.2.1 C.2.2.2.1 (lw_Ks C.2.2.2.2.1 _) (ad := fun _ => 0) (sa := lw_sa b qx qm qo) 4 (pc := 1113) (pc' := 1119) (L := lw_L i u w) (L' := lw_L i u w) (st := [.int (xs (i + 4)), .long (((xs (i + 3))).toInt64 <<< ((32 : Int32).toInt64 &&& 63)), .int (xs (i + 2)), .int (xs (i + 1)), .retAddr 10]) (st' := [.long ((((xs (i + 3))).toInt64 <<< ((32 : Int32).toInt64 &&& 63)) ||| (((xs (i + 4))).toInt64 &&& 4294967295)), .int (xs (i + 2)), .int (xs (i + 1)), .retAddr 10]) rfl hl (fun ls hl => ?_)
  refine lw_callX (pc := 1119) (as := [.int (xs (i + 1)), .int (xs (i + 2)), .long ((((xs (i + 3))).toInt64 <<< ((32 : Int32).toInt64 &&& 63)) ||| (((xs (i + 4))).toInt64 &&& 4294967295))]) (rest := []) C hl.1.1 dL_law_1119 rfl rfl (List.forall_mem_cons.mpr ⟨Or.inl ⟨_, rfl⟩, List.forall_mem_cons.mpr ⟨Or.inl ⟨_, rfl⟩, List.forall_mem_cons.mpr ⟨Or.inr ⟨_, rfl⟩, fun v hv => nomatch hv⟩⟩⟩) (Nat.le_of_ble_eq_true rfl) ex r1 (Or.inl ⟨_, rfl⟩) (Nat.le_of_ble_eq_true rfl) (by omega) (by omega) S (fun H1 locs1 S => ?_)
  refine lw_W C.1 C.2.1 C.2.2.2.1 (lw_Ks C.2.2.2.2.1 _) (ad := fun _ => 0) (sa := lw_sa b qx qm qo) 1 (pc := 1122) (pc' := 1123) (L := lw_L i u w) (L' := lw_L i u w) (st := [.int z]) (st' := [.retAddr 11, .int z]) rfl hl (fun ls hl => ?_)
  refine lw_ld C S (pc := 1123) (k := 1) (kc := 1) (st := [.retAddr 11, .int z]) (nI_add i 1) (by omega) rfl dL_law_1128 hl (fun ls hl => ?_)
  refine lw_ld C S (pc := 1129) (k := 2) (kc := 2) (st := [.int (xs (i + 1)), .retAddr 11, .int z]) (nI_add i 2) (by omega) rfl dL_law_1134 hl (fun ls hl => ?_)
  refine lw_ld C S (pc := 1135) (k := 3) (kc := 3) (st := [.int (xs (i + 2)), .int (xs (i + 1)), .retAddr 11, .int z]) (nI_add i 3) (by omega) rfl dL_law_1140 hl (fun ls hl => ?_)
  refine lw_W C.1 C.2.1 C.2.2.2.1 (lw_Ks C.2.2.2.2.1 _) (ad := fun _ => 0) (sa := lw_sa b qx qm qo) 3 (pc := 1141) (pc' := 1145) (L := lw_L i u w) (L' := lw_L i u w) (st := [.int (xs (i + 3)), .int (xs (i + 2)), .int (xs (i + 1)), .retAddr 11, .int z]) (st' := [.long (((xs (i + 3))).toInt64 <<< ((32 : Int32).toInt64 &&& 63)), .int (xs (i + 2)), .int (xs (i + 1)), .retAddr 11, .int z]) rfl hl (fun ls hl => ?_)
  refine lw_ld C S (pc := 1145) (k := 4) (kc := 4) (st := [.long (((xs (i + 3))).toInt64 <<< ((32 : Int32).toInt64 &&& 63)), .int (xs (i + 2)), .int (xs (i + 1)), .retAddr 11, .int z]) (nI_add i 4) (by omega) rfl dL_law_1150 hl (fun ls hl => ?_)
  refine lw_W C.1 C.2.1 C.2.2.2.1 (lw_Ks C.2.2.2.2.1 _) (ad := fun _ => 0) (sa := lw_sa b qx qm qo) 4 (pc := 1151) (pc' := 1157) (L := lw_L i u w) (L' := lw_L i u w) (st := [.int (xs (i + 4)), .long (((xs (i + 3))).toInt64 <<< ((32 : Int32).toInt64 &&& 63)), .int (xs (i + 2)), .int (xs (i + 1)), .retAddr 11, .int z]) (st' := [.long ((((xs (i + 3))).toInt64 <<< ((32 : Int32).toInt64 &&& 63)) ||| (((xs (i + 4))).toInt64 &&& 4294967295)), .int (xs (i + 2)), .int (xs (i + 1)), .retAddr 11, .int z]) rfl hl (fun ls hl => ?_)
  refine lw_callM (pc := 1157) (as := [.int (xs (i + 1)), .int (xs (i + 2)), .long ((((xs (i + 3))).toInt64 <<< ((32 : Int32).toInt64 &&& 63)) ||| (((xs (i + 4))).toInt64 &&& 4294967295))]) (rest := [.int z]) C hl.1.1 dL_law_1157 rfl rfl (List.forall_mem_cons.mpr ⟨Or.inl ⟨_, rfl⟩, List.forall_mem_cons.mpr ⟨Or.inl ⟨_, rfl⟩, List.forall_mem_cons.mpr ⟨Or.inr ⟨_, rfl⟩, fun v hv => nomatch hv⟩⟩⟩) (Nat.le_of_ble_eq_true rfl) em r2 (Or.inl ⟨_, rfl⟩) (Nat.le_of_ble_eq_true rfl) (by omega) (by omega) S (fun H1 locs1 S => ?_)
  refine lw_W C.1 C.2.1 C.2.2.2.1 (lw_Ks C.2.2.2.2.1 _) (ad := fun _ => 0) (sa := lw_sa b qx qm qo) 1 (pc := 1160) (pc' := 1514) (L := lw_L i u w) (L' := lw_L i u w) (st := [.int z, .int z]) (st' := []) (lw_br rfl) hl (fun ls hl => ?_)
  exact K hx' hm' _ _ ls _ _ _ _ hI' S hl (by omega) (by omega)
set_option maxRecDepth 100000 in
set_option maxHeartbeats 4000000 in
theorem lw_c26 {p : Program} {l : Launch} {e : Env} {s : State} {m : MethodId} {below : List Frame} {meth : Method} {c : Code} {H : Heap} {locs : List Loc} {cells slots : Nat} {Q : State → Prop} {b Ln : Nat} {xs : Nat → Int32} {sa av : Nat → Nat} {D : va_G} {hx hm : AmH} {qx qm qo : Nat} {ls : Array Slot} {i : Nat} {u w : Option Value} {Inv : AmH → AmH → Prop} (hSh : lw_Sh Inv) (C : LwC p s m c b Ln xs sa av) (S : LwS D sa s H locs hx hm qx qm qo) (hI : Inv hx hm) (hag : lw_AgI Inv m_X11_served m_X12_served [.int (xs (i + 1))]) (hi : i + 6 ≤ Ln) (hcc : cells ≤ 10000) (hss : slots ≤ 1000000) (hl : am_lr (fun _ => 0) (lw_sa b qx qm qo) ls 7 (lw_L i u w)) (K : LwK Inv p l e s m below meth c D sa b qx qm qo i cells slots Q) : W p l e room_1 s m #[Value.ref b] below meth c H locs cells slots Q (F0 m 1165 ls []) := by
  obtain ⟨⟨fx, ex⟩, ⟨fm, em⟩⟩ := hSh hx hm hI
  obtain ⟨z, hx', hm', kx, jx, km, jm, r1, r2, b1, b2, hI'⟩ := hag hx hm hI
  refine lw_W C.1 C.2.1 C.2.2.2.1 (lw_Ks C.2.2.2.2.1 _) (ad := fun _ => 0) (sa := lw_sa b qx qm qo) 1 (pc := 1165) (pc' := 1166) (L := lw_L i u w) (L' := lw_L i u w) (st := []) (st' := [.retAddr 10]) rfl hl (fun ls hl => ?_)
  refine lw_ld C S (pc := 1166) (k := 1) (kc := 1) (st := [.retAddr 10]) (nI_add i 1) (by omega) rfl dL_law_1171 hl (fun ls hl => ?_)
  refine lw_callX (pc := 1172) (as := [.int (xs (i + 1))]) (rest := []) C hl.1.1 dL_law_1172 rfl rfl (List.forall_mem_cons.mpr ⟨Or.inl ⟨_, rfl⟩, fun v hv => nomatch hv⟩) (Nat.le_of_ble_eq_true rfl) ex r1 (Or.inl ⟨_, rfl⟩) (Nat.le_of_ble_eq_true rfl) (by omega) (by omega) S (fun H1 locs1 S => ?_)
  refine lw_W C.1 C.2.1 C.2.2.2.1 (lw_Ks C.2.2.2.2.1 _) (ad := fun _ => 0) (sa := lw_sa b qx qm qo) 1 (pc := 1175) (pc' := 1176) (L := lw_L i u w) (L' := lw_L i u w) (st := [.int z]) (st' := [.retAddr 11, .int z]) rfl hl (fun ls hl => ?_)
  refine lw_ld C S (pc := 1176) (k := 1) (kc := 1) (st := [.retAddr 11, .int z]) (nI_add i 1) (by omega) rfl dL_law_1181 hl (fun ls hl => ?_)
  refine lw_callM (pc := 1182) (as := [.int (xs (i + 1))]) (rest := [.int z]) C hl.1.1 dL_law_1182 rfl rfl (List.forall_mem_cons.mpr ⟨Or.inl ⟨_, rfl⟩, fun v hv => nomatch hv⟩) (Nat.le_of_ble_eq_true rfl) em r2 (Or.inl ⟨_, rfl⟩) (Nat.le_of_ble_eq_true rfl) (by omega) (by omega) S (fun H1 locs1 S => ?_)
  refine lw_W C.1 C.2.1 C.2.2.2.1 (lw_Ks C.2.2.2.2.1 _) (ad := fun _ => 0) (sa := lw_sa b qx qm qo) 1 (pc := 1185) (pc' := 1514) (L := lw_L i u w) (L' := lw_L i u w) (st := [.int z, .int z]) (st' := []) (lw_br rfl) hl (fun ls hl => ?_)
  exact K hx' hm' _ _ ls _ _ _ _ hI' S hl (by omega) (by omega)
set_option maxRecDepth 100000 in
set_option maxHeartbeats 4000000 in
theorem lw_c27 {p : Program} {l : Launch} {e : Env} {s : State} {m : MethodId} {below : List Frame} {meth : Method} {c : Code} {H : Heap} {locs : List Loc} {cells slots : Nat} {Q : State → Prop} {b Ln : Nat} {xs : Nat → Int32} {sa av : Nat → Nat} {D : va_G} {hx hm : AmH} {qx qm qo : Nat} {ls : Array Slot} {i : Nat} {u w : Option Value} {Inv : AmH → AmH → Prop} (hSh : lw_Sh Inv) (C : LwC p s m c b Ln xs sa av) (S : LwS D sa s H locs hx hm qx qm qo) (hI : Inv hx hm) (hag : lw_AgI Inv m_X11_cover m_X12_cover [.int (xs (i + 1))]) (hi : i + 6 ≤ Ln) (hcc : cells ≤ 10000) (hss : slots ≤ 1000000) (hl : am_lr (fun _ => 0) (lw_sa b qx qm qo) ls 7 (lw_L i u w)) (K : LwK Inv p l e s m below meth c D sa b qx qm qo i cells slots Q) : W p l e room_1 s m #[Value.ref b] below meth c H locs cells slots Q (F0 m 1190 ls []) := by
  obtain ⟨⟨fx, ex⟩, ⟨fm, em⟩⟩ := hSh hx hm hI
  obtain ⟨z, hx', hm', kx, jx, km, jm, r1, r2, b1, b2, hI'⟩ := hag hx hm hI
  refine lw_W C.1 C.2.1 C.2.2.2.1 (lw_Ks C.2.2.2.2.1 _) (ad := fun _ => 0) (sa := lw_sa b qx qm qo) 1 (pc := 1190) (pc' := 1191) (L := lw_L i u w) (L' := lw_L i u w) (st := []) (st' := [.retAddr 10]) rfl hl (fun ls hl => ?_)
  refine lw_ld C S (pc := 1191) (k := 1) (kc := 1) (st := [.retAddr 10]) (nI_add i 1) (by omega) rfl dL_law_1196 hl (fun ls hl => ?_)
  refine lw_callX (pc := 1197) (as := [.int (xs (i + 1))]) (rest := []) C hl.1.1 dL_law_1197 rfl rfl (List.forall_mem_cons.mpr ⟨Or.inl ⟨_, rfl⟩, fun v hv => nomatch hv⟩) (Nat.le_of_ble_eq_true rfl) ex r1 (Or.inl ⟨_, rfl⟩) (Nat.le_of_ble_eq_true rfl) (by omega) (by omega) S (fun H1 locs1 S => ?_)
  refine lw_W C.1 C.2.1 C.2.2.2.1 (lw_Ks C.2.2.2.2.1 _) (ad := fun _ => 0) (sa := lw_sa b qx qm qo) 1 (pc := 1200) (pc' := 1201) (L := lw_L i u w) (L' := lw_L i u w) (st := [.int z]) (st' := [.retAddr 11, .int z]) rfl hl (fun ls hl => ?_)
  refine lw_ld C S (pc := 1201) (k := 1) (kc := 1) (st := [.retAddr 11, .int z]) (nI_add i 1) (by omega) rfl dL_law_1206 hl (fun ls hl => ?_)
  refine lw_callM (pc := 1207) (as := [.int (xs (i + 1))]) (rest := [.int z]) C hl.1.1 dL_law_1207 rfl rfl (List.forall_mem_cons.mpr ⟨Or.inl ⟨_, rfl⟩, fun v hv => nomatch hv⟩) (Nat.le_of_ble_eq_true rfl) em r2 (Or.inl ⟨_, rfl⟩) (Nat.le_of_ble_eq_true rfl) (by omega) (by omega) S (fun H1 locs1 S => ?_)
  refine lw_W C.1 C.2.1 C.2.2.2.1 (lw_Ks C.2.2.2.2.1 _) (ad := fun _ => 0) (sa := lw_sa b qx qm qo) 1 (pc := 1210) (pc' := 1514) (L := lw_L i u w) (L' := lw_L i u w) (st := [.int z, .int z]) (st' := []) (lw_br rfl) hl (fun ls hl => ?_)
  exact K hx' hm' _ _ ls _ _ _ _ hI' S hl (by omega) (by omega)
set_option maxRecDepth 100000 in
set_option maxHeartbeats 4000000 in
theorem lw_c28 {p : Program} {l : Launch} {e : Env} {s : State} {m : MethodId} {below : List Frame} {meth : Method} {c : Code} {H : Heap} {locs : List Loc} {cells slots : Nat} {Q : State → Prop} {b Ln : Nat} {xs : Nat → Int32} {sa av : Nat → Nat} {D : va_G} {hx hm : AmH} {qx qm qo : Nat} {ls : Array Slot} {i : Nat} {u w : Option Value} {Inv : AmH → AmH → Prop} (hSh : lw_Sh Inv) (C : LwC p s m c b Ln xs sa av) (S : LwS D sa s H locs hx hm qx qm qo) (hI : Inv hx hm) (hag : lw_AgI Inv m_X11_change m_X12_change [.int (xs (i + 1)), .int (xs (i + 2))]) (hi : i + 6 ≤ Ln) (hcc : cells ≤ 10000) (hss : slots ≤ 1000000) (hl : am_lr (fun _ => 0) (lw_sa b qx qm qo) ls 7 (lw_L i u w)) (K : LwK Inv p l e s m below meth c D sa b qx qm qo i cells slots Q) : W p l e room_1 s m #[Value.ref b] below meth c H locs cells slots Q (F0 m 1215 ls []) := by
  obtain ⟨⟨fx, ex⟩, ⟨fm, em⟩⟩ := hSh hx hm hI
  obtain ⟨z, hx', hm', kx, jx, km, jm, r1, r2, b1, b2, hI'⟩ := hag hx hm hI
  refine lw_W C.1 C.2.1 C.2.2.2.1 (lw_Ks C.2.2.2.2.1 _) (ad := fun _ => 0) (sa := lw_sa b qx qm qo) 1 (pc := 1215) (pc' := 1216) (L := lw_L i u w) (L' := lw_L i u w) (st := []) (st' := [.retAddr 10]) rfl hl (fun ls hl => ?_)
  refine lw_ld C S (pc := 1216) (k := 1) (kc := 1) (st := [.retAddr 10]) (nI_add i 1) (by omega) rfl dL_law_1221 hl (fun ls hl => ?_)
  refine lw_ld C S (pc := 1222) (k := 2) (kc := 2) (st := [.int (xs (i + 1)), .retAddr 10]) (nI_add i 2) (by omega) rfl dL_law_1227 hl (fun ls hl => ?_)
  refine lw_callX (pc := 1228) (as := [.int (xs (i + 1)), .int (xs (i + 2))]) (rest := []) C hl.1.1 dL_law_1228 rfl rfl (List.forall_mem_cons.mpr ⟨Or.inl ⟨_, rfl⟩, List.forall_mem_cons.mpr ⟨Or.inl ⟨_, rfl⟩, fun v hv => nomatch hv⟩⟩) (Nat.le_of_ble_eq_true rfl) ex r1 (Or.inl ⟨_, rfl⟩) (Nat.le_of_ble_eq_true rfl) (by omega) (by omega) S (fun H1 locs1 S => ?_)
  refine lw_W C.1 C.2.1 C.2.2.2.1 (lw_Ks C.2.2.2.2.1 _) (ad := fun _ => 0) (sa := lw_sa b qx qm qo) 1 (pc := 1231) (pc' := 1232) (L := lw_L i u w) (L' := lw_L i u w) (st := [.int z]) (st' := [.retAddr 11, .int z]) rfl hl (fun ls hl => ?_)
  refine lw_ld C S (pc := 1232) (k := 1) (kc := 1) (st := [.retAddr 11, .int z]) (nI_add i 1) (by omega) rfl dL_law_1237 hl (fun ls hl => ?_)
  refine lw_ld C S (pc := 1238) (k := 2) (kc := 2) (st := [.int (xs (i + 1)), .retAddr 11, .int z]) (nI_add i 2) (by omega) rfl dL_law_1243 hl (fun ls hl => ?_)
  refine lw_callM (pc := 1244) (as := [.int (xs (i + 1)), .int (xs (i + 2))]) (rest := [.int z]) C hl.1.1 dL_law_1244 rfl rfl (List.forall_mem_cons.mpr ⟨Or.inl ⟨_, rfl⟩, List.forall_mem_cons.mpr ⟨Or.inl ⟨_, rfl⟩, fun v hv => nomatch hv⟩⟩) (Nat.le_of_ble_eq_true rfl) em r2 (Or.inl ⟨_, rfl⟩) (Nat.le_of_ble_eq_true rfl) (by omega) (by omega) S (fun H1 locs1 S => ?_)
  refine lw_W C.1 C.2.1 C.2.2.2.1 (lw_Ks C.2.2.2.2.1 _) (ad := fun _ => 0) (sa := lw_sa b qx qm qo) 1 (pc := 1247) (pc' := 1514) (L := lw_L i u w) (L' := lw_L i u w) (st := [.int z, .int z]) (st' := []) (lw_br rfl) hl (fun ls hl => ?_)
  exact K hx' hm' _ _ ls _ _ _ _ hI' S hl (by omega) (by omega)
set_option maxRecDepth 100000 in
set_option maxHeartbeats 4000000 in
theorem lw_c29 {p : Program} {l : Launch} {e : Env} {s : State} {m : MethodId} {below : List Frame} {meth : Method} {c : Code} {H : Heap} {locs : List Loc} {cells slots : Nat} {Q : State → Prop} {b Ln : Nat} {xs : Nat → Int32} {sa av : Nat → Nat} {D : va_G} {hx hm : AmH} {qx qm qo : Nat} {ls : Array Slot} {i : Nat} {u w : Option Value} {Inv : AmH → AmH → Prop} (hSh : lw_Sh Inv) (C : LwC p s m c b Ln xs sa av) (S : LwS D sa s H locs hx hm qx qm qo) (hI : Inv hx hm) (hag : lw_AgI Inv m_X11_amounts m_X12_amounts []) (hi : i + 6 ≤ Ln) (hcc : cells ≤ 10000) (hss : slots ≤ 1000000) (hl : am_lr (fun _ => 0) (lw_sa b qx qm qo) ls 7 (lw_L i u w)) (K : LwK Inv p l e s m below meth c D sa b qx qm qo i cells slots Q) : W p l e room_1 s m #[Value.ref b] below meth c H locs cells slots Q (F0 m 1252 ls []) := by
  obtain ⟨⟨fx, ex⟩, ⟨fm, em⟩⟩ := hSh hx hm hI
  obtain ⟨z, hx', hm', kx, jx, km, jm, r1, r2, b1, b2, hI'⟩ := hag hx hm hI
  refine lw_W C.1 C.2.1 C.2.2.2.1 (lw_Ks C.2.2.2.2.1 _) (ad := fun _ => 0) (sa := lw_sa b qx qm qo) 1 (pc := 1252) (pc' := 1253) (L := lw_L i u w) (L' := lw_L i u w) (st := []) (st' := [.retAddr 10]) rfl hl (fun ls hl => ?_)
  refine lw_callX (pc := 1253) (as := []) (rest := []) C hl.1.1 dL_law_1253 rfl rfl (fun v hv => nomatch hv) (Nat.le_of_ble_eq_true rfl) ex r1 (Or.inl ⟨_, rfl⟩) (Nat.le_of_ble_eq_true rfl) (by omega) (by omega) S (fun H1 locs1 S => ?_)
  refine lw_W C.1 C.2.1 C.2.2.2.1 (lw_Ks C.2.2.2.2.1 _) (ad := fun _ => 0) (sa := lw_sa b qx qm qo) 1 (pc := 1256) (pc' := 1257) (L := lw_L i u w) (L' := lw_L i u w) (st := [.int z]) (st' := [.retAddr 11, .int z]) rfl hl (fun ls hl => ?_)
  refine lw_callM (pc := 1257) (as := []) (rest := [.int z]) C hl.1.1 dL_law_1257 rfl rfl (fun v hv => nomatch hv) (Nat.le_of_ble_eq_true rfl) em r2 (Or.inl ⟨_, rfl⟩) (Nat.le_of_ble_eq_true rfl) (by omega) (by omega) S (fun H1 locs1 S => ?_)
  refine lw_W C.1 C.2.1 C.2.2.2.1 (lw_Ks C.2.2.2.2.1 _) (ad := fun _ => 0) (sa := lw_sa b qx qm qo) 1 (pc := 1260) (pc' := 1514) (L := lw_L i u w) (L' := lw_L i u w) (st := [.int z, .int z]) (st' := []) (lw_br rfl) hl (fun ls hl => ?_)
  exact K hx' hm' _ _ ls _ _ _ _ hI' S hl (by omega) (by omega)
set_option maxRecDepth 100000 in
set_option maxHeartbeats 4000000 in
theorem lw_c30 {p : Program} {l : Launch} {e : Env} {s : State} {m : MethodId} {below : List Frame} {meth : Method} {c : Code} {H : Heap} {locs : List Loc} {cells slots : Nat} {Q : State → Prop} {b Ln : Nat} {xs : Nat → Int32} {sa av : Nat → Nat} {D : va_G} {hx hm : AmH} {qx qm qo : Nat} {ls : Array Slot} {i : Nat} {u w : Option Value} {Inv : AmH → AmH → Prop} (hSh : lw_Sh Inv) (C : LwC p s m c b Ln xs sa av) (S : LwS D sa s H locs hx hm qx qm qo) (hI : Inv hx hm) (hag : lw_AgI Inv m_X11_helps m_X12_helps [.int (xs (i + 1))]) (hi : i + 6 ≤ Ln) (hcc : cells ≤ 10000) (hss : slots ≤ 1000000) (hl : am_lr (fun _ => 0) (lw_sa b qx qm qo) ls 7 (lw_L i u w)) (K : LwK Inv p l e s m below meth c D sa b qx qm qo i cells slots Q) : W p l e room_1 s m #[Value.ref b] below meth c H locs cells slots Q (F0 m 1265 ls []) := by
  obtain ⟨⟨fx, ex⟩, ⟨fm, em⟩⟩ := hSh hx hm hI
  obtain ⟨z, hx', hm', kx, jx, km, jm, r1, r2, b1, b2, hI'⟩ := hag hx hm hI
  refine lw_W C.1 C.2.1 C.2.2.2.1 (lw_Ks C.2.2.2.2.1 _) (ad := fun _ => 0) (sa := lw_sa b qx qm qo) 1 (pc := 1265) (pc' := 1266) (L := lw_L i u w) (L' := lw_L i u w) (st := []) (st' := [.retAddr 10]) rfl hl (fun ls hl => ?_)
  refine lw_ld C S (pc := 1266) (k := 1) (kc := 1) (st := [.retAddr 10]) (nI_add i 1) (by omega) rfl dL_law_1271 hl (fun ls hl => ?_)
  refine lw_callX (pc := 1272) (as := [.int (xs (i + 1))]) (rest := []) C hl.1.1 dL_law_1272 rfl rfl (List.forall_mem_cons.mpr ⟨Or.inl ⟨_, rfl⟩, fun v hv => nomatch hv⟩) (Nat.le_of_ble_eq_true rfl) ex r1 (Or.inl ⟨_, rfl⟩) (Nat.le_of_ble_eq_true rfl) (by omega) (by omega) S (fun H1 locs1 S => ?_)
  refine lw_W C.1 C.2.1 C.2.2.2.1 (lw_Ks C.2.2.2.2.1 _) (ad := fun _ => 0) (sa := lw_sa b qx qm qo) 1 (pc := 1275) (pc' := 1276) (L := lw_L i u w) (L' := lw_L i u w) (st := [.int z]) (st' := [.retAddr 11, .int z]) rfl hl (fun ls hl => ?_)
  refine lw_ld C S (pc := 1276) (k := 1) (kc := 1) (st := [.retAddr 11, .int z]) (nI_add i 1) (by omega) rfl dL_law_1281 hl (fun ls hl => ?_)
  refine lw_callM (pc := 1282) (as := [.int (xs (i + 1))]) (rest := [.int z]) C hl.1.1 dL_law_1282 rfl rfl (List.forall_mem_cons.mpr ⟨Or.inl ⟨_, rfl⟩, fun v hv => nomatch hv⟩) (Nat.le_of_ble_eq_true rfl) em r2 (Or.inl ⟨_, rfl⟩) (Nat.le_of_ble_eq_true rfl) (by omega) (by omega) S (fun H1 locs1 S => ?_)
  refine lw_W C.1 C.2.1 C.2.2.2.1 (lw_Ks C.2.2.2.2.1 _) (ad := fun _ => 0) (sa := lw_sa b qx qm qo) 1 (pc := 1285) (pc' := 1514) (L := lw_L i u w) (L' := lw_L i u w) (st := [.int z, .int z]) (st' := []) (lw_br rfl) hl (fun ls hl => ?_)
  exact K hx' hm' _ _ ls _ _ _ _ hI' S hl (by omega) (by omega)
set_option maxRecDepth 100000 in
set_option maxHeartbeats 4000000 in
theorem lw_c31 {p : Program} {l : Launch} {e : Env} {s : State} {m : MethodId} {below : List Frame} {meth : Method} {c : Code} {H : Heap} {locs : List Loc} {cells slots : Nat} {Q : State → Prop} {b Ln : Nat} {xs : Nat → Int32} {sa av : Nat → Nat} {D : va_G} {hx hm : AmH} {qx qm qo : Nat} {ls : Array Slot} {i : Nat} {u w : Option Value} {Inv : AmH → AmH → Prop} (hSh : lw_Sh Inv) (C : LwC p s m c b Ln xs sa av) (S : LwS D sa s H locs hx hm qx qm qo) (hI : Inv hx hm) (hag : lw_AgI Inv m_X11_spoils m_X12_spoils [.int (xs (i + 1))]) (hi : i + 6 ≤ Ln) (hcc : cells ≤ 10000) (hss : slots ≤ 1000000) (hl : am_lr (fun _ => 0) (lw_sa b qx qm qo) ls 7 (lw_L i u w)) (K : LwK Inv p l e s m below meth c D sa b qx qm qo i cells slots Q) : W p l e room_1 s m #[Value.ref b] below meth c H locs cells slots Q (F0 m 1290 ls []) := by
  obtain ⟨⟨fx, ex⟩, ⟨fm, em⟩⟩ := hSh hx hm hI
  obtain ⟨z, hx', hm', kx, jx, km, jm, r1, r2, b1, b2, hI'⟩ := hag hx hm hI
  refine lw_W C.1 C.2.1 C.2.2.2.1 (lw_Ks C.2.2.2.2.1 _) (ad := fun _ => 0) (sa := lw_sa b qx qm qo) 1 (pc := 1290) (pc' := 1291) (L := lw_L i u w) (L' := lw_L i u w) (st := []) (st' := [.retAddr 10]) rfl hl (fun ls hl => ?_)
  refine lw_ld C S (pc := 1291) (k := 1) (kc := 1) (st := [.retAddr 10]) (nI_add i 1) (by omega) rfl dL_law_1296 hl (fun ls hl => ?_)
  refine lw_callX (pc := 1297) (as := [.int (xs (i + 1))]) (rest := []) C hl.1.1 dL_law_1297 rfl rfl (List.forall_mem_cons.mpr ⟨Or.inl ⟨_, rfl⟩, fun v hv => nomatch hv⟩) (Nat.le_of_ble_eq_true rfl) ex r1 (Or.inl ⟨_, rfl⟩) (Nat.le_of_ble_eq_true rfl) (by omega) (by omega) S (fun H1 locs1 S => ?_)
  refine lw_W C.1 C.2.1 C.2.2.2.1 (lw_Ks C.2.2.2.2.1 _) (ad := fun _ => 0) (sa := lw_sa b qx qm qo) 1 (pc := 1300) (pc' := 1301) (L := lw_L i u w) (L' := lw_L i u w) (st := [.int z]) (st' := [.retAddr 11, .int z]) rfl hl (fun ls hl => ?_)
  refine lw_ld C S (pc := 1301) (k := 1) (kc := 1) (st := [.retAddr 11, .int z]) (nI_add i 1) (by omega) rfl dL_law_1306 hl (fun ls hl => ?_)
  refine lw_callM (pc := 1307) (as := [.int (xs (i + 1))]) (rest := [.int z]) C hl.1.1 dL_law_1307 rfl rfl (List.forall_mem_cons.mpr ⟨Or.inl ⟨_, rfl⟩, fun v hv => nomatch hv⟩) (Nat.le_of_ble_eq_true rfl) em r2 (Or.inl ⟨_, rfl⟩) (Nat.le_of_ble_eq_true rfl) (by omega) (by omega) S (fun H1 locs1 S => ?_)
  refine lw_W C.1 C.2.1 C.2.2.2.1 (lw_Ks C.2.2.2.2.1 _) (ad := fun _ => 0) (sa := lw_sa b qx qm qo) 1 (pc := 1310) (pc' := 1514) (L := lw_L i u w) (L' := lw_L i u w) (st := [.int z, .int z]) (st' := []) (lw_br rfl) hl (fun ls hl => ?_)
  exact K hx' hm' _ _ ls _ _ _ _ hI' S hl (by omega) (by omega)
set_option maxRecDepth 100000 in
set_option maxHeartbeats 4000000 in
theorem lw_c32 {p : Program} {l : Launch} {e : Env} {s : State} {m : MethodId} {below : List Frame} {meth : Method} {c : Code} {H : Heap} {locs : List Loc} {cells slots : Nat} {Q : State → Prop} {b Ln : Nat} {xs : Nat → Int32} {sa av : Nat → Nat} {D : va_G} {hx hm : AmH} {qx qm qo : Nat} {ls : Array Slot} {i : Nat} {u w : Option Value} {Inv : AmH → AmH → Prop} (hSh : lw_Sh Inv) (C : LwC p s m c b Ln xs sa av) (S : LwS D sa s H locs hx hm qx qm qo) (hI : Inv hx hm) (hag : lw_AgI Inv m_X11_wise m_X12_wise [.int (xs (i + 1)), .int (xs (i + 2))]) (hi : i + 6 ≤ Ln) (hcc : cells ≤ 10000) (hss : slots ≤ 1000000) (hl : am_lr (fun _ => 0) (lw_sa b qx qm qo) ls 7 (lw_L i u w)) (K : LwK Inv p l e s m below meth c D sa b qx qm qo i cells slots Q) : W p l e room_1 s m #[Value.ref b] below meth c H locs cells slots Q (F0 m 1315 ls []) := by
  obtain ⟨⟨fx, ex⟩, ⟨fm, em⟩⟩ := hSh hx hm hI
  obtain ⟨z, hx', hm', kx, jx, km, jm, r1, r2, b1, b2, hI'⟩ := hag hx hm hI
  refine lw_W C.1 C.2.1 C.2.2.2.1 (lw_Ks C.2.2.2.2.1 _) (ad := fun _ => 0) (sa := lw_sa b qx qm qo) 1 (pc := 1315) (pc' := 1316) (L := lw_L i u w) (L' := lw_L i u w) (st := []) (st' := [.retAddr 10]) rfl hl (fun ls hl => ?_)
  refine lw_ld C S (pc := 1316) (k := 1) (kc := 1) (st := [.retAddr 10]) (nI_add i 1) (by omega) rfl dL_law_1321 hl (fun ls hl => ?_)
  refine lw_ld C S (pc := 1322) (k := 2) (kc := 2) (st := [.int (xs (i + 1)), .retAddr 10]) (nI_add i 2) (by omega) rfl dL_law_1327 hl (fun ls hl => ?_)
  refine lw_callX (pc := 1328) (as := [.int (xs (i + 1)), .int (xs (i + 2))]) (rest := []) C hl.1.1 dL_law_1328 rfl rfl (List.forall_mem_cons.mpr ⟨Or.inl ⟨_, rfl⟩, List.forall_mem_cons.mpr ⟨Or.inl ⟨_, rfl⟩, fun v hv => nomatch hv⟩⟩) (Nat.le_of_ble_eq_true rfl) ex r1 (Or.inl ⟨_, rfl⟩) (Nat.le_of_ble_eq_true rfl) (by omega) (by omega) S (fun H1 locs1 S => ?_)
  refine lw_W C.1 C.2.1 C.2.2.2.1 (lw_Ks C.2.2.2.2.1 _) (ad := fun _ => 0) (sa := lw_sa b qx qm qo) 1 (pc := 1331) (pc' := 1332) (L := lw_L i u w) (L' := lw_L i u w) (st := [.int z]) (st' := [.retAddr 11, .int z]) rfl hl (fun ls hl => ?_)
  refine lw_ld C S (pc := 1332) (k := 1) (kc := 1) (st := [.retAddr 11, .int z]) (nI_add i 1) (by omega) rfl dL_law_1337 hl (fun ls hl => ?_)
  refine lw_ld C S (pc := 1338) (k := 2) (kc := 2) (st := [.int (xs (i + 1)), .retAddr 11, .int z]) (nI_add i 2) (by omega) rfl dL_law_1343 hl (fun ls hl => ?_)
  refine lw_callM (pc := 1344) (as := [.int (xs (i + 1)), .int (xs (i + 2))]) (rest := [.int z]) C hl.1.1 dL_law_1344 rfl rfl (List.forall_mem_cons.mpr ⟨Or.inl ⟨_, rfl⟩, List.forall_mem_cons.mpr ⟨Or.inl ⟨_, rfl⟩, fun v hv => nomatch hv⟩⟩) (Nat.le_of_ble_eq_true rfl) em r2 (Or.inl ⟨_, rfl⟩) (Nat.le_of_ble_eq_true rfl) (by omega) (by omega) S (fun H1 locs1 S => ?_)
  refine lw_W C.1 C.2.1 C.2.2.2.1 (lw_Ks C.2.2.2.2.1 _) (ad := fun _ => 0) (sa := lw_sa b qx qm qo) 1 (pc := 1347) (pc' := 1514) (L := lw_L i u w) (L' := lw_L i u w) (st := [.int z, .int z]) (st' := []) (lw_br rfl) hl (fun ls hl => ?_)
  exact K hx' hm' _ _ ls _ _ _ _ hI' S hl (by omega) (by omega)
set_option maxRecDepth 100000 in
set_option maxHeartbeats 4000000 in
theorem lw_c33 {p : Program} {l : Launch} {e : Env} {s : State} {m : MethodId} {below : List Frame} {meth : Method} {c : Code} {H : Heap} {locs : List Loc} {cells slots : Nat} {Q : State → Prop} {b Ln : Nat} {xs : Nat → Int32} {sa av : Nat → Nat} {D : va_G} {hx hm : AmH} {qx qm qo : Nat} {ls : Array Slot} {i : Nat} {u w : Option Value} {Inv : AmH → AmH → Prop} (hSh : lw_Sh Inv) (C : LwC p s m c b Ln xs sa av) (S : LwS D sa s H locs hx hm qx qm qo) (hI : Inv hx hm) (hag : lw_AgI Inv m_X11_rich m_X12_rich [.int (xs (i + 1)), .int (xs (i + 2))]) (hi : i + 6 ≤ Ln) (hcc : cells ≤ 10000) (hss : slots ≤ 1000000) (hl : am_lr (fun _ => 0) (lw_sa b qx qm qo) ls 7 (lw_L i u w)) (K : LwK Inv p l e s m below meth c D sa b qx qm qo i cells slots Q) : W p l e room_1 s m #[Value.ref b] below meth c H locs cells slots Q (F0 m 1352 ls []) := by
  obtain ⟨⟨fx, ex⟩, ⟨fm, em⟩⟩ := hSh hx hm hI
  obtain ⟨z, hx', hm', kx, jx, km, jm, r1, r2, b1, b2, hI'⟩ := hag hx hm hI
  refine lw_W C.1 C.2.1 C.2.2.2.1 (lw_Ks C.2.2.2.2.1 _) (ad := fun _ => 0) (sa := lw_sa b qx qm qo) 1 (pc := 1352) (pc' := 1353) (L := lw_L i u w) (L' := lw_L i u w) (st := []) (st' := [.retAddr 10]) rfl hl (fun ls hl => ?_)
  refine lw_ld C S (pc := 1353) (k := 1) (kc := 1) (st := [.retAddr 10]) (nI_add i 1) (by omega) rfl dL_law_1358 hl (fun ls hl => ?_)
  refine lw_ld C S (pc := 1359) (k := 2) (kc := 2) (st := [.int (xs (i + 1)), .retAddr 10]) (nI_add i 2) (by omega) rfl dL_law_1364 hl (fun ls hl => ?_)
  refine lw_callX (pc := 1365) (as := [.int (xs (i + 1)), .int (xs (i + 2))]) (rest := []) C hl.1.1 dL_law_1365 rfl rfl (List.forall_mem_cons.mpr ⟨Or.inl ⟨_, rfl⟩, List.forall_mem_cons.mpr ⟨Or.inl ⟨_, rfl⟩, fun v hv => nomatch hv⟩⟩) (Nat.le_of_ble_eq_true rfl) ex r1 (Or.inl ⟨_, rfl⟩) (Nat.le_of_ble_eq_true rfl) (by omega) (by omega) S (fun H1 locs1 S => ?_)
  refine lw_W C.1 C.2.1 C.2.2.2.1 (lw_Ks C.2.2.2.2.1 _) (ad := fun _ => 0) (sa := lw_sa b qx qm qo) 1 (pc := 1368) (pc' := 1369) (L := lw_L i u w) (L' := lw_L i u w) (st := [.int z]) (st' := [.retAddr 11, .int z]) rfl hl (fun ls hl => ?_)
  refine lw_ld C S (pc := 1369) (k := 1) (kc := 1) (st := [.retAddr 11, .int z]) (nI_add i 1) (by omega) rfl dL_law_1374 hl (fun ls hl => ?_)
  refine lw_ld C S (pc := 1375) (k := 2) (kc := 2) (st := [.int (xs (i + 1)), .retAddr 11, .int z]) (nI_add i 2) (by omega) rfl dL_law_1380 hl (fun ls hl => ?_)
  refine lw_callM (pc := 1381) (as := [.int (xs (i + 1)), .int (xs (i + 2))]) (rest := [.int z]) C hl.1.1 dL_law_1381 rfl rfl (List.forall_mem_cons.mpr ⟨Or.inl ⟨_, rfl⟩, List.forall_mem_cons.mpr ⟨Or.inl ⟨_, rfl⟩, fun v hv => nomatch hv⟩⟩) (Nat.le_of_ble_eq_true rfl) em r2 (Or.inl ⟨_, rfl⟩) (Nat.le_of_ble_eq_true rfl) (by omega) (by omega) S (fun H1 locs1 S => ?_)
  refine lw_W C.1 C.2.1 C.2.2.2.1 (lw_Ks C.2.2.2.2.1 _) (ad := fun _ => 0) (sa := lw_sa b qx qm qo) 1 (pc := 1384) (pc' := 1514) (L := lw_L i u w) (L' := lw_L i u w) (st := [.int z, .int z]) (st' := []) (lw_br rfl) hl (fun ls hl => ?_)
  exact K hx' hm' _ _ ls _ _ _ _ hI' S hl (by omega) (by omega)
set_option maxRecDepth 100000 in
set_option maxHeartbeats 4000000 in
theorem lw_c34 {p : Program} {l : Launch} {e : Env} {s : State} {m : MethodId} {below : List Frame} {meth : Method} {c : Code} {H : Heap} {locs : List Loc} {cells slots : Nat} {Q : State → Prop} {b Ln : Nat} {xs : Nat → Int32} {sa av : Nat → Nat} {D : va_G} {hx hm : AmH} {qx qm qo : Nat} {ls : Array Slot} {i : Nat} {u w : Option Value} {Inv : AmH → AmH → Prop} (hSh : lw_Sh Inv) (C : LwC p s m c b Ln xs sa av) (S : LwS D sa s H locs hx hm qx qm qo) (hI : Inv hx hm) (hag : lw_AgI Inv m_X11_chain m_X12_chain []) (hi : i + 6 ≤ Ln) (hcc : cells ≤ 10000) (hss : slots ≤ 1000000) (hl : am_lr (fun _ => 0) (lw_sa b qx qm qo) ls 7 (lw_L i u w)) (K : LwK Inv p l e s m below meth c D sa b qx qm qo i cells slots Q) : W p l e room_1 s m #[Value.ref b] below meth c H locs cells slots Q (F0 m 1389 ls []) := by
  obtain ⟨⟨fx, ex⟩, ⟨fm, em⟩⟩ := hSh hx hm hI
  obtain ⟨z, hx', hm', kx, jx, km, jm, r1, r2, b1, b2, hI'⟩ := hag hx hm hI
  refine lw_W C.1 C.2.1 C.2.2.2.1 (lw_Ks C.2.2.2.2.1 _) (ad := fun _ => 0) (sa := lw_sa b qx qm qo) 1 (pc := 1389) (pc' := 1390) (L := lw_L i u w) (L' := lw_L i u w) (st := []) (st' := [.retAddr 10]) rfl hl (fun ls hl => ?_)
  refine lw_callX (pc := 1390) (as := []) (rest := []) C hl.1.1 dL_law_1390 rfl rfl (fun v hv => nomatch hv) (Nat.le_of_ble_eq_true rfl) ex r1 (Or.inl ⟨_, rfl⟩) (Nat.le_of_ble_eq_true rfl) (by omega) (by omega) S (fun H1 locs1 S => ?_)
  refine lw_W C.1 C.2.1 C.2.2.2.1 (lw_Ks C.2.2.2.2.1 _) (ad := fun _ => 0) (sa := lw_sa b qx qm qo) 1 (pc := 1393) (pc' := 1394) (L := lw_L i u w) (L' := lw_L i u w) (st := [.int z]) (st' := [.retAddr 11, .int z]) rfl hl (fun ls hl => ?_)
  refine lw_callM (pc := 1394) (as := []) (rest := [.int z]) C hl.1.1 dL_law_1394 rfl rfl (fun v hv => nomatch hv) (Nat.le_of_ble_eq_true rfl) em r2 (Or.inl ⟨_, rfl⟩) (Nat.le_of_ble_eq_true rfl) (by omega) (by omega) S (fun H1 locs1 S => ?_)
  refine lw_W C.1 C.2.1 C.2.2.2.1 (lw_Ks C.2.2.2.2.1 _) (ad := fun _ => 0) (sa := lw_sa b qx qm qo) 1 (pc := 1397) (pc' := 1514) (L := lw_L i u w) (L' := lw_L i u w) (st := [.int z, .int z]) (st' := []) (lw_br rfl) hl (fun ls hl => ?_)
  exact K hx' hm' _ _ ls _ _ _ _ hI' S hl (by omega) (by omega)
set_option maxRecDepth 100000 in
set_option maxHeartbeats 4000000 in
theorem lw_c35 {p : Program} {l : Launch} {e : Env} {s : State} {m : MethodId} {below : List Frame} {meth : Method} {c : Code} {H : Heap} {locs : List Loc} {cells slots : Nat} {Q : State → Prop} {b Ln : Nat} {xs : Nat → Int32} {sa av : Nat → Nat} {D : va_G} {hx hm : AmH} {qx qm qo : Nat} {ls : Array Slot} {i : Nat} {u w : Option Value} {Inv : AmH → AmH → Prop} (hSh : lw_Sh Inv) (C : LwC p s m c b Ln xs sa av) (S : LwS D sa s H locs hx hm qx qm qo) (hI : Inv hx hm) (hag : lw_AgI Inv m_X11_mean m_X12_mean [.int (xs (i + 1)), .int (xs (i + 2)), .int (xs (i + 3)), .int (xs (i + 4))]) (hi : i + 6 ≤ Ln) (hcc : cells ≤ 10000) (hss : slots ≤ 1000000) (hl : am_lr (fun _ => 0) (lw_sa b qx qm qo) ls 7 (lw_L i u w)) (K : LwK Inv p l e s m below meth c D sa b qx qm qo i cells slots Q) : W p l e room_1 s m #[Value.ref b] below meth c H locs cells slots Q (F0 m 1402 ls []) := by
  obtain ⟨⟨fx, ex⟩, ⟨fm, em⟩⟩ := hSh hx hm hI
  obtain ⟨z, hx', hm', kx, jx, km, jm, r1, r2, b1, b2, hI'⟩ := hag hx hm hI
  refine lw_W C.1 C.2.1 C.2.2.2.1 (lw_Ks C.2.2.2.2.1 _) (ad := fun _ => 0) (sa := lw_sa b qx qm qo) 1 (pc := 1402) (pc' := 1403) (L := lw_L i u w) (L' := lw_L i u w) (st := []) (st' := [.retAddr 10]) rfl hl (fun ls hl => ?_)
  refine lw_ld C S (pc := 1403) (k := 1) (kc := 1) (st := [.retAddr 10]) (nI_add i 1) (by omega) rfl dL_law_1408 hl (fun ls hl => ?_)
  refine lw_ld C S (pc := 1409) (k := 2) (kc := 2) (st := [.int (xs (i + 1)), .retAddr 10]) (nI_add i 2) (by omega) rfl dL_law_1414 hl (fun ls hl => ?_)
  refine lw_ld C S (pc := 1415) (k := 3) (kc := 3) (st := [.int (xs (i + 2)), .int (xs (i + 1)), .retAddr 10]) (nI_add i 3) (by omega) rfl dL_law_1420 hl (fun ls hl => ?_)
  refine lw_ld C S (pc := 1421) (k := 4) (kc := 4) (st := [.int (xs (i + 3)), .int (xs (i + 2)), .int (xs (i + 1)), .retAddr 10]) (nI_add i 4) (by omega) rfl dL_law_1426 hl (fun ls hl => ?_)
  refine lw_callX (pc := 1427) (as := [.int (xs (i + 1)), .int (xs (i + 2)), .int (xs (i + 3)), .int (xs (i + 4))]) (rest := []) C hl.1.1 dL_law_1427 rfl rfl (List.forall_mem_cons.mpr ⟨Or.inl ⟨_, rfl⟩, List.forall_mem_cons.mpr ⟨Or.inl ⟨_, rfl⟩, List.forall_mem_cons.mpr ⟨Or.inl ⟨_, rfl⟩, List.forall_mem_cons.mpr ⟨Or.inl ⟨_, rfl⟩, fun v hv => nomatch hv⟩⟩⟩⟩) (Nat.le_of_ble_eq_true rfl) ex r1 (Or.inl ⟨_, rfl⟩) (Nat.le_of_ble_eq_true rfl) (by omega) (by omega) S (fun H1 locs1 S => ?_)
  refine lw_W C.1 C.2.1 C.2.2.2.1 (lw_Ks C.2.2.2.2.1 _) (ad := fun _ => 0) (sa := lw_sa b qx qm qo) 1 (pc := 1430) (pc' := 1431) (L := lw_L i u w) (L' := lw_L i u w) (st := [.int z]) (st' := [.retAddr 11, .int z]) rfl hl (fun ls hl => ?_)
  refine lw_ld C S (pc := 1431) (k := 1) (kc := 1) (st := [.retAddr 11, .int z]) (nI_add i 1) (by omega) rfl dL_law_1436 hl (fun ls hl => ?_)
  refine lw_ld C S (pc := 1437) (k := 2) (kc := 2) (st := [.int (xs (i + 1)), .retAddr 11, .int z]) (nI_add i 2) (by omega) rfl dL_law_1442 hl (fun ls hl => ?_)
  refine lw_ld C S (pc := 1443) (k := 3) (kc := 3) (st := [.int (xs (i + 2)), .int (xs (i + 1)), .retAddr 11, .int z]) (nI_add i 3) (by omega) rfl dL_law_1448 hl (fun ls hl => ?_)
  refine lw_ld C S (pc := 1449) (k := 4) (kc := 4) (st := [.int (xs (i + 3)), .int (xs (i + 2)), .int (xs (i + 1)), .retAddr 11, .int z]) (nI_add i 4) (by omega) rfl dL_law_1454 hl (fun ls hl => ?_)
  refine lw_callM (pc := 1455) (as := [.int (xs (i + 1)), .int (xs (i + 2)), .int (xs (i + 3)), .int (xs (i + 4))]) (rest := [.int z]) C hl.1.1 dL_law_1455 rfl rfl (List.forall_mem_cons.mpr ⟨Or.inl ⟨_, rfl⟩, List.forall_mem_cons.mpr ⟨Or.inl ⟨_, rfl⟩, List.forall_mem_cons.mpr ⟨Or.inl ⟨_, rfl⟩, List.forall_mem_cons.mpr ⟨Or.inl ⟨_, rfl⟩, fun v hv => nomatch hv⟩⟩⟩⟩) (Nat.le_of_ble_eq_true rfl) em r2 (Or.inl ⟨_, rfl⟩) (Nat.le_of_ble_eq_true rfl) (by omega) (by omega) S (fun H1 locs1 S => ?_)
  refine lw_W C.1 C.2.1 C.2.2.2.1 (lw_Ks C.2.2.2.2.1 _) (ad := fun _ => 0) (sa := lw_sa b qx qm qo) 1 (pc := 1458) (pc' := 1514) (L := lw_L i u w) (L' := lw_L i u w) (st := [.int z, .int z]) (st' := []) (lw_br rfl) hl (fun ls hl => ?_)
  exact K hx' hm' _ _ ls _ _ _ _ hI' S hl (by omega) (by omega)
set_option maxRecDepth 100000 in
set_option maxHeartbeats 4000000 in
theorem lw_c36 {p : Program} {l : Launch} {e : Env} {s : State} {m : MethodId} {below : List Frame} {meth : Method} {c : Code} {H : Heap} {locs : List Loc} {cells slots : Nat} {Q : State → Prop} {b Ln : Nat} {xs : Nat → Int32} {sa av : Nat → Nat} {D : va_G} {hx hm : AmH} {qx qm qo : Nat} {ls : Array Slot} {i : Nat} {u w : Option Value} {Inv : AmH → AmH → Prop} (hSh : lw_Sh Inv) (C : LwC p s m c b Ln xs sa av) (S : LwS D sa s H locs hx hm qx qm qo) (hI : Inv hx hm) (hag : lw_AgI Inv m_X11_image m_X12_image []) (hi : i + 6 ≤ Ln) (hcc : cells ≤ 10000) (hss : slots ≤ 1000000) (hl : am_lr (fun _ => 0) (lw_sa b qx qm qo) ls 7 (lw_L i u w)) (K : LwK Inv p l e s m below meth c D sa b qx qm qo i cells slots Q) : W p l e room_1 s m #[Value.ref b] below meth c H locs cells slots Q (F0 m 1463 ls []) := by
  obtain ⟨⟨fx, ex⟩, ⟨fm, em⟩⟩ := hSh hx hm hI
  obtain ⟨z, hx', hm', kx, jx, km, jm, r1, r2, b1, b2, hI'⟩ := hag hx hm hI
  refine lw_W C.1 C.2.1 C.2.2.2.1 (lw_Ks C.2.2.2.2.1 _) (ad := fun _ => 0) (sa := lw_sa b qx qm qo) 1 (pc := 1463) (pc' := 1464) (L := lw_L i u w) (L' := lw_L i u w) (st := []) (st' := [.retAddr 10]) rfl hl (fun ls hl => ?_)
  refine lw_callX (pc := 1464) (as := []) (rest := []) C hl.1.1 dL_law_1464 rfl rfl (fun v hv => nomatch hv) (Nat.le_of_ble_eq_true rfl) ex r1 (Or.inl ⟨_, rfl⟩) (Nat.le_of_ble_eq_true rfl) (by omega) (by omega) S (fun H1 locs1 S => ?_)
  refine lw_W C.1 C.2.1 C.2.2.2.1 (lw_Ks C.2.2.2.2.1 _) (ad := fun _ => 0) (sa := lw_sa b qx qm qo) 1 (pc := 1467) (pc' := 1468) (L := lw_L i u w) (L' := lw_L i u w) (st := [.int z]) (st' := [.retAddr 11, .int z]) rfl hl (fun ls hl => ?_)
  refine lw_callM (pc := 1468) (as := []) (rest := [.int z]) C hl.1.1 dL_law_1468 rfl rfl (fun v hv => nomatch hv) (Nat.le_of_ble_eq_true rfl) em r2 (Or.inl ⟨_, rfl⟩) (Nat.le_of_ble_eq_true rfl) (by omega) (by omega) S (fun H1 locs1 S => ?_)
  refine lw_W C.1 C.2.1 C.2.2.2.1 (lw_Ks C.2.2.2.2.1 _) (ad := fun _ => 0) (sa := lw_sa b qx qm qo) 1 (pc := 1471) (pc' := 1514) (L := lw_L i u w) (L' := lw_L i u w) (st := [.int z, .int z]) (st' := []) (lw_br rfl) hl (fun ls hl => ?_)
  exact K hx' hm' _ _ ls _ _ _ _ hI' S hl (by omega) (by omega)
set_option maxRecDepth 100000 in
set_option maxHeartbeats 4000000 in
theorem lw_c37 {p : Program} {l : Launch} {e : Env} {s : State} {m : MethodId} {below : List Frame} {meth : Method} {c : Code} {H : Heap} {locs : List Loc} {cells slots : Nat} {Q : State → Prop} {b Ln : Nat} {xs : Nat → Int32} {sa av : Nat → Nat} {D : va_G} {hx hm : AmH} {qx qm qo : Nat} {ls : Array Slot} {i : Nat} {u w : Option Value} {Inv : AmH → AmH → Prop} (hSh : lw_Sh Inv) (C : LwC p s m c b Ln xs sa av) (S : LwS D sa s H locs hx hm qx qm qo) (hI : Inv hx hm) (hag : lw_AgI Inv m_X11_back m_X12_back []) (hi : i + 6 ≤ Ln) (hcc : cells ≤ 10000) (hss : slots ≤ 1000000) (hl : am_lr (fun _ => 0) (lw_sa b qx qm qo) ls 7 (lw_L i u w)) (K : LwK Inv p l e s m below meth c D sa b qx qm qo i cells slots Q) : W p l e room_1 s m #[Value.ref b] below meth c H locs cells slots Q (F0 m 1476 ls []) := by
  obtain ⟨⟨fx, ex⟩, ⟨fm, em⟩⟩ := hSh hx hm hI
  obtain ⟨z, hx', hm', kx, jx, km, jm, r1, r2, b1, b2, hI'⟩ := hag hx hm hI
  refine lw_W C.1 C.2.1 C.2.2.2.1 (lw_Ks C.2.2.2.2.1 _) (ad := fun _ => 0) (sa := lw_sa b qx qm qo) 1 (pc := 1476) (pc' := 1477) (L := lw_L i u w) (L' := lw_L i u w) (st := []) (st' := [.retAddr 10]) rfl hl (fun ls hl => ?_)
  refine lw_callX (pc := 1477) (as := []) (rest := []) C hl.1.1 dL_law_1477 rfl rfl (fun v hv => nomatch hv) (Nat.le_of_ble_eq_true rfl) ex r1 (Or.inl ⟨_, rfl⟩) (Nat.le_of_ble_eq_true rfl) (by omega) (by omega) S (fun H1 locs1 S => ?_)
  refine lw_W C.1 C.2.1 C.2.2.2.1 (lw_Ks C.2.2.2.2.1 _) (ad := fun _ => 0) (sa := lw_sa b qx qm qo) 1 (pc := 1480) (pc' := 1481) (L := lw_L i u w) (L' := lw_L i u w) (st := [.int z]) (st' := [.retAddr 11, .int z]) rfl hl (fun ls hl => ?_)
  refine lw_callM (pc := 1481) (as := []) (rest := [.int z]) C hl.1.1 dL_law_1481 rfl rfl (fun v hv => nomatch hv) (Nat.le_of_ble_eq_true rfl) em r2 (Or.inl ⟨_, rfl⟩) (Nat.le_of_ble_eq_true rfl) (by omega) (by omega) S (fun H1 locs1 S => ?_)
  refine lw_W C.1 C.2.1 C.2.2.2.1 (lw_Ks C.2.2.2.2.1 _) (ad := fun _ => 0) (sa := lw_sa b qx qm qo) 1 (pc := 1484) (pc' := 1514) (L := lw_L i u w) (L' := lw_L i u w) (st := [.int z, .int z]) (st' := []) (lw_br rfl) hl (fun ls hl => ?_)
  exact K hx' hm' _ _ ls _ _ _ _ hI' S hl (by omega) (by omega)
set_option maxRecDepth 100000 in
set_option maxHeartbeats 4000000 in
theorem lw_c38 {p : Program} {l : Launch} {e : Env} {s : State} {m : MethodId} {below : List Frame} {meth : Method} {c : Code} {H : Heap} {locs : List Loc} {cells slots : Nat} {Q : State → Prop} {b Ln : Nat} {xs : Nat → Int32} {sa av : Nat → Nat} {D : va_G} {hx hm : AmH} {qx qm qo : Nat} {ls : Array Slot} {i : Nat} {u w : Option Value} {Inv : AmH → AmH → Prop} (hSh : lw_Sh Inv) (C : LwC p s m c b Ln xs sa av) (S : LwS D sa s H locs hx hm qx qm qo) (hI : Inv hx hm) (hag : lw_AgI Inv m_X11_count m_X12_count [.int (xs (i + 1))]) (hi : i + 6 ≤ Ln) (hcc : cells ≤ 10000) (hss : slots ≤ 1000000) (hl : am_lr (fun _ => 0) (lw_sa b qx qm qo) ls 7 (lw_L i u w)) (K : LwK Inv p l e s m below meth c D sa b qx qm qo i cells slots Q) : W p l e room_1 s m #[Value.ref b] below meth c H locs cells slots Q (F0 m 1489 ls []) := by
  obtain ⟨⟨fx, ex⟩, ⟨fm, em⟩⟩ := hSh hx hm hI
  obtain ⟨z, hx', hm', kx, jx, km, jm, r1, r2, b1, b2, hI'⟩ := hag hx hm hI
  refine lw_W C.1 C.2.1 C.2.2.2.1 (lw_Ks C.2.2.2.2.1 _) (ad := fun _ => 0) (sa := lw_sa b qx qm qo) 1 (pc := 1489) (pc' := 1490) (L := lw_L i u w) (L' := lw_L i u w) (st := []) (st' := [.retAddr 10]) rfl hl (fun ls hl => ?_)
  refine lw_ld C S (pc := 1490) (k := 1) (kc := 1) (st := [.retAddr 10]) (nI_add i 1) (by omega) rfl dL_law_1495 hl (fun ls hl => ?_)
  refine lw_callX (pc := 1496) (as := [.int (xs (i + 1))]) (rest := []) C hl.1.1 dL_law_1496 rfl rfl (List.forall_mem_cons.mpr ⟨Or.inl ⟨_, rfl⟩, fun v hv => nomatch hv⟩) (Nat.le_of_ble_eq_true rfl) ex r1 (Or.inl ⟨_, rfl⟩) (Nat.le_of_ble_eq_true rfl) (by omega) (by omega) S (fun H1 locs1 S => ?_)
  refine lw_W C.1 C.2.1 C.2.2.2.1 (lw_Ks C.2.2.2.2.1 _) (ad := fun _ => 0) (sa := lw_sa b qx qm qo) 1 (pc := 1499) (pc' := 1500) (L := lw_L i u w) (L' := lw_L i u w) (st := [.int z]) (st' := [.retAddr 11, .int z]) rfl hl (fun ls hl => ?_)
  refine lw_ld C S (pc := 1500) (k := 1) (kc := 1) (st := [.retAddr 11, .int z]) (nI_add i 1) (by omega) rfl dL_law_1505 hl (fun ls hl => ?_)
  refine lw_callM (pc := 1506) (as := [.int (xs (i + 1))]) (rest := [.int z]) C hl.1.1 dL_law_1506 rfl rfl (List.forall_mem_cons.mpr ⟨Or.inl ⟨_, rfl⟩, fun v hv => nomatch hv⟩) (Nat.le_of_ble_eq_true rfl) em r2 (Or.inl ⟨_, rfl⟩) (Nat.le_of_ble_eq_true rfl) (by omega) (by omega) S (fun H1 locs1 S => ?_)
  refine lw_W C.1 C.2.1 C.2.2.2.1 (lw_Ks C.2.2.2.2.1 _) (ad := fun _ => 0) (sa := lw_sa b qx qm qo) 1 (pc := 1509) (pc' := 1514) (L := lw_L i u w) (L' := lw_L i u w) (st := [.int z, .int z]) (st' := []) (lw_br rfl) hl (fun ls hl => ?_)
  exact K hx' hm' _ _ ls _ _ _ _ hI' S hl (by omega) (by omega)
